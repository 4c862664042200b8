theorem hd_X8_many : yX8_many.cls ≠ "java/lang/invoke/MethodHandle" ∧ yX8_many.cls ≠ "java/lang/invoke/VarHandle" ∧ (parseMethodDescriptor yX8_many.desc).map (fun d => d.parameters.length) = some 1 := by decide +kernel
def LX8_many_4 (p1 : Int32) : Nat → Int32 → Int32 → Int32
  | 0 => fun _ _ => 0
  | n + 1 => fun x1 x2 => (if 30 ≤ x2 then x1 else (LX8_many_4 p1 n (x1 + ((p1 >>> (x2 &&& 31)) &&& 1)) (x2 + 1)))
theorem LX8_many_4_eq (p1 : Int32) (n : Nat) (x1 : Int32) (x2 : Int32) : LX8_many_4 p1 (n + 1) x1 x2 = (if 30 ≤ x2 then x1 else (LX8_many_4 p1 n (x1 + ((p1 >>> (x2 &&& 31)) &&& 1)) (x2 + 1))) := rfl
def sX8_many (p1 : Int32) : Int32 := (LX8_many_4 p1 (upM 30 0 + 1) 0 0)
set_option maxHeartbeats 4000000 in
set_option maxRecDepth 100000 in
theorem c_X8_many (l : Launch) (D : va_G) (cs : Nat → ClassId) (p1 : Int32) : Met l yX8_many (wc yX8_many cX8_many 3 (some .int)) ({ frames := 0, cells := 0, slots := 0, locals := 0 } : Room) (va_Pc [.int p1] (PE D cs ([]))) (vp_Si (fun r9 => r9 = (sX8_many p1))) 0 0 (fun _ => False) := by
  obtain ⟨v, hv⟩ : ∃ v, sX8_many p1 = v := ⟨_, rfl⟩
  rw [hv]
  refine met_o (lv := [(0, .int p1)]) (by decide) (Nat.le_of_ble_eq_true rfl) rfl ?_
  intro p e s m args below meth c ls hx hb hr hml hts hown hlocks hin hP hE hl
  have hown : s.vm.findClass RX8 = some m.cls := hown
  have hK := hE.1
  have hP : va_P D vwC ([]) s.heap := hP
  unfold sX8_many at hv
  refine lv_iconst (v := 0) hx hb dX8_many_0 (by decide) ?_
  refine lv_istore_n (lv' := [(1, .int 0), (0, .int p1)]) hx hb dX8_many_1 rfl hl (by decide) rfl (fun ls hl => ?_)
  refine lv_iconst (v := 0) hx hb dX8_many_2 (by decide) ?_
  refine lv_istore_n (lv' := [(2, .int 0), (1, .int 0), (0, .int p1)]) hx hb dX8_many_3 rfl hl (by decide) rfl (fun ls hl => ?_)
  have LOOP : ∀ (n : Nat) (x1 : Int32) (x2 : Int32), upM 30 x2 < n → LX8_many_4 p1 n x1 x2 = v → ∀ ls : Array Slot, lv_has ls 3 [(0, .int p1), (1, .int x1), (2, .int x2)] → W p l e ({ frames := 0, cells := 0, slots := 0, locals := 0 } : Room) s m args below meth c s.heap [] 0 0 (MQ below (vp_Si (fun r9 => r9 = v)) args s 0 0 (fun _ => False)) (F0 m 4 ls []) := by
    clear hv
    intro n
    induction n with
    | zero => intro x1 x2 hm; exact absurd hm (Nat.not_lt_zero _)
    | succ n ih =>
      intro x1 x2 hm hv ls hl
      have hv := (LX8_many_4_eq p1 n x1 x2).symm.trans hv
      refine lv_iload_n hx hb dX8_many_4 rfl (lv_at hl 2 rfl) ?_
      refine lv_bipush (v := 30) hx hb dX8_many_5 (by decide) ?_
      refine lv_icmp_ge (tgt := 24) hx hb dX8_many_7 (by decide) (fun c7 => ?_) (fun c7 => ?_)
      · have hv := (if_pos c7).symm.trans hv
        refine lv_iload_n hx hb dX8_many_24 rfl (lv_at hl 1 rfl) ?_
        exact W.iret (v := x1) hx hb hr (fun t ht hW => ⟨x1, rfl, hv, ht⟩) (fun _ h => nomatch h) dX8_many_25 (hlocks := hlocks)
      · have hv := (if_neg c7).symm.trans hv
        refine lv_iload_n hx hb dX8_many_10 rfl (lv_at hl 1 rfl) ?_
        refine lv_iload_n hx hb dX8_many_11 rfl (lv_at hl 0 rfl) ?_
        refine lv_iload_n hx hb dX8_many_12 rfl (lv_at hl 2 rfl) ?_
        refine lv_ishr hx hb dX8_many_13 ?_
        refine lv_iconst (v := 1) hx hb dX8_many_14 (by decide) ?_
        refine lv_iand hx hb dX8_many_15 ?_
        refine lv_iadd hx hb dX8_many_16 ?_
        refine lv_istore_n (lv' := [(1, .int (x1 + ((p1 >>> (x2 &&& 31)) &&& 1))), (0, .int p1), (2, .int x2)]) hx hb dX8_many_17 rfl hl (by decide) rfl (fun ls hl => ?_)
        refine lv_iinc (v := x2 + 1) (lv' := [(2, .int (x2 + 1)), (1, .int (x1 + ((p1 >>> (x2 &&& 31)) &&& 1))), (0, .int p1)]) hx hb dX8_many_18 hl (k := 2) rfl rfl (by decide) rfl (fun ls hl => ?_)
        refine lv_goto (tgt := 4) hx hb dX8_many_21 (by decide) ?_
        exact ih (x1 + ((p1 >>> (x2 &&& 31)) &&& 1)) (x2 + 1) (upM_s c7 hm) hv ls (lv_sub hl [2, 1, 0] rfl)
  exact LOOP _ 0 0 (Nat.lt_succ_self _) hv ls (lv_sub hl [2, 1, 0] rfl)
theorem hd_X8_in : yX8_in.cls ≠ "java/lang/invoke/MethodHandle" ∧ yX8_in.cls ≠ "java/lang/invoke/VarHandle" ∧ (parseMethodDescriptor yX8_in.desc).map (fun d => d.parameters.length) = some 3 := by decide +kernel
def sX8_in (p1 : Int64) (p2 : Int64) (p3 : Int64) : Bool := (if (lg_cmp p1 p2) < 0 then false else (if 0 < (lg_cmp p1 p3) then false else true))
set_option maxHeartbeats 4000000 in
set_option maxRecDepth 100000 in
theorem c_X8_in (l : Launch) (D : va_G) (cs : Nat → ClassId) (p1 : Int64) (p2 : Int64) (p3 : Int64) : Met l yX8_in (wc yX8_in cX8_in 6 (some .boolean)) ({ frames := 0, cells := 0, slots := 0, locals := 0 } : Room) (va_Pc [.long p1, .long p2, .long p3] (PE D cs ([]))) (vp_Si (fun r9 => r9 = b2i (sX8_in p1 p2 p3))) 0 0 (fun _ => False) := by
  obtain ⟨v, hv⟩ : ∃ v, sX8_in p1 p2 p3 = v := ⟨_, rfl⟩
  rw [hv]
  refine met_o (lv := [(0, .long p1), (2, .long p2), (4, .long p3)]) (by decide) (Nat.le_of_ble_eq_true rfl) rfl ?_
  intro p e s m args below meth c ls hx hb hr hml hts hown hlocks hin hP hE hl
  have hown : s.vm.findClass RX8 = some m.cls := hown
  have hK := hE.1
  have hP : va_P D vwC ([]) s.heap := hP
  unfold sX8_in at hv
  refine lv_lload_n hx hb dX8_in_0 rfl (lv_at hl 0 rfl) ?_
  refine lv_lload_n hx hb dX8_in_1 rfl (lv_at hl 1 rfl) ?_
  refine W.lcmp hx hb dX8_in_2 ?_
  refine join_i (J := 18) (ls := ls) (rest := []) (b2i (if (lg_cmp p1 p2) < 0 then false else (if 0 < (lg_cmp p1 p3) then false else true))) ?_ (fun hJ => ?_)
  · exact W.zret (ty := .boolean) (v := b2i (if (lg_cmp p1 p2) < 0 then false else (if 0 < (lg_cmp p1 p3) then false else true))) hx hb hr (b2i_nar (if (lg_cmp p1 p2) < 0 then false else (if 0 < (lg_cmp p1 p3) then false else true))) (fun t ht hW => ⟨b2i (if (lg_cmp p1 p2) < 0 then false else (if 0 < (lg_cmp p1 p3) then false else true)), rfl, congrArg b2i hv, ht⟩) (fun _ h => nomatch h) dX8_in_18 (hlocks := hlocks)
  · refine lv_if_lt (tgt := 17) hx hb dX8_in_3 (by decide) (fun c3 => ?_) (fun c3 => ?_)
    · refine lv_iconst (v := 0) hx hb dX8_in_17 (by decide) ?_
      exact hJ _ (congrArg b2i ((if_pos c3).trans rfl))
    · refine lv_lload_n hx hb dX8_in_6 rfl (lv_at hl 0 rfl) ?_
      refine lv_lload hx hb dX8_in_7 (lv_at hl 2 rfl) ?_
      refine W.lcmp hx hb dX8_in_9 ?_
      refine lv_if_gt (tgt := 17) hx hb dX8_in_10 (by decide) (fun c10 => ?_) (fun c10 => ?_)
      · refine lv_iconst (v := 0) hx hb dX8_in_17 (by decide) ?_
        exact hJ _ (congrArg b2i ((if_neg c3).trans ((if_pos c10).trans rfl)))
      · refine lv_iconst (v := 1) hx hb dX8_in_13 (by decide) ?_
        refine lv_goto (tgt := 18) hx hb dX8_in_14 (by decide) ?_
        exact hJ _ (congrArg b2i ((if_neg c3).trans ((if_neg c10).trans rfl)))
theorem hd_X8_has : yX8_has.cls ≠ "java/lang/invoke/MethodHandle" ∧ yX8_has.cls ≠ "java/lang/invoke/VarHandle" ∧ (parseMethodDescriptor yX8_has.desc).map (fun d => d.parameters.length) = some 2 := by decide +kernel
def sX8_has (p1 : Int32) (p2 : Int32) : Bool := (if ((p1 >>> (p2 &&& 31)) &&& 1) = 1 then true else false)
set_option maxHeartbeats 4000000 in
set_option maxRecDepth 100000 in
theorem c_X8_has (l : Launch) (D : va_G) (cs : Nat → ClassId) (p1 : Int32) (p2 : Int32) : Met l yX8_has (wc yX8_has cX8_has 2 (some .boolean)) ({ frames := 0, cells := 0, slots := 0, locals := 0 } : Room) (va_Pc [.int p1, .int p2] (PE D cs ([]))) (vp_Si (fun r9 => r9 = b2i (sX8_has p1 p2))) 0 0 (fun _ => False) := by
  obtain ⟨v, hv⟩ : ∃ v, sX8_has p1 p2 = v := ⟨_, rfl⟩
  rw [hv]
  refine met_o (lv := [(0, .int p1), (1, .int p2)]) (by decide) (Nat.le_of_ble_eq_true rfl) rfl ?_
  intro p e s m args below meth c ls hx hb hr hml hts hown hlocks hin hP hE hl
  have hown : s.vm.findClass RX8 = some m.cls := hown
  have hK := hE.1
  have hP : va_P D vwC ([]) s.heap := hP
  unfold sX8_has at hv
  refine lv_iload_n hx hb dX8_has_0 rfl (lv_at hl 0 rfl) ?_
  refine lv_iload_n hx hb dX8_has_1 rfl (lv_at hl 1 rfl) ?_
  refine lv_ishr hx hb dX8_has_2 ?_
  refine lv_iconst (v := 1) hx hb dX8_has_3 (by decide) ?_
  refine lv_iand hx hb dX8_has_4 ?_
  refine lv_iconst (v := 1) hx hb dX8_has_5 (by decide) ?_
  refine join_i (J := 14) (ls := ls) (rest := []) (b2i (if ((p1 >>> (p2 &&& 31)) &&& 1) = 1 then true else false)) ?_ (fun hJ => ?_)
  · exact W.zret (ty := .boolean) (v := b2i (if ((p1 >>> (p2 &&& 31)) &&& 1) = 1 then true else false)) hx hb hr (b2i_nar (if ((p1 >>> (p2 &&& 31)) &&& 1) = 1 then true else false)) (fun t ht hW => ⟨b2i (if ((p1 >>> (p2 &&& 31)) &&& 1) = 1 then true else false), rfl, congrArg b2i hv, ht⟩) (fun _ h => nomatch h) dX8_has_14 (hlocks := hlocks)
  · refine lv_icmp_ne (tgt := 13) hx hb dX8_has_6 (by decide) (fun c6 => ?_) (fun c6 => ?_)
    · refine lv_iconst (v := 0) hx hb dX8_has_13 (by decide) ?_
      exact hJ _ (congrArg b2i ((if_neg c6).trans rfl))
    · refine lv_iconst (v := 1) hx hb dX8_has_9 (by decide) ?_
      refine lv_goto (tgt := 14) hx hb dX8_has_10 (by decide) ?_
      exact hJ _ (congrArg b2i ((if_pos c6).trans rfl))
theorem hd_X8_tens : yX8_tens.cls ≠ "java/lang/invoke/MethodHandle" ∧ yX8_tens.cls ≠ "java/lang/invoke/VarHandle" ∧ (parseMethodDescriptor yX8_tens.desc).map (fun d => d.parameters.length) = some 1 := by decide +kernel
def LX8_tens_4 (p1 : Int32) : Nat → Int64 → Int32 → Int64
  | 0 => fun _ _ => 0
  | n + 1 => fun x1 x3 => (if p1 ≤ x3 then x1 else (LX8_tens_4 p1 n (x1 * (10 : Int64)) (x3 + 1)))
theorem LX8_tens_4_eq (p1 : Int32) (n : Nat) (x1 : Int64) (x3 : Int32) : LX8_tens_4 p1 (n + 1) x1 x3 = (if p1 ≤ x3 then x1 else (LX8_tens_4 p1 n (x1 * (10 : Int64)) (x3 + 1))) := rfl
def sX8_tens (p1 : Int32) : Int64 := (LX8_tens_4 p1 (upM p1 0 + 1) (1 : Int64) 0)
set_option maxHeartbeats 4000000 in
set_option maxRecDepth 100000 in
theorem c_X8_tens (l : Launch) (D : va_G) (cs : Nat → ClassId) (p1 : Int32) : Met l yX8_tens (wc yX8_tens cX8_tens 4 (some .long)) ({ frames := 0, cells := 0, slots := 0, locals := 0 } : Room) (va_Pc [.int p1] (PE D cs ([]))) (vp_Sl (fun r9 => r9 = (sX8_tens p1))) 0 0 (fun _ => False) := by
  obtain ⟨v, hv⟩ : ∃ v, sX8_tens p1 = v := ⟨_, rfl⟩
  rw [hv]
  refine met_o (lv := [(0, .int p1)]) (by decide) (Nat.le_of_ble_eq_true rfl) rfl ?_
  intro p e s m args below meth c ls hx hb hr hml hts hown hlocks hin hP hE hl
  have hown : s.vm.findClass RX8 = some m.cls := hown
  have hK := hE.1
  have hP : va_P D vwC ([]) s.heap := hP
  unfold sX8_tens at hv
  refine lv_lconst (v := 1) hx hb dX8_tens_0 (by decide) ?_
  refine lv_lstore_n (lv' := [(1, .long (1 : Int64)), (0, .int p1)]) hx hb dX8_tens_1 rfl hl (by decide) rfl (fun ls hl => ?_)
  refine lv_iconst (v := 0) hx hb dX8_tens_2 (by decide) ?_
  refine lv_istore_n (lv' := [(3, .int 0), (1, .long (1 : Int64)), (0, .int p1)]) hx hb dX8_tens_3 rfl hl (by decide) rfl (fun ls hl => ?_)
  have LOOP : ∀ (n : Nat) (x1 : Int64) (x3 : Int32), upM p1 x3 < n → LX8_tens_4 p1 n x1 x3 = v → ∀ ls : Array Slot, lv_has ls 4 [(0, .int p1), (1, .long x1), (3, .int x3)] → W p l e ({ frames := 0, cells := 0, slots := 0, locals := 0 } : Room) s m args below meth c s.heap [] 0 0 (MQ below (vp_Sl (fun r9 => r9 = v)) args s 0 0 (fun _ => False)) (F0 m 4 ls []) := by
    clear hv
    intro n
    induction n with
    | zero => intro x1 x3 hm; exact absurd hm (Nat.not_lt_zero _)
    | succ n ih =>
      intro x1 x3 hm hv ls hl
      have hv := (LX8_tens_4_eq p1 n x1 x3).symm.trans hv
      refine lv_iload_n hx hb dX8_tens_4 rfl (lv_at hl 2 rfl) ?_
      refine lv_iload_n hx hb dX8_tens_5 rfl (lv_at hl 0 rfl) ?_
      refine lv_icmp_ge (tgt := 21) hx hb dX8_tens_6 (by decide) (fun c6 => ?_) (fun c6 => ?_)
      · have hv := (if_pos c6).symm.trans hv
        refine lv_lload_n hx hb dX8_tens_21 rfl (lv_at hl 1 rfl) ?_
        exact W.lret (v := x1) hx hb hr (fun t ht hW => ⟨x1, rfl, hv, ht⟩) (fun _ h => nomatch h) dX8_tens_22 (hlocks := hlocks)
      · have hv := (if_neg c6).symm.trans hv
        refine lv_lload_n hx hb dX8_tens_9 rfl (lv_at hl 1 rfl) ?_
        refine lv_ldc2 (v := 10) hx hb hown (hts _ w_cn_X8_40) dX8_tens_10 ?_
        refine lv_lmul hx hb dX8_tens_13 ?_
        refine lv_lstore_n (lv' := [(1, .long (x1 * (10 : Int64))), (0, .int p1), (3, .int x3)]) hx hb dX8_tens_14 rfl hl (by decide) rfl (fun ls hl => ?_)
        refine lv_iinc (v := x3 + 1) (lv' := [(3, .int (x3 + 1)), (1, .long (x1 * (10 : Int64))), (0, .int p1)]) hx hb dX8_tens_15 hl (k := 2) rfl rfl (by decide) rfl (fun ls hl => ?_)
        refine lv_goto (tgt := 4) hx hb dX8_tens_18 (by decide) ?_
        exact ih (x1 * (10 : Int64)) (x3 + 1) (upM_s c6 hm) hv ls (lv_sub hl [2, 1, 0] rfl)
  exact LOOP _ (1 : Int64) 0 (Nat.lt_succ_self _) hv ls (lv_sub hl [2, 1, 0] rfl)
theorem hd_X8_fresh : yX8_fresh.cls ≠ "java/lang/invoke/MethodHandle" ∧ yX8_fresh.cls ≠ "java/lang/invoke/VarHandle" ∧ (parseMethodDescriptor yX8_fresh.desc).map (fun d => d.parameters.length) = some 1 := by decide +kernel
def LX8_fresh_2 (r : Nat → Int32) : Nat → Int32 → (Nat → Int32) → (Nat → Int32)
  | 0 => fun _ _ => r
  | n + 1 => fun x1 O9 => (if 414 ≤ x1 then (upd (upd (upd O9 (5 : Int32).toNatClampNeg 3) (6 : Int32).toNatClampNeg 1) (7 : Int32).toNatClampNeg 5) else (LX8_fresh_2 r n (x1 + 1) (upd O9 x1.toNatClampNeg 0)))
theorem LX8_fresh_2_eq (r : Nat → Int32) (n : Nat) (x1 : Int32) (O9 : (Nat → Int32)) : LX8_fresh_2 r (n + 1) x1 O9 = (if 414 ≤ x1 then (upd (upd (upd O9 (5 : Int32).toNatClampNeg 3) (6 : Int32).toNatClampNeg 1) (7 : Int32).toNatClampNeg 5) else (LX8_fresh_2 r n (x1 + 1) (upd O9 x1.toNatClampNeg 0))) := rfl
def sX8_fresh (r : Nat → Int32) : (Nat → Int32) := (LX8_fresh_2 r (upM 414 0 + 1) 0 r)
set_option maxHeartbeats 4000000 in
set_option maxRecDepth 100000 in
theorem c_X8_fresh (l : Launch) (D : va_G) (cs : Nat → ClassId) (q : Nat) (r : Nat → Int32) : Met l yX8_fresh (wc yX8_fresh cX8_fresh 2 none) ({ frames := 0, cells := 0, slots := 0, locals := 0 } : Room) (va_Pc [.ref q] (PE D cs (rowW cs q r))) (va_Qv (fun u : (Nat → Int32) => u = (sX8_fresh r)) (fun u t => va_P D vwC (rowW cs q u) t.heap) (rA q)) 0 0 (rA q) := by
  obtain ⟨v, hv⟩ : ∃ v, sX8_fresh r = v := ⟨_, rfl⟩
  rw [hv]
  refine met_o (lv := [(0, .ref q)]) (by decide) (Nat.le_of_ble_eq_true rfl) rfl ?_
  intro p e s m args below meth c ls hx hb hr hml hts hown hlocks hin hP hE hl
  have hown : s.vm.findClass RX8 = some m.cls := hown
  have hK := hE.1
  have hP : va_P D vwC (rowW cs q r) s.heap := hP
  have hS : va_S (rA q) s.heap s.heap [] := va_S.rf
  unfold sX8_fresh at hv
  refine lv_iconst (v := 0) hx hb dX8_fresh_0 (by decide) ?_
  refine lv_istore_n (lv' := [(1, .int 0), (0, .ref q)]) hx hb dX8_fresh_1 rfl hl (by decide) rfl (fun ls hl => ?_)
  have LOOP : ∀ (n : Nat) (x1 : Int32) (O9 : (Nat → Int32)), upM 414 x1 < n → (¬ x1 < 0) → LX8_fresh_2 r n x1 O9 = v → ∀ (H : Heap) (locs : List Loc), va_P D vwC (rowW cs q O9) H → va_S (rA q) s.heap H locs → ∀ ls : Array Slot, lv_has ls 2 [(0, .ref q), (1, .int x1)] → W p l e ({ frames := 0, cells := 0, slots := 0, locals := 0 } : Room) s m args below meth c H locs 0 0 (MQ below (va_Qv (fun u : (Nat → Int32) => u = v) (fun u t => va_P D vwC (rowW cs q u) t.heap) (rA q)) args s 0 0 (rA q)) (F0 m 2 ls []) := by
    clear hv
    intro n
    induction n with
    | zero => intro x1 O9 hm; exact absurd hm (Nat.not_lt_zero _)
    | succ n ih =>
      intro x1 O9 hm i0 hv H locs hP hS ls hl
      have hv := (LX8_fresh_2_eq r n x1 O9).symm.trans hv
      refine lv_iload_n hx hb dX8_fresh_2 rfl (lv_at hl 1 rfl) ?_
      refine lv_sipush (v := 414) hx hb dX8_fresh_3 (by decide) ?_
      refine lv_icmp_ge (tgt := 19) hx hb dX8_fresh_6 (by decide) (fun c6 => ?_) (fun c6 => ?_)
      · have hv := (if_pos c6).symm.trans hv
        refine lv_aload_n hx hb dX8_fresh_19 rfl (lv_at hl 0 rfl) ?_
        refine lv_iconst (v := 5) hx hb dX8_fresh_20 (by decide) ?_
        refine lv_iconst (v := 3) hx hb dX8_fresh_21 (by decide) ?_
        refine va_iast (cA := cs 0) (n := 414) (f := O9) hx hb hK hP (row_D cs q O9) hS 0 0 rfl rfl (by unfold vp_in; decide) dX8_fresh_22 (fun H locs hP _ hS => ?_)
        have hP : va_P D vwC (rowW cs q (upd O9 (5 : Int32).toNatClampNeg 3)) H := hP
        refine lv_aload_n hx hb dX8_fresh_23 rfl (lv_at hl 0 rfl) ?_
        refine lv_bipush (v := 6) hx hb dX8_fresh_24 (by decide) ?_
        refine lv_iconst (v := 1) hx hb dX8_fresh_26 (by decide) ?_
        refine va_iast (cA := cs 0) (n := 414) (f := (upd O9 (5 : Int32).toNatClampNeg 3)) hx hb hK hP (row_D cs q (upd O9 (5 : Int32).toNatClampNeg 3)) hS 0 0 rfl rfl (by unfold vp_in; decide) dX8_fresh_27 (fun H locs hP _ hS => ?_)
        have hP : va_P D vwC (rowW cs q (upd (upd O9 (5 : Int32).toNatClampNeg 3) (6 : Int32).toNatClampNeg 1)) H := hP
        refine lv_aload_n hx hb dX8_fresh_28 rfl (lv_at hl 0 rfl) ?_
        refine lv_bipush (v := 7) hx hb dX8_fresh_29 (by decide) ?_
        refine lv_iconst (v := 5) hx hb dX8_fresh_31 (by decide) ?_
        refine va_iast (cA := cs 0) (n := 414) (f := (upd (upd O9 (5 : Int32).toNatClampNeg 3) (6 : Int32).toNatClampNeg 1)) hx hb hK hP (row_D cs q (upd (upd O9 (5 : Int32).toNatClampNeg 3) (6 : Int32).toNatClampNeg 1)) hS 0 0 rfl rfl (by unfold vp_in; decide) dX8_fresh_32 (fun H locs hP _ hS => ?_)
        have hP : va_P D vwC (rowW cs q (upd (upd (upd O9 (5 : Int32).toNatClampNeg 3) (6 : Int32).toNatClampNeg 1) (7 : Int32).toNatClampNeg 5)) H := hP
        exact W.vret hx hb hr (fun t ht hW => ⟨⟨(upd (upd (upd O9 (5 : Int32).toNatClampNeg 3) (6 : Int32).toNatClampNeg 1) (7 : Int32).toNatClampNeg 5), rfl, hv, pw ht hP⟩, hS.F ht⟩) hS.2.2 dX8_fresh_33 (hlocks := hlocks)
      · have hv := (if_neg c6).symm.trans hv
        refine lv_aload_n hx hb dX8_fresh_9 rfl (lv_at hl 0 rfl) ?_
        refine lv_iload_n hx hb dX8_fresh_10 rfl (lv_at hl 1 rfl) ?_
        refine lv_iconst (v := 0) hx hb dX8_fresh_11 (by decide) ?_
        refine va_iast (cA := cs 0) (n := 414) (f := O9) hx hb hK hP (row_D cs q O9) hS 0 0 rfl rfl (vp_a rfl i0 c6) dX8_fresh_12 (fun H locs hP _ hS => ?_)
        have hP : va_P D vwC (rowW cs q (upd O9 x1.toNatClampNeg 0)) H := hP
        refine lv_iinc (v := x1 + 1) (lv' := [(1, .int (x1 + 1)), (0, .ref q)]) hx hb dX8_fresh_13 hl (k := 1) rfl rfl (by decide) rfl (fun ls hl => ?_)
        refine lv_goto (tgt := 2) hx hb dX8_fresh_16 (by decide) ?_
        exact ih (x1 + 1) (upd O9 x1.toNatClampNeg 0) (upM_s c6 hm) (nn_inc i0 c6) hv _ _ hP hS ls (lv_sub hl [1, 0] rfl)
  exact LOOP _ 0 r (Nat.lt_succ_self _) (by decide) hv _ _ hP hS ls (lv_sub hl [1, 0] rfl)
theorem hd_X8_copy : yX8_copy.cls ≠ "java/lang/invoke/MethodHandle" ∧ yX8_copy.cls ≠ "java/lang/invoke/VarHandle" ∧ (parseMethodDescriptor yX8_copy.desc).map (fun d => d.parameters.length) = some 2 := by decide +kernel
def LX8_copy_2 (r r2 : Nat → Int32) : Nat → Int32 → (Nat → Int32) → (Nat → Int32)
  | 0 => fun _ _ => r
  | n + 1 => fun x2 O9 => (if 414 ≤ x2 then O9 else (LX8_copy_2 r r2 n (x2 + 1) (upd O9 x2.toNatClampNeg (r2 x2.toNatClampNeg))))
theorem LX8_copy_2_eq (r r2 : Nat → Int32) (n : Nat) (x2 : Int32) (O9 : (Nat → Int32)) : LX8_copy_2 r r2 (n + 1) x2 O9 = (if 414 ≤ x2 then O9 else (LX8_copy_2 r r2 n (x2 + 1) (upd O9 x2.toNatClampNeg (r2 x2.toNatClampNeg)))) := rfl
def sX8_copy (r r2 : Nat → Int32) : (Nat → Int32) := (LX8_copy_2 r r2 (upM 414 0 + 1) 0 r)
set_option maxHeartbeats 4000000 in
set_option maxRecDepth 100000 in
theorem c_X8_copy (l : Launch) (D : va_G) (cs : Nat → ClassId) (q q2 : Nat) (r r2 : Nat → Int32) (hd : q ≠ q2) : Met l yX8_copy (wc yX8_copy cX8_copy 3 none) ({ frames := 0, cells := 0, slots := 0, locals := 0 } : Room) (va_Pc [.ref q2, .ref q] (PE D cs ((rowW cs q r) ++ (rowW cs q2 r2)))) (va_Qv (fun u : (Nat → Int32) => u = (sX8_copy r r2)) (fun u t => va_P D vwC ((rowW cs q u) ++ (rowW cs q2 r2)) t.heap) (fun x => x = q ∨ x = q2)) 0 0 (fun x => x = q ∨ x = q2) := by
  obtain ⟨v, hv⟩ : ∃ v, sX8_copy r r2 = v := ⟨_, rfl⟩
  rw [hv]
  refine met_o (lv := [(0, .ref q2), (1, .ref q)]) (by decide) (Nat.le_of_ble_eq_true rfl) rfl ?_
  intro p e s m args below meth c ls hx hb hr hml hts hown hlocks hin hP hE hl
  have hown : s.vm.findClass RX8 = some m.cls := hown
  have hK := hE.1
  have hP : va_P D vwC ((rowW cs q r) ++ (rowW cs q2 r2)) s.heap := hP
  have hS : va_S (fun x => x = q ∨ x = q2) s.heap s.heap [] := va_S.rf
  unfold sX8_copy at hv
  refine lv_iconst (v := 0) hx hb dX8_copy_0 (by decide) ?_
  refine lv_istore_n (lv' := [(2, .int 0), (0, .ref q2), (1, .ref q)]) hx hb dX8_copy_1 rfl hl (by decide) rfl (fun ls hl => ?_)
  have LOOP : ∀ (n : Nat) (x2 : Int32) (O9 : (Nat → Int32)), upM 414 x2 < n → (¬ x2 < 0) → LX8_copy_2 r r2 n x2 O9 = v → ∀ (H : Heap) (locs : List Loc), va_P D vwC ((rowW cs q O9) ++ (rowW cs q2 r2)) H → va_S (fun x => x = q ∨ x = q2) s.heap H locs → ∀ ls : Array Slot, lv_has ls 3 [(0, .ref q2), (1, .ref q), (2, .int x2)] → W p l e ({ frames := 0, cells := 0, slots := 0, locals := 0 } : Room) s m args below meth c H locs 0 0 (MQ below (va_Qv (fun u : (Nat → Int32) => u = v) (fun u t => va_P D vwC ((rowW cs q u) ++ (rowW cs q2 r2)) t.heap) (fun x => x = q ∨ x = q2)) args s 0 0 (fun x => x = q ∨ x = q2)) (F0 m 2 ls []) := by
    clear hv
    intro n
    induction n with
    | zero => intro x2 O9 hm; exact absurd hm (Nat.not_lt_zero _)
    | succ n ih =>
      intro x2 O9 hm i0 hv H locs hP hS ls hl
      have hv := (LX8_copy_2_eq r r2 n x2 O9).symm.trans hv
      refine lv_iload_n hx hb dX8_copy_2 rfl (lv_at hl 2 rfl) ?_
      refine lv_sipush (v := 414) hx hb dX8_copy_3 (by decide) ?_
      refine lv_icmp_ge (tgt := 21) hx hb dX8_copy_6 (by decide) (fun c6 => ?_) (fun c6 => ?_)
      · have hv := (if_pos c6).symm.trans hv
        exact W.vret hx hb hr (fun t ht hW => ⟨⟨O9, rfl, hv, pw ht hP⟩, hS.F ht⟩) hS.2.2 dX8_copy_21 (hlocks := hlocks)
      · have hv := (if_neg c6).symm.trans hv
        refine lv_aload_n hx hb dX8_copy_9 rfl (lv_at hl 1 rfl) ?_
        refine lv_iload_n hx hb dX8_copy_10 rfl (lv_at hl 2 rfl) ?_
        refine lv_aload_n hx hb dX8_copy_11 rfl (lv_at hl 0 rfl) ?_
        refine lv_iload_n hx hb dX8_copy_12 rfl (lv_at hl 2 rfl) ?_
        refine va_iald (cA := cs 0) (n := 414) (f := r2) hx hb hK hP 1 0 rfl rfl (vp_a rfl i0 c6) dX8_copy_13 ?_
        refine va_iast (cA := cs 0) (n := 414) (f := O9) hx hb hK hP (row2_D cs O9 r2 hd) hS 0 0 rfl rfl (vp_a rfl i0 c6) dX8_copy_14 (fun H locs hP _ hS => ?_)
        have hP : va_P D vwC ((rowW cs q (upd O9 x2.toNatClampNeg (r2 x2.toNatClampNeg))) ++ (rowW cs q2 r2)) H := hP
        refine lv_iinc (v := x2 + 1) (lv' := [(2, .int (x2 + 1)), (0, .ref q2), (1, .ref q)]) hx hb dX8_copy_15 hl (k := 2) rfl rfl (by decide) rfl (fun ls hl => ?_)
        refine lv_goto (tgt := 2) hx hb dX8_copy_18 (by decide) ?_
        exact ih (x2 + 1) (upd O9 x2.toNatClampNeg (r2 x2.toNatClampNeg)) (upM_s c6 hm) (nn_inc i0 c6) hv _ _ hP hS ls (lv_sub hl [1, 2, 0] rfl)
  exact LOOP _ 0 r (Nat.lt_succ_self _) (by decide) hv _ _ hP hS ls (lv_sub hl [1, 2, 0] rfl)
theorem hd_X8_hasSheet : yX8_hasSheet.cls ≠ "java/lang/invoke/MethodHandle" ∧ yX8_hasSheet.cls ≠ "java/lang/invoke/VarHandle" ∧ (parseMethodDescriptor yX8_hasSheet.desc).map (fun d => d.parameters.length) = some 2 := by decide +kernel
def sX8_hasSheet (r : Nat → Int32) (p1 : Int32) : Bool := (sX8_in p1.toInt64 (0 : Int64) (((r (0 : Int32).toNatClampNeg) - 1).toInt64))
set_option maxHeartbeats 4000000 in
set_option maxRecDepth 100000 in
theorem c_X8_hasSheet (l : Launch) (D : va_G) (cs : Nat → ClassId) (q : Nat) (r : Nat → Int32) (p1 : Int32) : Met l yX8_hasSheet (wc yX8_hasSheet cX8_hasSheet 2 (some .boolean)) ({ frames := 1, cells := 0, slots := 0, locals := 25 } : Room) (va_Pc [.ref q, .int p1] (PE D cs (rowW cs q r))) (vp_Si (fun r9 => r9 = b2i (sX8_hasSheet r p1))) 0 0 (fun _ => False) := by
  obtain ⟨v, hv⟩ : ∃ v, sX8_hasSheet r p1 = v := ⟨_, rfl⟩
  rw [hv]
  refine met_o (lv := [(0, .ref q), (1, .int p1)]) (by decide) (Nat.le_of_ble_eq_true rfl) rfl ?_
  intro p e s m args below meth c ls hx hb hr hml hts hown hlocks hin hP hE hl
  have hown : s.vm.findClass RX8 = some m.cls := hown
  have hK := hE.1
  have hP : va_P D vwC (rowW cs q r) s.heap := hP
  unfold sX8_hasSheet at hv
  refine lv_iload_n hx hb dX8_hasSheet_0 rfl (lv_at hl 1 rfl) ?_
  refine lv_i2l hx hb dX8_hasSheet_1 rfl ?_
  refine lv_lconst (v := 0) hx hb dX8_hasSheet_2 (by decide) ?_
  refine lv_aload_n hx hb dX8_hasSheet_3 rfl (lv_at hl 0 rfl) ?_
  refine lv_iconst (v := 0) hx hb dX8_hasSheet_4 (by decide) ?_
  refine va_iald (cA := cs 0) (n := 414) (f := r) hx hb hK hP 0 0 rfl rfl (by unfold vp_in; decide) dX8_hasSheet_5 ?_
  refine lv_iconst (v := 1) hx hb dX8_hasSheet_6 (by decide) ?_
  refine lv_isub hx hb dX8_hasSheet_7 ?_
  refine lv_i2l hx hb dX8_hasSheet_8 rfl ?_
  refine ro_i (b2i (sX8_in p1.toInt64 (0 : Int64) (((r (0 : Int32).toNatClampNeg) - 1).toInt64))) (run_c (va_runS (As := [.long p1.toInt64, .long (0 : Int64), .long (((r (0 : Int32).toNatClampNeg) - 1).toInt64)]) (rest := []) ⟨hx, hb, hml, hown, hts⟩ (c_X8_in l D cs p1.toInt64 (0 : Int64) (((r (0 : Int32).toNatClampNeg) - 1).toInt64)) (cwS 3 hts (good_S w_ml_X8_42 w_st_X8_in w_in_X8 w_co_X8_in) rfl rfl rfl ⟨rfl, hd_X8_in⟩ ⟨Nat.le_of_ble_eq_true rfl, Nat.le_of_ble_eq_true rfl⟩) (pe_S (p_nil D _) hE) rfl rfl hl.1 rfl (lv_room (Nat.le_of_ble_eq_true rfl)) dX8_hasSheet_9 ⟨Nat.zero_le _, Nat.zero_le _⟩)) ?_
  exact W.zret (ty := .boolean) (v := b2i (sX8_in p1.toInt64 (0 : Int64) (((r (0 : Int32).toNatClampNeg) - 1).toInt64))) hx hb hr (b2i_nar (sX8_in p1.toInt64 (0 : Int64) (((r (0 : Int32).toNatClampNeg) - 1).toInt64))) (fun t ht hW => ⟨b2i (sX8_in p1.toInt64 (0 : Int64) (((r (0 : Int32).toNatClampNeg) - 1).toInt64)), rfl, congrArg b2i hv, ht⟩) (fun _ h => nomatch h) dX8_hasSheet_12 (hlocks := hlocks)
theorem hd_X8_hasPrint : yX8_hasPrint.cls ≠ "java/lang/invoke/MethodHandle" ∧ yX8_hasPrint.cls ≠ "java/lang/invoke/VarHandle" ∧ (parseMethodDescriptor yX8_hasPrint.desc).map (fun d => d.parameters.length) = some 2 := by decide +kernel
def sX8_hasPrint (r : Nat → Int32) (p1 : Int32) : Bool := (sX8_in p1.toInt64 (0 : Int64) (((r (1 : Int32).toNatClampNeg) - 1).toInt64))
set_option maxHeartbeats 4000000 in
set_option maxRecDepth 100000 in
theorem c_X8_hasPrint (l : Launch) (D : va_G) (cs : Nat → ClassId) (q : Nat) (r : Nat → Int32) (p1 : Int32) : Met l yX8_hasPrint (wc yX8_hasPrint cX8_hasPrint 2 (some .boolean)) ({ frames := 1, cells := 0, slots := 0, locals := 25 } : Room) (va_Pc [.ref q, .int p1] (PE D cs (rowW cs q r))) (vp_Si (fun r9 => r9 = b2i (sX8_hasPrint r p1))) 0 0 (fun _ => False) := by
  obtain ⟨v, hv⟩ : ∃ v, sX8_hasPrint r p1 = v := ⟨_, rfl⟩
  rw [hv]
  refine met_o (lv := [(0, .ref q), (1, .int p1)]) (by decide) (Nat.le_of_ble_eq_true rfl) rfl ?_
  intro p e s m args below meth c ls hx hb hr hml hts hown hlocks hin hP hE hl
  have hown : s.vm.findClass RX8 = some m.cls := hown
  have hK := hE.1
  have hP : va_P D vwC (rowW cs q r) s.heap := hP
  unfold sX8_hasPrint at hv
  refine lv_iload_n hx hb dX8_hasPrint_0 rfl (lv_at hl 1 rfl) ?_
  refine lv_i2l hx hb dX8_hasPrint_1 rfl ?_
  refine lv_lconst (v := 0) hx hb dX8_hasPrint_2 (by decide) ?_
  refine lv_aload_n hx hb dX8_hasPrint_3 rfl (lv_at hl 0 rfl) ?_
  refine lv_iconst (v := 1) hx hb dX8_hasPrint_4 (by decide) ?_
  refine va_iald (cA := cs 0) (n := 414) (f := r) hx hb hK hP 0 0 rfl rfl (by unfold vp_in; decide) dX8_hasPrint_5 ?_
  refine lv_iconst (v := 1) hx hb dX8_hasPrint_6 (by decide) ?_
  refine lv_isub hx hb dX8_hasPrint_7 ?_
  refine lv_i2l hx hb dX8_hasPrint_8 rfl ?_
  refine ro_i (b2i (sX8_in p1.toInt64 (0 : Int64) (((r (1 : Int32).toNatClampNeg) - 1).toInt64))) (run_c (va_runS (As := [.long p1.toInt64, .long (0 : Int64), .long (((r (1 : Int32).toNatClampNeg) - 1).toInt64)]) (rest := []) ⟨hx, hb, hml, hown, hts⟩ (c_X8_in l D cs p1.toInt64 (0 : Int64) (((r (1 : Int32).toNatClampNeg) - 1).toInt64)) (cwS 3 hts (good_S w_ml_X8_42 w_st_X8_in w_in_X8 w_co_X8_in) rfl rfl rfl ⟨rfl, hd_X8_in⟩ ⟨Nat.le_of_ble_eq_true rfl, Nat.le_of_ble_eq_true rfl⟩) (pe_S (p_nil D _) hE) rfl rfl hl.1 rfl (lv_room (Nat.le_of_ble_eq_true rfl)) dX8_hasPrint_9 ⟨Nat.zero_le _, Nat.zero_le _⟩)) ?_
  exact W.zret (ty := .boolean) (v := b2i (sX8_in p1.toInt64 (0 : Int64) (((r (1 : Int32).toNatClampNeg) - 1).toInt64))) hx hb hr (b2i_nar (sX8_in p1.toInt64 (0 : Int64) (((r (1 : Int32).toNatClampNeg) - 1).toInt64))) (fun t ht hW => ⟨b2i (sX8_in p1.toInt64 (0 : Int64) (((r (1 : Int32).toNatClampNeg) - 1).toInt64)), rfl, congrArg b2i hv, ht⟩) (fun _ h => nomatch h) dX8_hasPrint_12 (hlocks := hlocks)
theorem hd_X8_hasWork : yX8_hasWork.cls ≠ "java/lang/invoke/MethodHandle" ∧ yX8_hasWork.cls ≠ "java/lang/invoke/VarHandle" ∧ (parseMethodDescriptor yX8_hasWork.desc).map (fun d => d.parameters.length) = some 2 := by decide +kernel
def sX8_hasWork (r : Nat → Int32) (p1 : Int32) : Bool := (sX8_in p1.toInt64 (0 : Int64) (((r (2 : Int32).toNatClampNeg) - 1).toInt64))
set_option maxHeartbeats 4000000 in
set_option maxRecDepth 100000 in
theorem c_X8_hasWork (l : Launch) (D : va_G) (cs : Nat → ClassId) (q : Nat) (r : Nat → Int32) (p1 : Int32) : Met l yX8_hasWork (wc yX8_hasWork cX8_hasWork 2 (some .boolean)) ({ frames := 1, cells := 0, slots := 0, locals := 25 } : Room) (va_Pc [.ref q, .int p1] (PE D cs (rowW cs q r))) (vp_Si (fun r9 => r9 = b2i (sX8_hasWork r p1))) 0 0 (fun _ => False) := by
  obtain ⟨v, hv⟩ : ∃ v, sX8_hasWork r p1 = v := ⟨_, rfl⟩
  rw [hv]
  refine met_o (lv := [(0, .ref q), (1, .int p1)]) (by decide) (Nat.le_of_ble_eq_true rfl) rfl ?_
  intro p e s m args below meth c ls hx hb hr hml hts hown hlocks hin hP hE hl
  have hown : s.vm.findClass RX8 = some m.cls := hown
  have hK := hE.1
  have hP : va_P D vwC (rowW cs q r) s.heap := hP
  unfold sX8_hasWork at hv
  refine lv_iload_n hx hb dX8_hasWork_0 rfl (lv_at hl 1 rfl) ?_
  refine lv_i2l hx hb dX8_hasWork_1 rfl ?_
  refine lv_lconst (v := 0) hx hb dX8_hasWork_2 (by decide) ?_
  refine lv_aload_n hx hb dX8_hasWork_3 rfl (lv_at hl 0 rfl) ?_
  refine lv_iconst (v := 2) hx hb dX8_hasWork_4 (by decide) ?_
  refine va_iald (cA := cs 0) (n := 414) (f := r) hx hb hK hP 0 0 rfl rfl (by unfold vp_in; decide) dX8_hasWork_5 ?_
  refine lv_iconst (v := 1) hx hb dX8_hasWork_6 (by decide) ?_
  refine lv_isub hx hb dX8_hasWork_7 ?_
  refine lv_i2l hx hb dX8_hasWork_8 rfl ?_
  refine ro_i (b2i (sX8_in p1.toInt64 (0 : Int64) (((r (2 : Int32).toNatClampNeg) - 1).toInt64))) (run_c (va_runS (As := [.long p1.toInt64, .long (0 : Int64), .long (((r (2 : Int32).toNatClampNeg) - 1).toInt64)]) (rest := []) ⟨hx, hb, hml, hown, hts⟩ (c_X8_in l D cs p1.toInt64 (0 : Int64) (((r (2 : Int32).toNatClampNeg) - 1).toInt64)) (cwS 3 hts (good_S w_ml_X8_42 w_st_X8_in w_in_X8 w_co_X8_in) rfl rfl rfl ⟨rfl, hd_X8_in⟩ ⟨Nat.le_of_ble_eq_true rfl, Nat.le_of_ble_eq_true rfl⟩) (pe_S (p_nil D _) hE) rfl rfl hl.1 rfl (lv_room (Nat.le_of_ble_eq_true rfl)) dX8_hasWork_9 ⟨Nat.zero_le _, Nat.zero_le _⟩)) ?_
  exact W.zret (ty := .boolean) (v := b2i (sX8_in p1.toInt64 (0 : Int64) (((r (2 : Int32).toNatClampNeg) - 1).toInt64))) hx hb hr (b2i_nar (sX8_in p1.toInt64 (0 : Int64) (((r (2 : Int32).toNatClampNeg) - 1).toInt64))) (fun t ht hW => ⟨b2i (sX8_in p1.toInt64 (0 : Int64) (((r (2 : Int32).toNatClampNeg) - 1).toInt64)), rfl, congrArg b2i hv, ht⟩) (fun _ h => nomatch h) dX8_hasWork_12 (hlocks := hlocks)
theorem hd_X8_isField : yX8_isField.cls ≠ "java/lang/invoke/MethodHandle" ∧ yX8_isField.cls ≠ "java/lang/invoke/VarHandle" ∧ (parseMethodDescriptor yX8_isField.desc).map (fun d => d.parameters.length) = some 1 := by decide +kernel
def sX8_isField (p1 : Int32) : Bool := (sX8_in p1.toInt64 (0 : Int64) (11 : Int64))
set_option maxHeartbeats 4000000 in
set_option maxRecDepth 100000 in
theorem c_X8_isField (l : Launch) (D : va_G) (cs : Nat → ClassId) (p1 : Int32) : Met l yX8_isField (wc yX8_isField cX8_isField 1 (some .boolean)) ({ frames := 1, cells := 0, slots := 0, locals := 25 } : Room) (va_Pc [.int p1] (PE D cs ([]))) (vp_Si (fun r9 => r9 = b2i (sX8_isField p1))) 0 0 (fun _ => False) := by
  obtain ⟨v, hv⟩ : ∃ v, sX8_isField p1 = v := ⟨_, rfl⟩
  rw [hv]
  refine met_o (lv := [(0, .int p1)]) (by decide) (Nat.le_of_ble_eq_true rfl) rfl ?_
  intro p e s m args below meth c ls hx hb hr hml hts hown hlocks hin hP hE hl
  have hown : s.vm.findClass RX8 = some m.cls := hown
  have hK := hE.1
  have hP : va_P D vwC ([]) s.heap := hP
  unfold sX8_isField at hv
  refine lv_iload_n hx hb dX8_isField_0 rfl (lv_at hl 0 rfl) ?_
  refine lv_i2l hx hb dX8_isField_1 rfl ?_
  refine lv_lconst (v := 0) hx hb dX8_isField_2 (by decide) ?_
  refine lv_ldc2 (v := 11) hx hb hown (hts _ w_cn_X8_46) dX8_isField_3 ?_
  refine ro_i (b2i (sX8_in p1.toInt64 (0 : Int64) (11 : Int64))) (run_c (va_runS (As := [.long p1.toInt64, .long (0 : Int64), .long (11 : Int64)]) (rest := []) ⟨hx, hb, hml, hown, hts⟩ (c_X8_in l D cs p1.toInt64 (0 : Int64) (11 : Int64)) (cwS 3 hts (good_S w_ml_X8_42 w_st_X8_in w_in_X8 w_co_X8_in) rfl rfl rfl ⟨rfl, hd_X8_in⟩ ⟨Nat.le_of_ble_eq_true rfl, Nat.le_of_ble_eq_true rfl⟩) (pe_S (p_nil D _) hE) rfl rfl hl.1 rfl (lv_room (Nat.le_of_ble_eq_true rfl)) dX8_isField_6 ⟨Nat.zero_le _, Nat.zero_le _⟩)) ?_
  exact W.zret (ty := .boolean) (v := b2i (sX8_in p1.toInt64 (0 : Int64) (11 : Int64))) hx hb hr (b2i_nar (sX8_in p1.toInt64 (0 : Int64) (11 : Int64))) (fun t ht hW => ⟨b2i (sX8_in p1.toInt64 (0 : Int64) (11 : Int64)), rfl, congrArg b2i hv, ht⟩) (fun _ h => nomatch h) dX8_isField_9 (hlocks := hlocks)
theorem hd_X8_isSite : yX8_isSite.cls ≠ "java/lang/invoke/MethodHandle" ∧ yX8_isSite.cls ≠ "java/lang/invoke/VarHandle" ∧ (parseMethodDescriptor yX8_isSite.desc).map (fun d => d.parameters.length) = some 1 := by decide +kernel
def sX8_isSite (p1 : Int32) : Bool := (sX8_in p1.toInt64 (0 : Int64) (3 : Int64))
set_option maxHeartbeats 4000000 in
set_option maxRecDepth 100000 in
theorem c_X8_isSite (l : Launch) (D : va_G) (cs : Nat → ClassId) (p1 : Int32) : Met l yX8_isSite (wc yX8_isSite cX8_isSite 1 (some .boolean)) ({ frames := 1, cells := 0, slots := 0, locals := 25 } : Room) (va_Pc [.int p1] (PE D cs ([]))) (vp_Si (fun r9 => r9 = b2i (sX8_isSite p1))) 0 0 (fun _ => False) := by
  obtain ⟨v, hv⟩ : ∃ v, sX8_isSite p1 = v := ⟨_, rfl⟩
  rw [hv]
  refine met_o (lv := [(0, .int p1)]) (by decide) (Nat.le_of_ble_eq_true rfl) rfl ?_
  intro p e s m args below meth c ls hx hb hr hml hts hown hlocks hin hP hE hl
  have hown : s.vm.findClass RX8 = some m.cls := hown
  have hK := hE.1
  have hP : va_P D vwC ([]) s.heap := hP
  unfold sX8_isSite at hv
  refine lv_iload_n hx hb dX8_isSite_0 rfl (lv_at hl 0 rfl) ?_
  refine lv_i2l hx hb dX8_isSite_1 rfl ?_
  refine lv_lconst (v := 0) hx hb dX8_isSite_2 (by decide) ?_
  refine lv_ldc2 (v := 3) hx hb hown (hts _ w_cn_X8_48) dX8_isSite_3 ?_
  refine ro_i (b2i (sX8_in p1.toInt64 (0 : Int64) (3 : Int64))) (run_c (va_runS (As := [.long p1.toInt64, .long (0 : Int64), .long (3 : Int64)]) (rest := []) ⟨hx, hb, hml, hown, hts⟩ (c_X8_in l D cs p1.toInt64 (0 : Int64) (3 : Int64)) (cwS 3 hts (good_S w_ml_X8_42 w_st_X8_in w_in_X8 w_co_X8_in) rfl rfl rfl ⟨rfl, hd_X8_in⟩ ⟨Nat.le_of_ble_eq_true rfl, Nat.le_of_ble_eq_true rfl⟩) (pe_S (p_nil D _) hE) rfl rfl hl.1 rfl (lv_room (Nat.le_of_ble_eq_true rfl)) dX8_isSite_6 ⟨Nat.zero_le _, Nat.zero_le _⟩)) ?_
  exact W.zret (ty := .boolean) (v := b2i (sX8_in p1.toInt64 (0 : Int64) (3 : Int64))) hx hb hr (b2i_nar (sX8_in p1.toInt64 (0 : Int64) (3 : Int64))) (fun t ht hW => ⟨b2i (sX8_in p1.toInt64 (0 : Int64) (3 : Int64)), rfl, congrArg b2i hv, ht⟩) (fun _ h => nomatch h) dX8_isSite_9 (hlocks := hlocks)
theorem hd_X8_isHand : yX8_isHand.cls ≠ "java/lang/invoke/MethodHandle" ∧ yX8_isHand.cls ≠ "java/lang/invoke/VarHandle" ∧ (parseMethodDescriptor yX8_isHand.desc).map (fun d => d.parameters.length) = some 1 := by decide +kernel
def sX8_isHand (p1 : Int32) : Bool := (sX8_in p1.toInt64 (0 : Int64) (2 : Int64))
set_option maxHeartbeats 4000000 in
set_option maxRecDepth 100000 in
theorem c_X8_isHand (l : Launch) (D : va_G) (cs : Nat → ClassId) (p1 : Int32) : Met l yX8_isHand (wc yX8_isHand cX8_isHand 1 (some .boolean)) ({ frames := 1, cells := 0, slots := 0, locals := 25 } : Room) (va_Pc [.int p1] (PE D cs ([]))) (vp_Si (fun r9 => r9 = b2i (sX8_isHand p1))) 0 0 (fun _ => False) := by
  obtain ⟨v, hv⟩ : ∃ v, sX8_isHand p1 = v := ⟨_, rfl⟩
  rw [hv]
  refine met_o (lv := [(0, .int p1)]) (by decide) (Nat.le_of_ble_eq_true rfl) rfl ?_
  intro p e s m args below meth c ls hx hb hr hml hts hown hlocks hin hP hE hl
  have hown : s.vm.findClass RX8 = some m.cls := hown
  have hK := hE.1
  have hP : va_P D vwC ([]) s.heap := hP
  unfold sX8_isHand at hv
  refine lv_iload_n hx hb dX8_isHand_0 rfl (lv_at hl 0 rfl) ?_
  refine lv_i2l hx hb dX8_isHand_1 rfl ?_
  refine lv_lconst (v := 0) hx hb dX8_isHand_2 (by decide) ?_
  refine lv_ldc2 (v := 2) hx hb hown (hts _ w_cn_X8_50) dX8_isHand_3 ?_
  refine ro_i (b2i (sX8_in p1.toInt64 (0 : Int64) (2 : Int64))) (run_c (va_runS (As := [.long p1.toInt64, .long (0 : Int64), .long (2 : Int64)]) (rest := []) ⟨hx, hb, hml, hown, hts⟩ (c_X8_in l D cs p1.toInt64 (0 : Int64) (2 : Int64)) (cwS 3 hts (good_S w_ml_X8_42 w_st_X8_in w_in_X8 w_co_X8_in) rfl rfl rfl ⟨rfl, hd_X8_in⟩ ⟨Nat.le_of_ble_eq_true rfl, Nat.le_of_ble_eq_true rfl⟩) (pe_S (p_nil D _) hE) rfl rfl hl.1 rfl (lv_room (Nat.le_of_ble_eq_true rfl)) dX8_isHand_6 ⟨Nat.zero_le _, Nat.zero_le _⟩)) ?_
  exact W.zret (ty := .boolean) (v := b2i (sX8_in p1.toInt64 (0 : Int64) (2 : Int64))) hx hb hr (b2i_nar (sX8_in p1.toInt64 (0 : Int64) (2 : Int64))) (fun t ht hW => ⟨b2i (sX8_in p1.toInt64 (0 : Int64) (2 : Int64)), rfl, congrArg b2i hv, ht⟩) (fun _ h => nomatch h) dX8_isHand_9 (hlocks := hlocks)
theorem hd_X8_isCloud : yX8_isCloud.cls ≠ "java/lang/invoke/MethodHandle" ∧ yX8_isCloud.cls ≠ "java/lang/invoke/VarHandle" ∧ (parseMethodDescriptor yX8_isCloud.desc).map (fun d => d.parameters.length) = some 1 := by decide +kernel
def sX8_isCloud (p1 : Int32) : Bool := (sX8_in p1.toInt64 (1 : Int64) (4095 : Int64))
set_option maxHeartbeats 4000000 in
set_option maxRecDepth 100000 in
theorem c_X8_isCloud (l : Launch) (D : va_G) (cs : Nat → ClassId) (p1 : Int32) : Met l yX8_isCloud (wc yX8_isCloud cX8_isCloud 1 (some .boolean)) ({ frames := 1, cells := 0, slots := 0, locals := 25 } : Room) (va_Pc [.int p1] (PE D cs ([]))) (vp_Si (fun r9 => r9 = b2i (sX8_isCloud p1))) 0 0 (fun _ => False) := by
  obtain ⟨v, hv⟩ : ∃ v, sX8_isCloud p1 = v := ⟨_, rfl⟩
  rw [hv]
  refine met_o (lv := [(0, .int p1)]) (by decide) (Nat.le_of_ble_eq_true rfl) rfl ?_
  intro p e s m args below meth c ls hx hb hr hml hts hown hlocks hin hP hE hl
  have hown : s.vm.findClass RX8 = some m.cls := hown
  have hK := hE.1
  have hP : va_P D vwC ([]) s.heap := hP
  unfold sX8_isCloud at hv
  refine lv_iload_n hx hb dX8_isCloud_0 rfl (lv_at hl 0 rfl) ?_
  refine lv_i2l hx hb dX8_isCloud_1 rfl ?_
  refine lv_lconst (v := 1) hx hb dX8_isCloud_2 (by decide) ?_
  refine lv_ldc2 (v := 4095) hx hb hown (hts _ w_cn_X8_52) dX8_isCloud_3 ?_
  refine ro_i (b2i (sX8_in p1.toInt64 (1 : Int64) (4095 : Int64))) (run_c (va_runS (As := [.long p1.toInt64, .long (1 : Int64), .long (4095 : Int64)]) (rest := []) ⟨hx, hb, hml, hown, hts⟩ (c_X8_in l D cs p1.toInt64 (1 : Int64) (4095 : Int64)) (cwS 3 hts (good_S w_ml_X8_42 w_st_X8_in w_in_X8 w_co_X8_in) rfl rfl rfl ⟨rfl, hd_X8_in⟩ ⟨Nat.le_of_ble_eq_true rfl, Nat.le_of_ble_eq_true rfl⟩) (pe_S (p_nil D _) hE) rfl rfl hl.1 rfl (lv_room (Nat.le_of_ble_eq_true rfl)) dX8_isCloud_6 ⟨Nat.zero_le _, Nat.zero_le _⟩)) ?_
  exact W.zret (ty := .boolean) (v := b2i (sX8_in p1.toInt64 (1 : Int64) (4095 : Int64))) hx hb hr (b2i_nar (sX8_in p1.toInt64 (1 : Int64) (4095 : Int64))) (fun t ht hW => ⟨b2i (sX8_in p1.toInt64 (1 : Int64) (4095 : Int64)), rfl, congrArg b2i hv, ht⟩) (fun _ h => nomatch h) dX8_isCloud_9 (hlocks := hlocks)
theorem hd_X8_isSetting : yX8_isSetting.cls ≠ "java/lang/invoke/MethodHandle" ∧ yX8_isSetting.cls ≠ "java/lang/invoke/VarHandle" ∧ (parseMethodDescriptor yX8_isSetting.desc).map (fun d => d.parameters.length) = some 2 := by decide +kernel
def sX8_isSetting (p1 : Int32) (p2 : Int32) : Bool := (if p1 = 0 then (if (sX8_in p2.toInt64 (0 : Int64) (20 : Int64)) = true then true else (if p1 = 1 then (if (sX8_in p2.toInt64 (0 : Int64) (3 : Int64)) = true then true else (if p1 = 2 then (if (sX8_in p2.toInt64 (0 : Int64) (99 : Int64)) = true then true else false) else false)) else (if p1 = 2 then (if (sX8_in p2.toInt64 (0 : Int64) (99 : Int64)) = true then true else false) else false))) else (if p1 = 1 then (if (sX8_in p2.toInt64 (0 : Int64) (3 : Int64)) = true then true else (if p1 = 2 then (if (sX8_in p2.toInt64 (0 : Int64) (99 : Int64)) = true then true else false) else false)) else (if p1 = 2 then (if (sX8_in p2.toInt64 (0 : Int64) (99 : Int64)) = true then true else false) else false)))
set_option maxHeartbeats 4000000 in
set_option maxRecDepth 100000 in
theorem c_X8_isSetting (l : Launch) (D : va_G) (cs : Nat → ClassId) (p1 : Int32) (p2 : Int32) : Met l yX8_isSetting (wc yX8_isSetting cX8_isSetting 2 (some .boolean)) ({ frames := 1, cells := 0, slots := 0, locals := 25 } : Room) (va_Pc [.int p1, .int p2] (PE D cs ([]))) (vp_Si (fun r9 => r9 = b2i (sX8_isSetting p1 p2))) 0 0 (fun _ => False) := by
  obtain ⟨v, hv⟩ : ∃ v, sX8_isSetting p1 p2 = v := ⟨_, rfl⟩
  rw [hv]
  refine met_o (lv := [(0, .int p1), (1, .int p2)]) (by decide) (Nat.le_of_ble_eq_true rfl) rfl ?_
  intro p e s m args below meth c ls hx hb hr hml hts hown hlocks hin hP hE hl
  have hown : s.vm.findClass RX8 = some m.cls := hown
  have hK := hE.1
  have hP : va_P D vwC ([]) s.heap := hP
  unfold sX8_isSetting at hv
  refine lv_iload_n hx hb dX8_isSetting_0 rfl (lv_at hl 0 rfl) ?_
  refine join_i (J := 55) (ls := ls) (rest := []) (b2i (if p1 = 0 then (if (sX8_in p2.toInt64 (0 : Int64) (20 : Int64)) = true then true else (if p1 = 1 then (if (sX8_in p2.toInt64 (0 : Int64) (3 : Int64)) = true then true else (if p1 = 2 then (if (sX8_in p2.toInt64 (0 : Int64) (99 : Int64)) = true then true else false) else false)) else (if p1 = 2 then (if (sX8_in p2.toInt64 (0 : Int64) (99 : Int64)) = true then true else false) else false))) else (if p1 = 1 then (if (sX8_in p2.toInt64 (0 : Int64) (3 : Int64)) = true then true else (if p1 = 2 then (if (sX8_in p2.toInt64 (0 : Int64) (99 : Int64)) = true then true else false) else false)) else (if p1 = 2 then (if (sX8_in p2.toInt64 (0 : Int64) (99 : Int64)) = true then true else false) else false)))) ?_ (fun hJ => ?_)
  · exact W.zret (ty := .boolean) (v := b2i (if p1 = 0 then (if (sX8_in p2.toInt64 (0 : Int64) (20 : Int64)) = true then true else (if p1 = 1 then (if (sX8_in p2.toInt64 (0 : Int64) (3 : Int64)) = true then true else (if p1 = 2 then (if (sX8_in p2.toInt64 (0 : Int64) (99 : Int64)) = true then true else false) else false)) else (if p1 = 2 then (if (sX8_in p2.toInt64 (0 : Int64) (99 : Int64)) = true then true else false) else false))) else (if p1 = 1 then (if (sX8_in p2.toInt64 (0 : Int64) (3 : Int64)) = true then true else (if p1 = 2 then (if (sX8_in p2.toInt64 (0 : Int64) (99 : Int64)) = true then true else false) else false)) else (if p1 = 2 then (if (sX8_in p2.toInt64 (0 : Int64) (99 : Int64)) = true then true else false) else false)))) hx hb hr (b2i_nar (if p1 = 0 then (if (sX8_in p2.toInt64 (0 : Int64) (20 : Int64)) = true then true else (if p1 = 1 then (if (sX8_in p2.toInt64 (0 : Int64) (3 : Int64)) = true then true else (if p1 = 2 then (if (sX8_in p2.toInt64 (0 : Int64) (99 : Int64)) = true then true else false) else false)) else (if p1 = 2 then (if (sX8_in p2.toInt64 (0 : Int64) (99 : Int64)) = true then true else false) else false))) else (if p1 = 1 then (if (sX8_in p2.toInt64 (0 : Int64) (3 : Int64)) = true then true else (if p1 = 2 then (if (sX8_in p2.toInt64 (0 : Int64) (99 : Int64)) = true then true else false) else false)) else (if p1 = 2 then (if (sX8_in p2.toInt64 (0 : Int64) (99 : Int64)) = true then true else false) else false)))) (fun t ht hW => ⟨b2i (if p1 = 0 then (if (sX8_in p2.toInt64 (0 : Int64) (20 : Int64)) = true then true else (if p1 = 1 then (if (sX8_in p2.toInt64 (0 : Int64) (3 : Int64)) = true then true else (if p1 = 2 then (if (sX8_in p2.toInt64 (0 : Int64) (99 : Int64)) = true then true else false) else false)) else (if p1 = 2 then (if (sX8_in p2.toInt64 (0 : Int64) (99 : Int64)) = true then true else false) else false))) else (if p1 = 1 then (if (sX8_in p2.toInt64 (0 : Int64) (3 : Int64)) = true then true else (if p1 = 2 then (if (sX8_in p2.toInt64 (0 : Int64) (99 : Int64)) = true then true else false) else false)) else (if p1 = 2 then (if (sX8_in p2.toInt64 (0 : Int64) (99 : Int64)) = true then true else false) else false))), rfl, congrArg b2i hv, ht⟩) (fun _ h => nomatch h) dX8_isSetting_55 (hlocks := hlocks)
  · refine lv_if_ne (tgt := 16) hx hb dX8_isSetting_1 (by decide) (fun c1 => ?_) (fun c1 => ?_)
    · refine lv_iload_n hx hb dX8_isSetting_16 rfl (lv_at hl 0 rfl) ?_
      refine lv_iconst (v := 1) hx hb dX8_isSetting_17 (by decide) ?_
      refine lv_icmp_ne (tgt := 33) hx hb dX8_isSetting_18 (by decide) (fun c18 => ?_) (fun c18 => ?_)
      · refine lv_iload_n hx hb dX8_isSetting_33 rfl (lv_at hl 0 rfl) ?_
        refine lv_iconst (v := 2) hx hb dX8_isSetting_34 (by decide) ?_
        refine lv_icmp_ne (tgt := 54) hx hb dX8_isSetting_35 (by decide) (fun c35 => ?_) (fun c35 => ?_)
        · refine lv_iconst (v := 0) hx hb dX8_isSetting_54 (by decide) ?_
          exact hJ _ (congrArg b2i ((if_neg c1).trans ((if_neg c18).trans ((if_neg c35).trans rfl))))
        · refine lv_iload_n hx hb dX8_isSetting_38 rfl (lv_at hl 1 rfl) ?_
          refine lv_i2l hx hb dX8_isSetting_39 rfl ?_
          refine lv_lconst (v := 0) hx hb dX8_isSetting_40 (by decide) ?_
          refine lv_ldc2 (v := 99) hx hb hown (hts _ w_cn_X8_56) dX8_isSetting_41 ?_
          refine ro_i (b2i (sX8_in p2.toInt64 (0 : Int64) (99 : Int64))) (run_c (va_runS (As := [.long p2.toInt64, .long (0 : Int64), .long (99 : Int64)]) (rest := []) ⟨hx, hb, hml, hown, hts⟩ (c_X8_in l D cs p2.toInt64 (0 : Int64) (99 : Int64)) (cwS 3 hts (good_S w_ml_X8_42 w_st_X8_in w_in_X8 w_co_X8_in) rfl rfl rfl ⟨rfl, hd_X8_in⟩ ⟨Nat.le_of_ble_eq_true rfl, Nat.le_of_ble_eq_true rfl⟩) (pe_S (p_nil D _) hE) rfl rfl hl.1 rfl (lv_room (Nat.le_of_ble_eq_true rfl)) dX8_isSetting_44 ⟨Nat.zero_le _, Nat.zero_le _⟩)) ?_
          refine lv_if_eq (tgt := 54) hx hb dX8_isSetting_47 (by decide) (fun c47 => ?_) (fun c47 => ?_)
          · have c47 := b2i_f c47
            refine lv_iconst (v := 0) hx hb dX8_isSetting_54 (by decide) ?_
            exact hJ _ (congrArg b2i ((if_neg c1).trans ((if_neg c18).trans ((if_pos c35).trans ((if_neg c47).trans rfl)))))
          · have c47 := b2i_t c47
            refine lv_iconst (v := 1) hx hb dX8_isSetting_50 (by decide) ?_
            refine lv_goto (tgt := 55) hx hb dX8_isSetting_51 (by decide) ?_
            exact hJ _ (congrArg b2i ((if_neg c1).trans ((if_neg c18).trans ((if_pos c35).trans ((if_pos c47).trans rfl)))))
      · refine lv_iload_n hx hb dX8_isSetting_21 rfl (lv_at hl 1 rfl) ?_
        refine lv_i2l hx hb dX8_isSetting_22 rfl ?_
        refine lv_lconst (v := 0) hx hb dX8_isSetting_23 (by decide) ?_
        refine lv_ldc2 (v := 3) hx hb hown (hts _ w_cn_X8_48) dX8_isSetting_24 ?_
        refine ro_i (b2i (sX8_in p2.toInt64 (0 : Int64) (3 : Int64))) (run_c (va_runS (As := [.long p2.toInt64, .long (0 : Int64), .long (3 : Int64)]) (rest := []) ⟨hx, hb, hml, hown, hts⟩ (c_X8_in l D cs p2.toInt64 (0 : Int64) (3 : Int64)) (cwS 3 hts (good_S w_ml_X8_42 w_st_X8_in w_in_X8 w_co_X8_in) rfl rfl rfl ⟨rfl, hd_X8_in⟩ ⟨Nat.le_of_ble_eq_true rfl, Nat.le_of_ble_eq_true rfl⟩) (pe_S (p_nil D _) hE) rfl rfl hl.1 rfl (lv_room (Nat.le_of_ble_eq_true rfl)) dX8_isSetting_27 ⟨Nat.zero_le _, Nat.zero_le _⟩)) ?_
        refine lv_if_ne (tgt := 50) hx hb dX8_isSetting_30 (by decide) (fun c30 => ?_) (fun c30 => ?_)
        · have c30 := b2i_t c30
          refine lv_iconst (v := 1) hx hb dX8_isSetting_50 (by decide) ?_
          refine lv_goto (tgt := 55) hx hb dX8_isSetting_51 (by decide) ?_
          exact hJ _ (congrArg b2i ((if_neg c1).trans ((if_pos c18).trans ((if_pos c30).trans rfl))))
        · have c30 := b2i_f c30
          refine lv_iload_n hx hb dX8_isSetting_33 rfl (lv_at hl 0 rfl) ?_
          refine lv_iconst (v := 2) hx hb dX8_isSetting_34 (by decide) ?_
          refine lv_icmp_ne (tgt := 54) hx hb dX8_isSetting_35 (by decide) (fun c35 => ?_) (fun c35 => ?_)
          · refine lv_iconst (v := 0) hx hb dX8_isSetting_54 (by decide) ?_
            exact hJ _ (congrArg b2i ((if_neg c1).trans ((if_pos c18).trans ((if_neg c30).trans ((if_neg c35).trans rfl)))))
          · refine lv_iload_n hx hb dX8_isSetting_38 rfl (lv_at hl 1 rfl) ?_
            refine lv_i2l hx hb dX8_isSetting_39 rfl ?_
            refine lv_lconst (v := 0) hx hb dX8_isSetting_40 (by decide) ?_
            refine lv_ldc2 (v := 99) hx hb hown (hts _ w_cn_X8_56) dX8_isSetting_41 ?_
            refine ro_i (b2i (sX8_in p2.toInt64 (0 : Int64) (99 : Int64))) (run_c (va_runS (As := [.long p2.toInt64, .long (0 : Int64), .long (99 : Int64)]) (rest := []) ⟨hx, hb, hml, hown, hts⟩ (c_X8_in l D cs p2.toInt64 (0 : Int64) (99 : Int64)) (cwS 3 hts (good_S w_ml_X8_42 w_st_X8_in w_in_X8 w_co_X8_in) rfl rfl rfl ⟨rfl, hd_X8_in⟩ ⟨Nat.le_of_ble_eq_true rfl, Nat.le_of_ble_eq_true rfl⟩) (pe_S (p_nil D _) hE) rfl rfl hl.1 rfl (lv_room (Nat.le_of_ble_eq_true rfl)) dX8_isSetting_44 ⟨Nat.zero_le _, Nat.zero_le _⟩)) ?_
            refine lv_if_eq (tgt := 54) hx hb dX8_isSetting_47 (by decide) (fun c47 => ?_) (fun c47 => ?_)
            · have c47 := b2i_f c47
              refine lv_iconst (v := 0) hx hb dX8_isSetting_54 (by decide) ?_
              exact hJ _ (congrArg b2i ((if_neg c1).trans ((if_pos c18).trans ((if_neg c30).trans ((if_pos c35).trans ((if_neg c47).trans rfl))))))
            · have c47 := b2i_t c47
              refine lv_iconst (v := 1) hx hb dX8_isSetting_50 (by decide) ?_
              refine lv_goto (tgt := 55) hx hb dX8_isSetting_51 (by decide) ?_
              exact hJ _ (congrArg b2i ((if_neg c1).trans ((if_pos c18).trans ((if_neg c30).trans ((if_pos c35).trans ((if_pos c47).trans rfl))))))
    · refine lv_iload_n hx hb dX8_isSetting_4 rfl (lv_at hl 1 rfl) ?_
      refine lv_i2l hx hb dX8_isSetting_5 rfl ?_
      refine lv_lconst (v := 0) hx hb dX8_isSetting_6 (by decide) ?_
      refine lv_ldc2 (v := 20) hx hb hown (hts _ w_cn_X8_54) dX8_isSetting_7 ?_
      refine ro_i (b2i (sX8_in p2.toInt64 (0 : Int64) (20 : Int64))) (run_c (va_runS (As := [.long p2.toInt64, .long (0 : Int64), .long (20 : Int64)]) (rest := []) ⟨hx, hb, hml, hown, hts⟩ (c_X8_in l D cs p2.toInt64 (0 : Int64) (20 : Int64)) (cwS 3 hts (good_S w_ml_X8_42 w_st_X8_in w_in_X8 w_co_X8_in) rfl rfl rfl ⟨rfl, hd_X8_in⟩ ⟨Nat.le_of_ble_eq_true rfl, Nat.le_of_ble_eq_true rfl⟩) (pe_S (p_nil D _) hE) rfl rfl hl.1 rfl (lv_room (Nat.le_of_ble_eq_true rfl)) dX8_isSetting_10 ⟨Nat.zero_le _, Nat.zero_le _⟩)) ?_
      refine lv_if_ne (tgt := 50) hx hb dX8_isSetting_13 (by decide) (fun c13 => ?_) (fun c13 => ?_)
      · have c13 := b2i_t c13
        refine lv_iconst (v := 1) hx hb dX8_isSetting_50 (by decide) ?_
        refine lv_goto (tgt := 55) hx hb dX8_isSetting_51 (by decide) ?_
        exact hJ _ (congrArg b2i ((if_pos c1).trans ((if_pos c13).trans rfl)))
      · have c13 := b2i_f c13
        refine lv_iload_n hx hb dX8_isSetting_16 rfl (lv_at hl 0 rfl) ?_
        refine lv_iconst (v := 1) hx hb dX8_isSetting_17 (by decide) ?_
        refine lv_icmp_ne (tgt := 33) hx hb dX8_isSetting_18 (by decide) (fun c18 => ?_) (fun c18 => ?_)
        · refine lv_iload_n hx hb dX8_isSetting_33 rfl (lv_at hl 0 rfl) ?_
          refine lv_iconst (v := 2) hx hb dX8_isSetting_34 (by decide) ?_
          refine lv_icmp_ne (tgt := 54) hx hb dX8_isSetting_35 (by decide) (fun c35 => ?_) (fun c35 => ?_)
          · refine lv_iconst (v := 0) hx hb dX8_isSetting_54 (by decide) ?_
            exact hJ _ (congrArg b2i ((if_pos c1).trans ((if_neg c13).trans ((if_neg c18).trans ((if_neg c35).trans rfl)))))
          · refine lv_iload_n hx hb dX8_isSetting_38 rfl (lv_at hl 1 rfl) ?_
            refine lv_i2l hx hb dX8_isSetting_39 rfl ?_
            refine lv_lconst (v := 0) hx hb dX8_isSetting_40 (by decide) ?_
            refine lv_ldc2 (v := 99) hx hb hown (hts _ w_cn_X8_56) dX8_isSetting_41 ?_
            refine ro_i (b2i (sX8_in p2.toInt64 (0 : Int64) (99 : Int64))) (run_c (va_runS (As := [.long p2.toInt64, .long (0 : Int64), .long (99 : Int64)]) (rest := []) ⟨hx, hb, hml, hown, hts⟩ (c_X8_in l D cs p2.toInt64 (0 : Int64) (99 : Int64)) (cwS 3 hts (good_S w_ml_X8_42 w_st_X8_in w_in_X8 w_co_X8_in) rfl rfl rfl ⟨rfl, hd_X8_in⟩ ⟨Nat.le_of_ble_eq_true rfl, Nat.le_of_ble_eq_true rfl⟩) (pe_S (p_nil D _) hE) rfl rfl hl.1 rfl (lv_room (Nat.le_of_ble_eq_true rfl)) dX8_isSetting_44 ⟨Nat.zero_le _, Nat.zero_le _⟩)) ?_
            refine lv_if_eq (tgt := 54) hx hb dX8_isSetting_47 (by decide) (fun c47 => ?_) (fun c47 => ?_)
            · have c47 := b2i_f c47
              refine lv_iconst (v := 0) hx hb dX8_isSetting_54 (by decide) ?_
              exact hJ _ (congrArg b2i ((if_pos c1).trans ((if_neg c13).trans ((if_neg c18).trans ((if_pos c35).trans ((if_neg c47).trans rfl))))))
            · have c47 := b2i_t c47
              refine lv_iconst (v := 1) hx hb dX8_isSetting_50 (by decide) ?_
              refine lv_goto (tgt := 55) hx hb dX8_isSetting_51 (by decide) ?_
              exact hJ _ (congrArg b2i ((if_pos c1).trans ((if_neg c13).trans ((if_neg c18).trans ((if_pos c35).trans ((if_pos c47).trans rfl))))))
        · refine lv_iload_n hx hb dX8_isSetting_21 rfl (lv_at hl 1 rfl) ?_
          refine lv_i2l hx hb dX8_isSetting_22 rfl ?_
          refine lv_lconst (v := 0) hx hb dX8_isSetting_23 (by decide) ?_
          refine lv_ldc2 (v := 3) hx hb hown (hts _ w_cn_X8_48) dX8_isSetting_24 ?_
          refine ro_i (b2i (sX8_in p2.toInt64 (0 : Int64) (3 : Int64))) (run_c (va_runS (As := [.long p2.toInt64, .long (0 : Int64), .long (3 : Int64)]) (rest := []) ⟨hx, hb, hml, hown, hts⟩ (c_X8_in l D cs p2.toInt64 (0 : Int64) (3 : Int64)) (cwS 3 hts (good_S w_ml_X8_42 w_st_X8_in w_in_X8 w_co_X8_in) rfl rfl rfl ⟨rfl, hd_X8_in⟩ ⟨Nat.le_of_ble_eq_true rfl, Nat.le_of_ble_eq_true rfl⟩) (pe_S (p_nil D _) hE) rfl rfl hl.1 rfl (lv_room (Nat.le_of_ble_eq_true rfl)) dX8_isSetting_27 ⟨Nat.zero_le _, Nat.zero_le _⟩)) ?_
          refine lv_if_ne (tgt := 50) hx hb dX8_isSetting_30 (by decide) (fun c30 => ?_) (fun c30 => ?_)
          · have c30 := b2i_t c30
            refine lv_iconst (v := 1) hx hb dX8_isSetting_50 (by decide) ?_
            refine lv_goto (tgt := 55) hx hb dX8_isSetting_51 (by decide) ?_
            exact hJ _ (congrArg b2i ((if_pos c1).trans ((if_neg c13).trans ((if_pos c18).trans ((if_pos c30).trans rfl)))))
          · have c30 := b2i_f c30
            refine lv_iload_n hx hb dX8_isSetting_33 rfl (lv_at hl 0 rfl) ?_
            refine lv_iconst (v := 2) hx hb dX8_isSetting_34 (by decide) ?_
            refine lv_icmp_ne (tgt := 54) hx hb dX8_isSetting_35 (by decide) (fun c35 => ?_) (fun c35 => ?_)
            · refine lv_iconst (v := 0) hx hb dX8_isSetting_54 (by decide) ?_
              exact hJ _ (congrArg b2i ((if_pos c1).trans ((if_neg c13).trans ((if_pos c18).trans ((if_neg c30).trans ((if_neg c35).trans rfl))))))
            · refine lv_iload_n hx hb dX8_isSetting_38 rfl (lv_at hl 1 rfl) ?_
              refine lv_i2l hx hb dX8_isSetting_39 rfl ?_
              refine lv_lconst (v := 0) hx hb dX8_isSetting_40 (by decide) ?_
              refine lv_ldc2 (v := 99) hx hb hown (hts _ w_cn_X8_56) dX8_isSetting_41 ?_
              refine ro_i (b2i (sX8_in p2.toInt64 (0 : Int64) (99 : Int64))) (run_c (va_runS (As := [.long p2.toInt64, .long (0 : Int64), .long (99 : Int64)]) (rest := []) ⟨hx, hb, hml, hown, hts⟩ (c_X8_in l D cs p2.toInt64 (0 : Int64) (99 : Int64)) (cwS 3 hts (good_S w_ml_X8_42 w_st_X8_in w_in_X8 w_co_X8_in) rfl rfl rfl ⟨rfl, hd_X8_in⟩ ⟨Nat.le_of_ble_eq_true rfl, Nat.le_of_ble_eq_true rfl⟩) (pe_S (p_nil D _) hE) rfl rfl hl.1 rfl (lv_room (Nat.le_of_ble_eq_true rfl)) dX8_isSetting_44 ⟨Nat.zero_le _, Nat.zero_le _⟩)) ?_
              refine lv_if_eq (tgt := 54) hx hb dX8_isSetting_47 (by decide) (fun c47 => ?_) (fun c47 => ?_)
              · have c47 := b2i_f c47
                refine lv_iconst (v := 0) hx hb dX8_isSetting_54 (by decide) ?_
                exact hJ _ (congrArg b2i ((if_pos c1).trans ((if_neg c13).trans ((if_pos c18).trans ((if_neg c30).trans ((if_pos c35).trans ((if_neg c47).trans rfl)))))))
              · have c47 := b2i_t c47
                refine lv_iconst (v := 1) hx hb dX8_isSetting_50 (by decide) ?_
                refine lv_goto (tgt := 55) hx hb dX8_isSetting_51 (by decide) ?_
                exact hJ _ (congrArg b2i ((if_pos c1).trans ((if_neg c13).trans ((if_pos c18).trans ((if_neg c30).trans ((if_pos c35).trans ((if_pos c47).trans rfl)))))))
theorem hd_X8_isUnder : yX8_isUnder.cls ≠ "java/lang/invoke/MethodHandle" ∧ yX8_isUnder.cls ≠ "java/lang/invoke/VarHandle" ∧ (parseMethodDescriptor yX8_isUnder.desc).map (fun d => d.parameters.length) = some 3 := by decide +kernel
def LX8_isUnder_2 (r : Nat → Int32) (p1 : Int32) (p2 : Int32) : Nat → Int32 → Bool
  | 0 => fun _ => false
  | n + 1 => fun x3 => (if x3 = (-1) then (if x3 = p2 then true else false) else (if x3 = p2 then (if x3 = p2 then true else false) else (LX8_isUnder_2 r p1 p2 n (r (10 + x3).toNatClampNeg))))
theorem LX8_isUnder_2_eq (r : Nat → Int32) (p1 : Int32) (p2 : Int32) (n : Nat) (x3 : Int32) : LX8_isUnder_2 r p1 p2 (n + 1) x3 = (if x3 = (-1) then (if x3 = p2 then true else false) else (if x3 = p2 then (if x3 = p2 then true else false) else (LX8_isUnder_2 r p1 p2 n (r (10 + x3).toNatClampNeg)))) := rfl
def sX8_isUnder (r : Nat → Int32) (p1 : Int32) (p2 : Int32) : Bool := (LX8_isUnder_2 r p1 p2 (dnM p1 + 1) p1)
set_option maxHeartbeats 4000000 in
set_option maxRecDepth 100000 in
theorem c_X8_isUnder (l : Launch) (D : va_G) (cs : Nat → ClassId) (q : Nat) (r : Nat → Int32) (p1 : Int32) (p2 : Int32) (hv0 : MV r) (h1 : at1 r p1) : Met l yX8_isUnder (wc yX8_isUnder cX8_isUnder 4 (some .boolean)) ({ frames := 0, cells := 0, slots := 0, locals := 0 } : Room) (va_Pc [.ref q, .int p1, .int p2] (PE D cs (rowW cs q r))) (vp_Si (fun r9 => r9 = b2i (sX8_isUnder r p1 p2))) 0 0 (fun _ => False) := by
  obtain ⟨v, hv⟩ : ∃ v, sX8_isUnder r p1 p2 = v := ⟨_, rfl⟩
  rw [hv]
  refine met_o (lv := [(0, .ref q), (1, .int p1), (2, .int p2)]) (by decide) (Nat.le_of_ble_eq_true rfl) rfl ?_
  intro p e s m args below meth c ls hx hb hr hml hts hown hlocks hin hP hE hl
  have hown : s.vm.findClass RX8 = some m.cls := hown
  have hK := hE.1
  have hP : va_P D vwC (rowW cs q r) s.heap := hP
  unfold sX8_isUnder at hv
  refine lv_iload_n hx hb dX8_isUnder_0 rfl (lv_at hl 1 rfl) ?_
  refine lv_istore_n (lv' := [(3, .int p1), (0, .ref q), (1, .int p1), (2, .int p2)]) hx hb dX8_isUnder_1 rfl hl (by decide) rfl (fun ls hl => ?_)
  have LOOP : ∀ (n : Nat) (x3 : Int32), dnM x3 < n → (at1 r x3) → LX8_isUnder_2 r p1 p2 n x3 = v → ∀ ls : Array Slot, lv_has ls 4 [(0, .ref q), (1, .int p1), (2, .int p2), (3, .int x3)] → W p l e ({ frames := 0, cells := 0, slots := 0, locals := 0 } : Room) s m args below meth c s.heap [] 0 0 (MQ below (vp_Si (fun r9 => r9 = b2i v)) args s 0 0 (fun _ => False)) (F0 m 2 ls []) := by
    clear hv
    intro n
    induction n with
    | zero => intro x3 hm; exact absurd hm (Nat.not_lt_zero _)
    | succ n ih =>
      intro x3 hm i0 hv ls hl
      have hv := (LX8_isUnder_2_eq r p1 p2 n x3).symm.trans hv
      refine lv_iload_n hx hb dX8_isUnder_2 rfl (lv_at hl 3 rfl) ?_
      refine lv_iconst (v := (-1)) hx hb dX8_isUnder_3 (by decide) ?_
      refine lv_icmp_eq (tgt := 22) hx hb dX8_isUnder_4 (by decide) (fun c4 => ?_) (fun c4 => ?_)
      · have hv := (if_pos c4).symm.trans hv
        refine lv_iload_n hx hb dX8_isUnder_22 rfl (lv_at hl 3 rfl) ?_
        refine lv_iload_n hx hb dX8_isUnder_23 rfl (lv_at hl 2 rfl) ?_
        refine join_i (J := 32) (ls := ls) (rest := []) (b2i (if x3 = p2 then true else false)) ?_ (fun hJ => ?_)
        · exact W.zret (ty := .boolean) (v := b2i (if x3 = p2 then true else false)) hx hb hr (b2i_nar (if x3 = p2 then true else false)) (fun t ht hW => ⟨b2i (if x3 = p2 then true else false), rfl, congrArg b2i hv, ht⟩) (fun _ h => nomatch h) dX8_isUnder_32 (hlocks := hlocks)
        · refine lv_icmp_ne (tgt := 31) hx hb dX8_isUnder_24 (by decide) (fun c24 => ?_) (fun c24 => ?_)
          · refine lv_iconst (v := 0) hx hb dX8_isUnder_31 (by decide) ?_
            exact hJ _ (congrArg b2i ((if_neg c24).trans rfl))
          · refine lv_iconst (v := 1) hx hb dX8_isUnder_27 (by decide) ?_
            refine lv_goto (tgt := 32) hx hb dX8_isUnder_28 (by decide) ?_
            exact hJ _ (congrArg b2i ((if_pos c24).trans rfl))
      · have hv := (if_neg c4).symm.trans hv
        refine lv_iload_n hx hb dX8_isUnder_7 rfl (lv_at hl 3 rfl) ?_
        refine lv_iload_n hx hb dX8_isUnder_8 rfl (lv_at hl 2 rfl) ?_
        refine lv_icmp_eq (tgt := 22) hx hb dX8_isUnder_9 (by decide) (fun c9 => ?_) (fun c9 => ?_)
        · have hv := (if_pos c9).symm.trans hv
          refine lv_iload_n hx hb dX8_isUnder_22 rfl (lv_at hl 3 rfl) ?_
          refine lv_iload_n hx hb dX8_isUnder_23 rfl (lv_at hl 2 rfl) ?_
          refine join_i (J := 32) (ls := ls) (rest := []) (b2i (if x3 = p2 then true else false)) ?_ (fun hJ => ?_)
          · exact W.zret (ty := .boolean) (v := b2i (if x3 = p2 then true else false)) hx hb hr (b2i_nar (if x3 = p2 then true else false)) (fun t ht hW => ⟨b2i (if x3 = p2 then true else false), rfl, congrArg b2i hv, ht⟩) (fun _ h => nomatch h) dX8_isUnder_32 (hlocks := hlocks)
          · refine lv_icmp_ne (tgt := 31) hx hb dX8_isUnder_24 (by decide) (fun c24 => ?_) (fun c24 => ?_)
            · refine lv_iconst (v := 0) hx hb dX8_isUnder_31 (by decide) ?_
              exact hJ _ (congrArg b2i ((if_neg c24).trans rfl))
            · refine lv_iconst (v := 1) hx hb dX8_isUnder_27 (by decide) ?_
              refine lv_goto (tgt := 32) hx hb dX8_isUnder_28 (by decide) ?_
              exact hJ _ (congrArg b2i ((if_pos c24).trans rfl))
        · have hv := (if_neg c9).symm.trans hv
          have f1 := (i0.s c4).v hv0
          refine lv_aload_n hx hb dX8_isUnder_12 rfl (lv_at hl 0 rfl) ?_
          refine lv_bipush (v := 10) hx hb dX8_isUnder_13 (by decide) ?_
          refine lv_iload_n hx hb dX8_isUnder_15 rfl (lv_at hl 3 rfl) ?_
          refine lv_iadd hx hb dX8_isUnder_16 ?_
          refine va_iald (cA := cs 0) (n := 414) (f := r) hx hb hK hP 0 0 rfl rfl (vp_off (K := 10) rfl (by assumption) (by decide) (by decide)) dX8_isUnder_17 ?_
          refine lv_istore_n (lv' := [(3, .int (r (10 + x3).toNatClampNeg)), (0, .ref q), (1, .int p1), (2, .int p2)]) hx hb dX8_isUnder_18 rfl hl (by decide) rfl (fun ls hl => ?_)
          refine lv_goto (tgt := 2) hx hb dX8_isUnder_19 (by decide) ?_
          exact ih (r (10 + x3).toNatClampNeg) ((hv0.dn (i0.s c4) hm)) ((hv0.up (i0.s c4)).1) hv ls (lv_sub hl [1, 2, 3, 0] rfl)
  exact LOOP _ p1 (Nat.lt_succ_self _) h1 hv ls (lv_sub hl [1, 2, 3, 0] rfl)
theorem hd_X8_above : yX8_above.cls ≠ "java/lang/invoke/MethodHandle" ∧ yX8_above.cls ≠ "java/lang/invoke/VarHandle" ∧ (parseMethodDescriptor yX8_above.desc).map (fun d => d.parameters.length) = some 2 := by decide +kernel
def LX8_above_9 (r : Nat → Int32) (p1 : Int32) : Nat → Int32 → Int32 → Int32
  | 0 => fun _ _ => 0
  | n + 1 => fun x2 x3 => (if x3 = (-1) then x2 else (LX8_above_9 r p1 n (x2 + 1) (r (10 + x3).toNatClampNeg)))
theorem LX8_above_9_eq (r : Nat → Int32) (p1 : Int32) (n : Nat) (x2 : Int32) (x3 : Int32) : LX8_above_9 r p1 (n + 1) x2 x3 = (if x3 = (-1) then x2 else (LX8_above_9 r p1 n (x2 + 1) (r (10 + x3).toNatClampNeg))) := rfl
def sX8_above (r : Nat → Int32) (p1 : Int32) : Int32 := (LX8_above_9 r p1 (dnM (r (10 + p1).toNatClampNeg) + 1) 0 (r (10 + p1).toNatClampNeg))
set_option maxHeartbeats 4000000 in
set_option maxRecDepth 100000 in
theorem c_X8_above (l : Launch) (D : va_G) (cs : Nat → ClassId) (q : Nat) (r : Nat → Int32) (p1 : Int32) (hv0 : MV r) (h1 : inS r p1) : Met l yX8_above (wc yX8_above cX8_above 4 (some .int)) ({ frames := 0, cells := 0, slots := 0, locals := 0 } : Room) (va_Pc [.ref q, .int p1] (PE D cs (rowW cs q r))) (vp_Si (fun r9 => r9 = (sX8_above r p1))) 0 0 (fun _ => False) := by
  obtain ⟨v, hv⟩ : ∃ v, sX8_above r p1 = v := ⟨_, rfl⟩
  rw [hv]
  refine met_o (lv := [(0, .ref q), (1, .int p1)]) (by decide) (Nat.le_of_ble_eq_true rfl) rfl ?_
  intro p e s m args below meth c ls hx hb hr hml hts hown hlocks hin hP hE hl
  have hown : s.vm.findClass RX8 = some m.cls := hown
  have hK := hE.1
  have hP : va_P D vwC (rowW cs q r) s.heap := hP
  unfold sX8_above at hv
  refine lv_iconst (v := 0) hx hb dX8_above_0 (by decide) ?_
  refine lv_istore_n (lv' := [(2, .int 0), (0, .ref q), (1, .int p1)]) hx hb dX8_above_1 rfl hl (by decide) rfl (fun ls hl => ?_)
  have f1 := h1.v hv0
  refine lv_aload_n hx hb dX8_above_2 rfl (lv_at hl 1 rfl) ?_
  refine lv_bipush (v := 10) hx hb dX8_above_3 (by decide) ?_
  refine lv_iload_n hx hb dX8_above_5 rfl (lv_at hl 2 rfl) ?_
  refine lv_iadd hx hb dX8_above_6 ?_
  refine va_iald (cA := cs 0) (n := 414) (f := r) hx hb hK hP 0 0 rfl rfl (vp_off (K := 10) rfl (by assumption) (by decide) (by decide)) dX8_above_7 ?_
  refine lv_istore_n (lv' := [(3, .int (r (10 + p1).toNatClampNeg)), (2, .int 0), (0, .ref q), (1, .int p1)]) hx hb dX8_above_8 rfl hl (by decide) rfl (fun ls hl => ?_)
  have LOOP : ∀ (n : Nat) (x2 : Int32) (x3 : Int32), dnM x3 < n → (at1 r x3) → LX8_above_9 r p1 n x2 x3 = v → ∀ ls : Array Slot, lv_has ls 4 [(0, .ref q), (1, .int p1), (2, .int x2), (3, .int x3)] → W p l e ({ frames := 0, cells := 0, slots := 0, locals := 0 } : Room) s m args below meth c s.heap [] 0 0 (MQ below (vp_Si (fun r9 => r9 = v)) args s 0 0 (fun _ => False)) (F0 m 9 ls []) := by
    clear hv
    intro n
    induction n with
    | zero => intro x2 x3 hm; exact absurd hm (Nat.not_lt_zero _)
    | succ n ih =>
      intro x2 x3 hm i0 hv ls hl
      have hv := (LX8_above_9_eq r p1 n x2 x3).symm.trans hv
      refine lv_iload_n hx hb dX8_above_9 rfl (lv_at hl 3 rfl) ?_
      refine lv_iconst (v := (-1)) hx hb dX8_above_10 (by decide) ?_
      refine lv_icmp_eq (tgt := 27) hx hb dX8_above_11 (by decide) (fun c11 => ?_) (fun c11 => ?_)
      · have hv := (if_pos c11).symm.trans hv
        refine lv_iload_n hx hb dX8_above_27 rfl (lv_at hl 2 rfl) ?_
        exact W.iret (v := x2) hx hb hr (fun t ht hW => ⟨x2, rfl, hv, ht⟩) (fun _ h => nomatch h) dX8_above_28 (hlocks := hlocks)
      · have hv := (if_neg c11).symm.trans hv
        refine lv_iinc (v := x2 + 1) (lv' := [(2, .int (x2 + 1)), (0, .ref q), (1, .int p1), (3, .int x3)]) hx hb dX8_above_14 hl (k := 2) rfl rfl (by decide) rfl (fun ls hl => ?_)
        have f1 := (i0.s c11).v hv0
        refine lv_aload_n hx hb dX8_above_17 rfl (lv_at hl 1 rfl) ?_
        refine lv_bipush (v := 10) hx hb dX8_above_18 (by decide) ?_
        refine lv_iload_n hx hb dX8_above_20 rfl (lv_at hl 3 rfl) ?_
        refine lv_iadd hx hb dX8_above_21 ?_
        refine va_iald (cA := cs 0) (n := 414) (f := r) hx hb hK hP 0 0 rfl rfl (vp_off (K := 10) rfl (by assumption) (by decide) (by decide)) dX8_above_22 ?_
        refine lv_istore_n (lv' := [(3, .int (r (10 + x3).toNatClampNeg)), (2, .int (x2 + 1)), (0, .ref q), (1, .int p1)]) hx hb dX8_above_23 rfl hl (by decide) rfl (fun ls hl => ?_)
        refine lv_goto (tgt := 9) hx hb dX8_above_24 (by decide) ?_
        exact ih (x2 + 1) (r (10 + x3).toNatClampNeg) ((hv0.dn (i0.s c11) hm)) ((hv0.up (i0.s c11)).1) hv ls (lv_sub hl [2, 3, 1, 0] rfl)
  exact LOOP _ 0 (r (10 + p1).toNatClampNeg) (Nat.lt_succ_self _) ((hv0.up h1).1) hv ls (lv_sub hl [2, 3, 1, 0] rfl)
theorem hd_X8_below : yX8_below.cls ≠ "java/lang/invoke/MethodHandle" ∧ yX8_below.cls ≠ "java/lang/invoke/VarHandle" ∧ (parseMethodDescriptor yX8_below.desc).map (fun d => d.parameters.length) = some 2 := by decide +kernel
def LX8_below_4 (r : Nat → Int32) (p1 : Int32) : Nat → Int32 → Int32 → Int32
  | 0 => fun _ _ => 0
  | n + 1 => fun x2 x3 => (if (r (0 : Int32).toNatClampNeg) ≤ x3 then x2 else (LX8_below_4 r p1 n (x2 + (b2i (if (sX8_isUnder r x3 p1) = true then true else false))) (x3 + 1)))
theorem LX8_below_4_eq (r : Nat → Int32) (p1 : Int32) (n : Nat) (x2 : Int32) (x3 : Int32) : LX8_below_4 r p1 (n + 1) x2 x3 = (if (r (0 : Int32).toNatClampNeg) ≤ x3 then x2 else (LX8_below_4 r p1 n (x2 + (b2i (if (sX8_isUnder r x3 p1) = true then true else false))) (x3 + 1))) := rfl
def sX8_below (r : Nat → Int32) (p1 : Int32) : Int32 := (LX8_below_4 r p1 (upM (r (0 : Int32).toNatClampNeg) 0 + 1) (-1) 0)
set_option maxHeartbeats 4000000 in
set_option maxRecDepth 100000 in
theorem c_X8_below (l : Launch) (D : va_G) (cs : Nat → ClassId) (q : Nat) (r : Nat → Int32) (p1 : Int32) (hv0 : MV r) : Met l yX8_below (wc yX8_below cX8_below 4 (some .int)) ({ frames := 1, cells := 0, slots := 0, locals := 23 } : Room) (va_Pc [.ref q, .int p1] (PE D cs (rowW cs q r))) (vp_Si (fun r9 => r9 = (sX8_below r p1))) 0 0 (fun _ => False) := by
  obtain ⟨v, hv⟩ : ∃ v, sX8_below r p1 = v := ⟨_, rfl⟩
  rw [hv]
  refine met_o (lv := [(0, .ref q), (1, .int p1)]) (by decide) (Nat.le_of_ble_eq_true rfl) rfl ?_
  intro p e s m args below meth c ls hx hb hr hml hts hown hlocks hin hP hE hl
  have hown : s.vm.findClass RX8 = some m.cls := hown
  have hK := hE.1
  have hP : va_P D vwC (rowW cs q r) s.heap := hP
  unfold sX8_below at hv
  refine lv_iconst (v := (-1)) hx hb dX8_below_0 (by decide) ?_
  refine lv_istore_n (lv' := [(2, .int (-1)), (0, .ref q), (1, .int p1)]) hx hb dX8_below_1 rfl hl (by decide) rfl (fun ls hl => ?_)
  refine lv_iconst (v := 0) hx hb dX8_below_2 (by decide) ?_
  refine lv_istore_n (lv' := [(3, .int 0), (2, .int (-1)), (0, .ref q), (1, .int p1)]) hx hb dX8_below_3 rfl hl (by decide) rfl (fun ls hl => ?_)
  have LOOP : ∀ (n : Nat) (x2 : Int32) (x3 : Int32), upM (r (0 : Int32).toNatClampNeg) x3 < n → (¬ x3 < 0) → LX8_below_4 r p1 n x2 x3 = v → ∀ ls : Array Slot, lv_has ls 4 [(0, .ref q), (1, .int p1), (2, .int x2), (3, .int x3)] → W p l e ({ frames := 1, cells := 0, slots := 0, locals := 23 } : Room) s m args below meth c s.heap [] 0 0 (MQ below (vp_Si (fun r9 => r9 = v)) args s 0 0 (fun _ => False)) (F0 m 4 ls []) := by
    clear hv
    intro n
    induction n with
    | zero => intro x2 x3 hm; exact absurd hm (Nat.not_lt_zero _)
    | succ n ih =>
      intro x2 x3 hm i0 hv ls hl
      have hv := (LX8_below_4_eq r p1 n x2 x3).symm.trans hv
      refine lv_iload_n hx hb dX8_below_4 rfl (lv_at hl 3 rfl) ?_
      refine lv_aload_n hx hb dX8_below_5 rfl (lv_at hl 0 rfl) ?_
      refine lv_iconst (v := 0) hx hb dX8_below_6 (by decide) ?_
      refine va_iald (cA := cs 0) (n := 414) (f := r) hx hb hK hP 0 0 rfl rfl (by unfold vp_in; decide) dX8_below_7 ?_
      refine lv_icmp_ge (tgt := 34) hx hb dX8_below_8 (by decide) (fun c8 => ?_) (fun c8 => ?_)
      · have hv := (if_pos c8).symm.trans hv
        refine lv_iload_n hx hb dX8_below_34 rfl (lv_at hl 2 rfl) ?_
        exact W.iret (v := x2) hx hb hr (fun t ht hW => ⟨x2, rfl, hv, ht⟩) (fun _ h => nomatch h) dX8_below_35 (hlocks := hlocks)
      · have hv := (if_neg c8).symm.trans hv
        refine lv_iload_n hx hb dX8_below_11 rfl (lv_at hl 2 rfl) ?_
        refine lv_aload_n hx hb dX8_below_12 rfl (lv_at hl 0 rfl) ?_
        refine lv_iload_n hx hb dX8_below_13 rfl (lv_at hl 3 rfl) ?_
        refine lv_iload_n hx hb dX8_below_14 rfl (lv_at hl 1 rfl) ?_
        refine ro_i (b2i (sX8_isUnder r x3 p1)) (run_c (va_runS (As := [.ref q, .int x3, .int p1]) (rest := [.int x2]) ⟨hx, hb, hml, hown, hts⟩ (c_X8_isUnder l D cs q r x3 p1 hv0 (inS.a (inX.of i0 c8))) (cwS 3 hts (good_S w_ml_X8_58 w_st_X8_isUnder w_in_X8 w_co_X8_isUnder) rfl rfl rfl ⟨rfl, hd_X8_isUnder⟩ ⟨Nat.le_of_ble_eq_true rfl, Nat.le_of_ble_eq_true rfl⟩) (pe_S hP hE) rfl rfl hl.1 rfl (lv_room (Nat.le_of_ble_eq_true rfl)) dX8_below_15 ⟨Nat.zero_le _, Nat.zero_le _⟩)) ?_
        refine join_i (J := 26) (ls := ls) (rest := [.int x2]) (b2i (if (sX8_isUnder r x3 p1) = true then true else false)) ?_ (fun hJ => ?_)
        · refine lv_iadd hx hb dX8_below_26 ?_
          refine lv_istore_n (lv' := [(2, .int (x2 + (b2i (if (sX8_isUnder r x3 p1) = true then true else false)))), (0, .ref q), (1, .int p1), (3, .int x3)]) hx hb dX8_below_27 rfl hl (by decide) rfl (fun ls hl => ?_)
          refine lv_iinc (v := x3 + 1) (lv' := [(3, .int (x3 + 1)), (2, .int (x2 + (b2i (if (sX8_isUnder r x3 p1) = true then true else false)))), (0, .ref q), (1, .int p1)]) hx hb dX8_below_28 hl (k := 3) rfl rfl (by decide) rfl (fun ls hl => ?_)
          refine lv_goto (tgt := 4) hx hb dX8_below_31 (by decide) ?_
          exact ih (x2 + (b2i (if (sX8_isUnder r x3 p1) = true then true else false))) (x3 + 1) (upM_s c8 hm) (nn_inc i0 c8) hv ls (lv_sub hl [2, 3, 1, 0] rfl)
        · refine lv_if_eq (tgt := 25) hx hb dX8_below_18 (by decide) (fun c18 => ?_) (fun c18 => ?_)
          · have c18 := b2i_f c18
            refine lv_iconst (v := 0) hx hb dX8_below_25 (by decide) ?_
            exact hJ _ (congrArg b2i ((if_neg c18).trans rfl))
          · have c18 := b2i_t c18
            refine lv_iconst (v := 1) hx hb dX8_below_21 (by decide) ?_
            refine lv_goto (tgt := 26) hx hb dX8_below_22 (by decide) ?_
            exact hJ _ (congrArg b2i ((if_pos c18).trans rfl))
  exact LOOP _ (-1) 0 (Nat.lt_succ_self _) (by decide) hv ls (lv_sub hl [2, 3, 1, 0] rfl)
theorem hd_X8_deep : yX8_deep.cls ≠ "java/lang/invoke/MethodHandle" ∧ yX8_deep.cls ≠ "java/lang/invoke/VarHandle" ∧ (parseMethodDescriptor yX8_deep.desc).map (fun d => d.parameters.length) = some 2 := by decide +kernel
def LX8_deep_4 (r : Nat → Int32) (p1 : Int32) : Nat → Int32 → Int32 → Int32
  | 0 => fun _ _ => 0
  | n + 1 => fun x2 x3 => (if (r (0 : Int32).toNatClampNeg) ≤ x3 then x2 else (LX8_deep_4 r p1 n (if (if (sX8_isUnder r x3 p1) = true then ((sX8_above r x3) - (sX8_above r p1)) + 1 else (0 : Int32)) ≤ x2 then x2 else (if (sX8_isUnder r x3 p1) = true then ((sX8_above r x3) - (sX8_above r p1)) + 1 else (0 : Int32))) (x3 + 1)))
theorem LX8_deep_4_eq (r : Nat → Int32) (p1 : Int32) (n : Nat) (x2 : Int32) (x3 : Int32) : LX8_deep_4 r p1 (n + 1) x2 x3 = (if (r (0 : Int32).toNatClampNeg) ≤ x3 then x2 else (LX8_deep_4 r p1 n (if (if (sX8_isUnder r x3 p1) = true then ((sX8_above r x3) - (sX8_above r p1)) + 1 else (0 : Int32)) ≤ x2 then x2 else (if (sX8_isUnder r x3 p1) = true then ((sX8_above r x3) - (sX8_above r p1)) + 1 else (0 : Int32))) (x3 + 1))) := rfl
def sX8_deep (r : Nat → Int32) (p1 : Int32) : Int32 := (LX8_deep_4 r p1 (upM (r (0 : Int32).toNatClampNeg) 0 + 1) 0 0)
set_option maxHeartbeats 4000000 in
set_option maxRecDepth 100000 in
theorem c_X8_deep (l : Launch) (D : va_G) (cs : Nat → ClassId) (q : Nat) (r : Nat → Int32) (p1 : Int32) (hv0 : MV r) (h1 : inS r p1) : Met l yX8_deep (wc yX8_deep cX8_deep 5 (some .int)) ({ frames := 1, cells := 0, slots := 0, locals := 23 } : Room) (va_Pc [.ref q, .int p1] (PE D cs (rowW cs q r))) (vp_Si (fun r9 => r9 = (sX8_deep r p1))) 0 0 (fun _ => False) := by
  obtain ⟨v, hv⟩ : ∃ v, sX8_deep r p1 = v := ⟨_, rfl⟩
  rw [hv]
  refine met_o (lv := [(0, .ref q), (1, .int p1)]) (by decide) (Nat.le_of_ble_eq_true rfl) rfl ?_
  intro p e s m args below meth c ls hx hb hr hml hts hown hlocks hin hP hE hl
  have hown : s.vm.findClass RX8 = some m.cls := hown
  have hK := hE.1
  have hP : va_P D vwC (rowW cs q r) s.heap := hP
  unfold sX8_deep at hv
  refine lv_iconst (v := 0) hx hb dX8_deep_0 (by decide) ?_
  refine lv_istore_n (lv' := [(2, .int 0), (0, .ref q), (1, .int p1)]) hx hb dX8_deep_1 rfl hl (by decide) rfl (fun ls hl => ?_)
  refine lv_iconst (v := 0) hx hb dX8_deep_2 (by decide) ?_
  refine lv_istore_n (lv' := [(3, .int 0), (2, .int 0), (0, .ref q), (1, .int p1)]) hx hb dX8_deep_3 rfl hl (by decide) rfl (fun ls hl => ?_)
  have LOOP : ∀ (n : Nat) (x2 : Int32) (x3 : Int32), upM (r (0 : Int32).toNatClampNeg) x3 < n → (¬ x3 < 0) → LX8_deep_4 r p1 n x2 x3 = v → ∀ ls : Array Slot, lv_has ls 5 [(0, .ref q), (1, .int p1), (2, .int x2), (3, .int x3)] → W p l e ({ frames := 1, cells := 0, slots := 0, locals := 23 } : Room) s m args below meth c s.heap [] 0 0 (MQ below (vp_Si (fun r9 => r9 = v)) args s 0 0 (fun _ => False)) (F0 m 4 ls []) := by
    clear hv
    intro n
    induction n with
    | zero => intro x2 x3 hm; exact absurd hm (Nat.not_lt_zero _)
    | succ n ih =>
      intro x2 x3 hm i0 hv ls hl
      have hv := (LX8_deep_4_eq r p1 n x2 x3).symm.trans hv
      refine lv_iload_n hx hb dX8_deep_4 rfl (lv_at hl 3 rfl) ?_
      refine lv_aload_n hx hb dX8_deep_5 rfl (lv_at hl 0 rfl) ?_
      refine lv_iconst (v := 0) hx hb dX8_deep_6 (by decide) ?_
      refine va_iald (cA := cs 0) (n := 414) (f := r) hx hb hK hP 0 0 rfl rfl (by unfold vp_in; decide) dX8_deep_7 ?_
      refine lv_icmp_ge (tgt := 58) hx hb dX8_deep_8 (by decide) (fun c8 => ?_) (fun c8 => ?_)
      · have hv := (if_pos c8).symm.trans hv
        refine lv_iload_n hx hb dX8_deep_58 rfl (lv_at hl 2 rfl) ?_
        exact W.iret (v := x2) hx hb hr (fun t ht hW => ⟨x2, rfl, hv, ht⟩) (fun _ h => nomatch h) dX8_deep_59 (hlocks := hlocks)
      · have hv := (if_neg c8).symm.trans hv
        refine lv_aload_n hx hb dX8_deep_11 rfl (lv_at hl 0 rfl) ?_
        refine lv_iload_n hx hb dX8_deep_12 rfl (lv_at hl 3 rfl) ?_
        refine lv_iload_n hx hb dX8_deep_13 rfl (lv_at hl 1 rfl) ?_
        refine ro_i (b2i (sX8_isUnder r x3 p1)) (run_c (va_runS (As := [.ref q, .int x3, .int p1]) (rest := []) ⟨hx, hb, hml, hown, hts⟩ (c_X8_isUnder l D cs q r x3 p1 hv0 (inS.a (inX.of i0 c8))) (cwS 3 hts (good_S w_ml_X8_58 w_st_X8_isUnder w_in_X8 w_co_X8_isUnder) rfl rfl rfl ⟨rfl, hd_X8_isUnder⟩ ⟨Nat.le_of_ble_eq_true rfl, Nat.le_of_ble_eq_true rfl⟩) (pe_S hP hE) rfl rfl hl.1 rfl (lv_room (Nat.le_of_ble_eq_true rfl)) dX8_deep_14 ⟨Nat.zero_le _, Nat.zero_le _⟩)) ?_
        refine join_i (J := 37) (ls := ls) (rest := []) ((if (sX8_isUnder r x3 p1) = true then ((sX8_above r x3) - (sX8_above r p1)) + 1 else (0 : Int32))) ?_ (fun hJ => ?_)
        · refine lv_istore (lv' := [(4, .int (if (sX8_isUnder r x3 p1) = true then ((sX8_above r x3) - (sX8_above r p1)) + 1 else (0 : Int32))), (0, .ref q), (1, .int p1), (2, .int x2), (3, .int x3)]) hx hb dX8_deep_37 hl (by decide) rfl (fun ls hl => ?_)
          refine lv_iload hx hb dX8_deep_39 (lv_at hl 0 rfl) ?_
          refine lv_iload_n hx hb dX8_deep_41 rfl (lv_at hl 3 rfl) ?_
          refine join_i (J := 51) (ls := ls) (rest := []) ((if (if (sX8_isUnder r x3 p1) = true then ((sX8_above r x3) - (sX8_above r p1)) + 1 else (0 : Int32)) ≤ x2 then x2 else (if (sX8_isUnder r x3 p1) = true then ((sX8_above r x3) - (sX8_above r p1)) + 1 else (0 : Int32)))) ?_ (fun hJ => ?_)
          · refine lv_istore_n (lv' := [(2, .int (if (if (sX8_isUnder r x3 p1) = true then ((sX8_above r x3) - (sX8_above r p1)) + 1 else (0 : Int32)) ≤ x2 then x2 else (if (sX8_isUnder r x3 p1) = true then ((sX8_above r x3) - (sX8_above r p1)) + 1 else (0 : Int32)))), (4, .int (if (sX8_isUnder r x3 p1) = true then ((sX8_above r x3) - (sX8_above r p1)) + 1 else (0 : Int32))), (0, .ref q), (1, .int p1), (3, .int x3)]) hx hb dX8_deep_51 rfl hl (by decide) rfl (fun ls hl => ?_)
            refine lv_iinc (v := x3 + 1) (lv' := [(3, .int (x3 + 1)), (2, .int (if (if (sX8_isUnder r x3 p1) = true then ((sX8_above r x3) - (sX8_above r p1)) + 1 else (0 : Int32)) ≤ x2 then x2 else (if (sX8_isUnder r x3 p1) = true then ((sX8_above r x3) - (sX8_above r p1)) + 1 else (0 : Int32)))), (4, .int (if (sX8_isUnder r x3 p1) = true then ((sX8_above r x3) - (sX8_above r p1)) + 1 else (0 : Int32))), (0, .ref q), (1, .int p1)]) hx hb dX8_deep_52 hl (k := 4) rfl rfl (by decide) rfl (fun ls hl => ?_)
            refine lv_goto (tgt := 4) hx hb dX8_deep_55 (by decide) ?_
            exact ih (if (if (sX8_isUnder r x3 p1) = true then ((sX8_above r x3) - (sX8_above r p1)) + 1 else (0 : Int32)) ≤ x2 then x2 else (if (sX8_isUnder r x3 p1) = true then ((sX8_above r x3) - (sX8_above r p1)) + 1 else (0 : Int32))) (x3 + 1) (upM_s c8 hm) (nn_inc i0 c8) hv ls (lv_sub hl [3, 4, 1, 0] rfl)
          · refine lv_icmp_le (tgt := 50) hx hb dX8_deep_42 (by decide) (fun c42 => ?_) (fun c42 => ?_)
            · refine lv_iload_n hx hb dX8_deep_50 rfl (lv_at hl 3 rfl) ?_
              exact hJ _ ((if_pos c42).trans rfl)
            · refine lv_iload hx hb dX8_deep_45 (lv_at hl 0 rfl) ?_
              refine lv_goto (tgt := 51) hx hb dX8_deep_47 (by decide) ?_
              exact hJ _ ((if_neg c42).trans rfl)
        · refine lv_if_eq (tgt := 36) hx hb dX8_deep_17 (by decide) (fun c17 => ?_) (fun c17 => ?_)
          · have c17 := b2i_f c17
            refine lv_iconst (v := 0) hx hb dX8_deep_36 (by decide) ?_
            exact hJ _ ((if_neg c17).trans rfl)
          · have c17 := b2i_t c17
            refine lv_aload_n hx hb dX8_deep_20 rfl (lv_at hl 0 rfl) ?_
            refine lv_iload_n hx hb dX8_deep_21 rfl (lv_at hl 3 rfl) ?_
            refine ro_i (sX8_above r x3) (run_c (va_runS (As := [.ref q, .int x3]) (rest := []) ⟨hx, hb, hml, hown, hts⟩ (c_X8_above l D cs q r x3 hv0 (inX.of i0 c8)) (cwS 2 hts (good_S w_ml_X8_62 w_st_X8_above w_in_X8 w_co_X8_above) rfl rfl rfl ⟨rfl, hd_X8_above⟩ ⟨Nat.le_of_ble_eq_true rfl, Nat.le_of_ble_eq_true rfl⟩) (pe_S hP hE) rfl rfl hl.1 rfl (lv_room (Nat.le_of_ble_eq_true rfl)) dX8_deep_22 ⟨Nat.zero_le _, Nat.zero_le _⟩)) ?_
            refine lv_aload_n hx hb dX8_deep_25 rfl (lv_at hl 0 rfl) ?_
            refine lv_iload_n hx hb dX8_deep_26 rfl (lv_at hl 1 rfl) ?_
            refine ro_i (sX8_above r p1) (run_c (va_runS (As := [.ref q, .int p1]) (rest := [.int (sX8_above r x3)]) ⟨hx, hb, hml, hown, hts⟩ (c_X8_above l D cs q r p1 hv0 h1) (cwS 2 hts (good_S w_ml_X8_62 w_st_X8_above w_in_X8 w_co_X8_above) rfl rfl rfl ⟨rfl, hd_X8_above⟩ ⟨Nat.le_of_ble_eq_true rfl, Nat.le_of_ble_eq_true rfl⟩) (pe_S hP hE) rfl rfl hl.1 rfl (lv_room (Nat.le_of_ble_eq_true rfl)) dX8_deep_27 ⟨Nat.zero_le _, Nat.zero_le _⟩)) ?_
            refine lv_isub hx hb dX8_deep_30 ?_
            refine lv_iconst (v := 1) hx hb dX8_deep_31 (by decide) ?_
            refine lv_iadd hx hb dX8_deep_32 ?_
            refine lv_goto (tgt := 37) hx hb dX8_deep_33 (by decide) ?_
            exact hJ _ ((if_pos c17).trans rfl)
  exact LOOP _ 0 0 (Nat.lt_succ_self _) (by decide) hv ls (lv_sub hl [2, 3, 1, 0] rfl)
theorem hd_X8_isOut : yX8_isOut.cls ≠ "java/lang/invoke/MethodHandle" ∧ yX8_isOut.cls ≠ "java/lang/invoke/VarHandle" ∧ (parseMethodDescriptor yX8_isOut.desc).map (fun d => d.parameters.length) = some 2 := by decide +kernel
def sX8_isOut (r : Nat → Int32) (p1 : Int32) : Bool := (sX8_has (r (9 : Int32).toNatClampNeg) p1)
set_option maxHeartbeats 4000000 in
set_option maxRecDepth 100000 in
theorem c_X8_isOut (l : Launch) (D : va_G) (cs : Nat → ClassId) (q : Nat) (r : Nat → Int32) (p1 : Int32) : Met l yX8_isOut (wc yX8_isOut cX8_isOut 2 (some .boolean)) ({ frames := 1, cells := 0, slots := 0, locals := 21 } : Room) (va_Pc [.ref q, .int p1] (PE D cs (rowW cs q r))) (vp_Si (fun r9 => r9 = b2i (sX8_isOut r p1))) 0 0 (fun _ => False) := by
  obtain ⟨v, hv⟩ : ∃ v, sX8_isOut r p1 = v := ⟨_, rfl⟩
  rw [hv]
  refine met_o (lv := [(0, .ref q), (1, .int p1)]) (by decide) (Nat.le_of_ble_eq_true rfl) rfl ?_
  intro p e s m args below meth c ls hx hb hr hml hts hown hlocks hin hP hE hl
  have hown : s.vm.findClass RX8 = some m.cls := hown
  have hK := hE.1
  have hP : va_P D vwC (rowW cs q r) s.heap := hP
  unfold sX8_isOut at hv
  refine lv_aload_n hx hb dX8_isOut_0 rfl (lv_at hl 0 rfl) ?_
  refine lv_bipush (v := 9) hx hb dX8_isOut_1 (by decide) ?_
  refine va_iald (cA := cs 0) (n := 414) (f := r) hx hb hK hP 0 0 rfl rfl (by unfold vp_in; decide) dX8_isOut_3 ?_
  refine lv_iload_n hx hb dX8_isOut_4 rfl (lv_at hl 1 rfl) ?_
  refine ro_i (b2i (sX8_has (r (9 : Int32).toNatClampNeg) p1)) (run_c (va_runS (As := [.int (r (9 : Int32).toNatClampNeg), .int p1]) (rest := []) ⟨hx, hb, hml, hown, hts⟩ (c_X8_has l D cs (r (9 : Int32).toNatClampNeg) p1) (cwS 2 hts (good_S w_ml_X8_66 w_st_X8_has w_in_X8 w_co_X8_has) rfl rfl rfl ⟨rfl, hd_X8_has⟩ ⟨Nat.le_of_ble_eq_true rfl, Nat.le_of_ble_eq_true rfl⟩) (pe_S (p_nil D _) hE) rfl rfl hl.1 rfl (lv_room (Nat.le_of_ble_eq_true rfl)) dX8_isOut_5 ⟨Nat.zero_le _, Nat.zero_le _⟩)) ?_
  exact W.zret (ty := .boolean) (v := b2i (sX8_has (r (9 : Int32).toNatClampNeg) p1)) hx hb hr (b2i_nar (sX8_has (r (9 : Int32).toNatClampNeg) p1)) (fun t ht hW => ⟨b2i (sX8_has (r (9 : Int32).toNatClampNeg) p1), rfl, congrArg b2i hv, ht⟩) (fun _ h => nomatch h) dX8_isOut_8 (hlocks := hlocks)
theorem hd_X8_isRecalled : yX8_isRecalled.cls ≠ "java/lang/invoke/MethodHandle" ∧ yX8_isRecalled.cls ≠ "java/lang/invoke/VarHandle" ∧ (parseMethodDescriptor yX8_isRecalled.desc).map (fun d => d.parameters.length) = some 2 := by decide +kernel
def sX8_isRecalled (r : Nat → Int32) (p1 : Int32) : Bool := (if (r (270 + p1).toNatClampNeg) = (-1) then false else true)
set_option maxHeartbeats 4000000 in
set_option maxRecDepth 100000 in
theorem c_X8_isRecalled (l : Launch) (D : va_G) (cs : Nat → ClassId) (q : Nat) (r : Nat → Int32) (p1 : Int32) (h1 : vp_in p1 24) : Met l yX8_isRecalled (wc yX8_isRecalled cX8_isRecalled 2 (some .boolean)) ({ frames := 0, cells := 0, slots := 0, locals := 0 } : Room) (va_Pc [.ref q, .int p1] (PE D cs (rowW cs q r))) (vp_Si (fun r9 => r9 = b2i (sX8_isRecalled r p1))) 0 0 (fun _ => False) := by
  obtain ⟨v, hv⟩ : ∃ v, sX8_isRecalled r p1 = v := ⟨_, rfl⟩
  rw [hv]
  refine met_o (lv := [(0, .ref q), (1, .int p1)]) (by decide) (Nat.le_of_ble_eq_true rfl) rfl ?_
  intro p e s m args below meth c ls hx hb hr hml hts hown hlocks hin hP hE hl
  have hown : s.vm.findClass RX8 = some m.cls := hown
  have hK := hE.1
  have hP : va_P D vwC (rowW cs q r) s.heap := hP
  unfold sX8_isRecalled at hv
  refine lv_aload_n hx hb dX8_isRecalled_0 rfl (lv_at hl 0 rfl) ?_
  refine lv_sipush (v := 270) hx hb dX8_isRecalled_1 (by decide) ?_
  refine lv_iload_n hx hb dX8_isRecalled_4 rfl (lv_at hl 1 rfl) ?_
  refine lv_iadd hx hb dX8_isRecalled_5 ?_
  refine va_iald (cA := cs 0) (n := 414) (f := r) hx hb hK hP 0 0 rfl rfl (vp_off (K := 270) rfl (by assumption) (by decide) (by decide)) dX8_isRecalled_6 ?_
  refine lv_iconst (v := (-1)) hx hb dX8_isRecalled_7 (by decide) ?_
  refine join_i (J := 16) (ls := ls) (rest := []) (b2i (if (r (270 + p1).toNatClampNeg) = (-1) then false else true)) ?_ (fun hJ => ?_)
  · exact W.zret (ty := .boolean) (v := b2i (if (r (270 + p1).toNatClampNeg) = (-1) then false else true)) hx hb hr (b2i_nar (if (r (270 + p1).toNatClampNeg) = (-1) then false else true)) (fun t ht hW => ⟨b2i (if (r (270 + p1).toNatClampNeg) = (-1) then false else true), rfl, congrArg b2i hv, ht⟩) (fun _ h => nomatch h) dX8_isRecalled_16 (hlocks := hlocks)
  · refine lv_icmp_eq (tgt := 15) hx hb dX8_isRecalled_8 (by decide) (fun c8 => ?_) (fun c8 => ?_)
    · refine lv_iconst (v := 0) hx hb dX8_isRecalled_15 (by decide) ?_
      exact hJ _ (congrArg b2i ((if_pos c8).trans rfl))
    · refine lv_iconst (v := 1) hx hb dX8_isRecalled_11 (by decide) ?_
      refine lv_goto (tgt := 16) hx hb dX8_isRecalled_12 (by decide) ?_
      exact hJ _ (congrArg b2i ((if_neg c8).trans rfl))
theorem hd_X8_isOverdue : yX8_isOverdue.cls ≠ "java/lang/invoke/MethodHandle" ∧ yX8_isOverdue.cls ≠ "java/lang/invoke/VarHandle" ∧ (parseMethodDescriptor yX8_isOverdue.desc).map (fun d => d.parameters.length) = some 3 := by decide +kernel
def sX8_isOverdue (r : Nat → Int32) (p1 : Int32) (p2 : Int32) : Bool := (if (sX8_isOut r p1) = true then (if (sX8_isRecalled r p1) = true then (if p2 ≤ (r (270 + p1).toNatClampNeg) then false else true) else false) else false)
set_option maxHeartbeats 4000000 in
set_option maxRecDepth 100000 in
theorem c_X8_isOverdue (l : Launch) (D : va_G) (cs : Nat → ClassId) (q : Nat) (r : Nat → Int32) (p1 : Int32) (p2 : Int32) (h1 : vp_in p1 24) : Met l yX8_isOverdue (wc yX8_isOverdue cX8_isOverdue 3 (some .boolean)) ({ frames := 2, cells := 0, slots := 0, locals := 42 } : Room) (va_Pc [.ref q, .int p1, .int p2] (PE D cs (rowW cs q r))) (vp_Si (fun r9 => r9 = b2i (sX8_isOverdue r p1 p2))) 0 0 (fun _ => False) := by
  obtain ⟨v, hv⟩ : ∃ v, sX8_isOverdue r p1 p2 = v := ⟨_, rfl⟩
  rw [hv]
  refine met_o (lv := [(0, .ref q), (1, .int p1), (2, .int p2)]) (by decide) (Nat.le_of_ble_eq_true rfl) rfl ?_
  intro p e s m args below meth c ls hx hb hr hml hts hown hlocks hin hP hE hl
  have hown : s.vm.findClass RX8 = some m.cls := hown
  have hK := hE.1
  have hP : va_P D vwC (rowW cs q r) s.heap := hP
  unfold sX8_isOverdue at hv
  refine lv_aload_n hx hb dX8_isOverdue_0 rfl (lv_at hl 0 rfl) ?_
  refine lv_iload_n hx hb dX8_isOverdue_1 rfl (lv_at hl 1 rfl) ?_
  refine ro_i (b2i (sX8_isOut r p1)) (run_c (va_runS (As := [.ref q, .int p1]) (rest := []) ⟨hx, hb, hml, hown, hts⟩ (c_X8_isOut l D cs q r p1) (cwS 2 hts (good_S w_ml_X8_70 w_st_X8_isOut w_in_X8 w_co_X8_isOut) rfl rfl rfl ⟨rfl, hd_X8_isOut⟩ ⟨Nat.le_of_ble_eq_true rfl, Nat.le_of_ble_eq_true rfl⟩) (pe_S hP hE) rfl rfl hl.1 rfl (lv_room (Nat.le_of_ble_eq_true rfl)) dX8_isOverdue_2 ⟨Nat.zero_le _, Nat.zero_le _⟩)) ?_
  refine join_i (J := 32) (ls := ls) (rest := []) (b2i (if (sX8_isOut r p1) = true then (if (sX8_isRecalled r p1) = true then (if p2 ≤ (r (270 + p1).toNatClampNeg) then false else true) else false) else false)) ?_ (fun hJ => ?_)
  · exact W.zret (ty := .boolean) (v := b2i (if (sX8_isOut r p1) = true then (if (sX8_isRecalled r p1) = true then (if p2 ≤ (r (270 + p1).toNatClampNeg) then false else true) else false) else false)) hx hb hr (b2i_nar (if (sX8_isOut r p1) = true then (if (sX8_isRecalled r p1) = true then (if p2 ≤ (r (270 + p1).toNatClampNeg) then false else true) else false) else false)) (fun t ht hW => ⟨b2i (if (sX8_isOut r p1) = true then (if (sX8_isRecalled r p1) = true then (if p2 ≤ (r (270 + p1).toNatClampNeg) then false else true) else false) else false), rfl, congrArg b2i hv, ht⟩) (fun _ h => nomatch h) dX8_isOverdue_32 (hlocks := hlocks)
  · refine lv_if_eq (tgt := 31) hx hb dX8_isOverdue_5 (by decide) (fun c5 => ?_) (fun c5 => ?_)
    · have c5 := b2i_f c5
      refine lv_iconst (v := 0) hx hb dX8_isOverdue_31 (by decide) ?_
      exact hJ _ (congrArg b2i ((if_neg c5).trans rfl))
    · have c5 := b2i_t c5
      refine lv_aload_n hx hb dX8_isOverdue_8 rfl (lv_at hl 0 rfl) ?_
      refine lv_iload_n hx hb dX8_isOverdue_9 rfl (lv_at hl 1 rfl) ?_
      refine ro_i (b2i (sX8_isRecalled r p1)) (run_c (va_runS (As := [.ref q, .int p1]) (rest := []) ⟨hx, hb, hml, hown, hts⟩ (c_X8_isRecalled l D cs q r p1 h1) (cwS 2 hts (good_S w_ml_X8_74 w_st_X8_isRecalled w_in_X8 w_co_X8_isRecalled) rfl rfl rfl ⟨rfl, hd_X8_isRecalled⟩ ⟨Nat.le_of_ble_eq_true rfl, Nat.le_of_ble_eq_true rfl⟩) (pe_S hP hE) rfl rfl hl.1 rfl (lv_room (Nat.le_of_ble_eq_true rfl)) dX8_isOverdue_10 ⟨Nat.zero_le _, Nat.zero_le _⟩)) ?_
      refine lv_if_eq (tgt := 31) hx hb dX8_isOverdue_13 (by decide) (fun c13 => ?_) (fun c13 => ?_)
      · have c13 := b2i_f c13
        refine lv_iconst (v := 0) hx hb dX8_isOverdue_31 (by decide) ?_
        exact hJ _ (congrArg b2i ((if_pos c5).trans ((if_neg c13).trans rfl)))
      · have c13 := b2i_t c13
        refine lv_iload_n hx hb dX8_isOverdue_16 rfl (lv_at hl 2 rfl) ?_
        refine lv_aload_n hx hb dX8_isOverdue_17 rfl (lv_at hl 0 rfl) ?_
        refine lv_sipush (v := 270) hx hb dX8_isOverdue_18 (by decide) ?_
        refine lv_iload_n hx hb dX8_isOverdue_21 rfl (lv_at hl 1 rfl) ?_
        refine lv_iadd hx hb dX8_isOverdue_22 ?_
        refine va_iald (cA := cs 0) (n := 414) (f := r) hx hb hK hP 0 0 rfl rfl (vp_off (K := 270) rfl (by assumption) (by decide) (by decide)) dX8_isOverdue_23 ?_
        refine lv_icmp_le (tgt := 31) hx hb dX8_isOverdue_24 (by decide) (fun c24 => ?_) (fun c24 => ?_)
        · refine lv_iconst (v := 0) hx hb dX8_isOverdue_31 (by decide) ?_
          exact hJ _ (congrArg b2i ((if_pos c5).trans ((if_pos c13).trans ((if_pos c24).trans rfl))))
        · refine lv_iconst (v := 1) hx hb dX8_isOverdue_27 (by decide) ?_
          refine lv_goto (tgt := 32) hx hb dX8_isOverdue_28 (by decide) ?_
          exact hJ _ (congrArg b2i ((if_pos c5).trans ((if_pos c13).trans ((if_neg c24).trans rfl))))
theorem hd_X8_mayBuild : yX8_mayBuild.cls ≠ "java/lang/invoke/MethodHandle" ∧ yX8_mayBuild.cls ≠ "java/lang/invoke/VarHandle" ∧ (parseMethodDescriptor yX8_mayBuild.desc).map (fun d => d.parameters.length) = some 2 := by decide +kernel
def sX8_mayBuild (r : Nat → Int32) (p1 : Int32) : Bool := (if (sX8_isOut r p1) = true then (if (sX8_isRecalled r p1) = true then false else (if (sX8_many (r (246 + p1).toNatClampNeg)) < (r (6 : Int32).toNatClampNeg) then false else (if (sX8_has (r (8 : Int32).toNatClampNeg) (r (150 + p1).toNatClampNeg)) = true then false else true))) else false)
set_option maxHeartbeats 4000000 in
set_option maxRecDepth 100000 in
theorem c_X8_mayBuild (l : Launch) (D : va_G) (cs : Nat → ClassId) (q : Nat) (r : Nat → Int32) (p1 : Int32) (h1 : vp_in p1 24) : Met l yX8_mayBuild (wc yX8_mayBuild cX8_mayBuild 2 (some .boolean)) ({ frames := 2, cells := 0, slots := 0, locals := 42 } : Room) (va_Pc [.ref q, .int p1] (PE D cs (rowW cs q r))) (vp_Si (fun r9 => r9 = b2i (sX8_mayBuild r p1))) 0 0 (fun _ => False) := by
  obtain ⟨v, hv⟩ : ∃ v, sX8_mayBuild r p1 = v := ⟨_, rfl⟩
  rw [hv]
  refine met_o (lv := [(0, .ref q), (1, .int p1)]) (by decide) (Nat.le_of_ble_eq_true rfl) rfl ?_
  intro p e s m args below meth c ls hx hb hr hml hts hown hlocks hin hP hE hl
  have hown : s.vm.findClass RX8 = some m.cls := hown
  have hK := hE.1
  have hP : va_P D vwC (rowW cs q r) s.heap := hP
  unfold sX8_mayBuild at hv
  refine lv_aload_n hx hb dX8_mayBuild_0 rfl (lv_at hl 0 rfl) ?_
  refine lv_iload_n hx hb dX8_mayBuild_1 rfl (lv_at hl 1 rfl) ?_
  refine ro_i (b2i (sX8_isOut r p1)) (run_c (va_runS (As := [.ref q, .int p1]) (rest := []) ⟨hx, hb, hml, hown, hts⟩ (c_X8_isOut l D cs q r p1) (cwS 2 hts (good_S w_ml_X8_70 w_st_X8_isOut w_in_X8 w_co_X8_isOut) rfl rfl rfl ⟨rfl, hd_X8_isOut⟩ ⟨Nat.le_of_ble_eq_true rfl, Nat.le_of_ble_eq_true rfl⟩) (pe_S hP hE) rfl rfl hl.1 rfl (lv_room (Nat.le_of_ble_eq_true rfl)) dX8_mayBuild_2 ⟨Nat.zero_le _, Nat.zero_le _⟩)) ?_
  refine join_i (J := 55) (ls := ls) (rest := []) (b2i (if (sX8_isOut r p1) = true then (if (sX8_isRecalled r p1) = true then false else (if (sX8_many (r (246 + p1).toNatClampNeg)) < (r (6 : Int32).toNatClampNeg) then false else (if (sX8_has (r (8 : Int32).toNatClampNeg) (r (150 + p1).toNatClampNeg)) = true then false else true))) else false)) ?_ (fun hJ => ?_)
  · exact W.zret (ty := .boolean) (v := b2i (if (sX8_isOut r p1) = true then (if (sX8_isRecalled r p1) = true then false else (if (sX8_many (r (246 + p1).toNatClampNeg)) < (r (6 : Int32).toNatClampNeg) then false else (if (sX8_has (r (8 : Int32).toNatClampNeg) (r (150 + p1).toNatClampNeg)) = true then false else true))) else false)) hx hb hr (b2i_nar (if (sX8_isOut r p1) = true then (if (sX8_isRecalled r p1) = true then false else (if (sX8_many (r (246 + p1).toNatClampNeg)) < (r (6 : Int32).toNatClampNeg) then false else (if (sX8_has (r (8 : Int32).toNatClampNeg) (r (150 + p1).toNatClampNeg)) = true then false else true))) else false)) (fun t ht hW => ⟨b2i (if (sX8_isOut r p1) = true then (if (sX8_isRecalled r p1) = true then false else (if (sX8_many (r (246 + p1).toNatClampNeg)) < (r (6 : Int32).toNatClampNeg) then false else (if (sX8_has (r (8 : Int32).toNatClampNeg) (r (150 + p1).toNatClampNeg)) = true then false else true))) else false), rfl, congrArg b2i hv, ht⟩) (fun _ h => nomatch h) dX8_mayBuild_55 (hlocks := hlocks)
  · refine lv_if_eq (tgt := 54) hx hb dX8_mayBuild_5 (by decide) (fun c5 => ?_) (fun c5 => ?_)
    · have c5 := b2i_f c5
      refine lv_iconst (v := 0) hx hb dX8_mayBuild_54 (by decide) ?_
      exact hJ _ (congrArg b2i ((if_neg c5).trans rfl))
    · have c5 := b2i_t c5
      refine lv_aload_n hx hb dX8_mayBuild_8 rfl (lv_at hl 0 rfl) ?_
      refine lv_iload_n hx hb dX8_mayBuild_9 rfl (lv_at hl 1 rfl) ?_
      refine ro_i (b2i (sX8_isRecalled r p1)) (run_c (va_runS (As := [.ref q, .int p1]) (rest := []) ⟨hx, hb, hml, hown, hts⟩ (c_X8_isRecalled l D cs q r p1 h1) (cwS 2 hts (good_S w_ml_X8_74 w_st_X8_isRecalled w_in_X8 w_co_X8_isRecalled) rfl rfl rfl ⟨rfl, hd_X8_isRecalled⟩ ⟨Nat.le_of_ble_eq_true rfl, Nat.le_of_ble_eq_true rfl⟩) (pe_S hP hE) rfl rfl hl.1 rfl (lv_room (Nat.le_of_ble_eq_true rfl)) dX8_mayBuild_10 ⟨Nat.zero_le _, Nat.zero_le _⟩)) ?_
      refine lv_if_ne (tgt := 54) hx hb dX8_mayBuild_13 (by decide) (fun c13 => ?_) (fun c13 => ?_)
      · have c13 := b2i_t c13
        refine lv_iconst (v := 0) hx hb dX8_mayBuild_54 (by decide) ?_
        exact hJ _ (congrArg b2i ((if_pos c5).trans ((if_pos c13).trans rfl)))
      · have c13 := b2i_f c13
        refine lv_aload_n hx hb dX8_mayBuild_16 rfl (lv_at hl 0 rfl) ?_
        refine lv_sipush (v := 246) hx hb dX8_mayBuild_17 (by decide) ?_
        refine lv_iload_n hx hb dX8_mayBuild_20 rfl (lv_at hl 1 rfl) ?_
        refine lv_iadd hx hb dX8_mayBuild_21 ?_
        refine va_iald (cA := cs 0) (n := 414) (f := r) hx hb hK hP 0 0 rfl rfl (vp_off (K := 246) rfl (by assumption) (by decide) (by decide)) dX8_mayBuild_22 ?_
        refine ro_i (sX8_many (r (246 + p1).toNatClampNeg)) (run_c (va_runS (As := [.int (r (246 + p1).toNatClampNeg)]) (rest := []) ⟨hx, hb, hml, hown, hts⟩ (c_X8_many l D cs (r (246 + p1).toNatClampNeg)) (cwS 1 hts (good_S w_ml_X8_77 w_st_X8_many w_in_X8 w_co_X8_many) rfl rfl rfl ⟨rfl, hd_X8_many⟩ ⟨Nat.le_of_ble_eq_true rfl, Nat.le_of_ble_eq_true rfl⟩) (pe_S (p_nil D _) hE) rfl rfl hl.1 rfl (lv_room (Nat.le_of_ble_eq_true rfl)) dX8_mayBuild_23 ⟨Nat.zero_le _, Nat.zero_le _⟩)) ?_
        refine lv_aload_n hx hb dX8_mayBuild_26 rfl (lv_at hl 0 rfl) ?_
        refine lv_bipush (v := 6) hx hb dX8_mayBuild_27 (by decide) ?_
        refine va_iald (cA := cs 0) (n := 414) (f := r) hx hb hK hP 0 0 rfl rfl (by unfold vp_in; decide) dX8_mayBuild_29 ?_
        refine lv_icmp_lt (tgt := 54) hx hb dX8_mayBuild_30 (by decide) (fun c30 => ?_) (fun c30 => ?_)
        · refine lv_iconst (v := 0) hx hb dX8_mayBuild_54 (by decide) ?_
          exact hJ _ (congrArg b2i ((if_pos c5).trans ((if_neg c13).trans ((if_pos c30).trans rfl))))
        · refine lv_aload_n hx hb dX8_mayBuild_33 rfl (lv_at hl 0 rfl) ?_
          refine lv_bipush (v := 8) hx hb dX8_mayBuild_34 (by decide) ?_
          refine va_iald (cA := cs 0) (n := 414) (f := r) hx hb hK hP 0 0 rfl rfl (by unfold vp_in; decide) dX8_mayBuild_36 ?_
          refine lv_aload_n hx hb dX8_mayBuild_37 rfl (lv_at hl 0 rfl) ?_
          refine lv_sipush (v := 150) hx hb dX8_mayBuild_38 (by decide) ?_
          refine lv_iload_n hx hb dX8_mayBuild_41 rfl (lv_at hl 1 rfl) ?_
          refine lv_iadd hx hb dX8_mayBuild_42 ?_
          refine va_iald (cA := cs 0) (n := 414) (f := r) hx hb hK hP 0 0 rfl rfl (vp_off (K := 150) rfl (by assumption) (by decide) (by decide)) dX8_mayBuild_43 ?_
          refine ro_i (b2i (sX8_has (r (8 : Int32).toNatClampNeg) (r (150 + p1).toNatClampNeg))) (run_c (va_runS (As := [.int (r (8 : Int32).toNatClampNeg), .int (r (150 + p1).toNatClampNeg)]) (rest := []) ⟨hx, hb, hml, hown, hts⟩ (c_X8_has l D cs (r (8 : Int32).toNatClampNeg) (r (150 + p1).toNatClampNeg)) (cwS 2 hts (good_S w_ml_X8_66 w_st_X8_has w_in_X8 w_co_X8_has) rfl rfl rfl ⟨rfl, hd_X8_has⟩ ⟨Nat.le_of_ble_eq_true rfl, Nat.le_of_ble_eq_true rfl⟩) (pe_S (p_nil D _) hE) rfl rfl hl.1 rfl (lv_room (Nat.le_of_ble_eq_true rfl)) dX8_mayBuild_44 ⟨Nat.zero_le _, Nat.zero_le _⟩)) ?_
          refine lv_if_ne (tgt := 54) hx hb dX8_mayBuild_47 (by decide) (fun c47 => ?_) (fun c47 => ?_)
          · have c47 := b2i_t c47
            refine lv_iconst (v := 0) hx hb dX8_mayBuild_54 (by decide) ?_
            exact hJ _ (congrArg b2i ((if_pos c5).trans ((if_neg c13).trans ((if_neg c30).trans ((if_pos c47).trans rfl)))))
          · have c47 := b2i_f c47
            refine lv_iconst (v := 1) hx hb dX8_mayBuild_50 (by decide) ?_
            refine lv_goto (tgt := 55) hx hb dX8_mayBuild_51 (by decide) ?_
            exact hJ _ (congrArg b2i ((if_pos c5).trans ((if_neg c13).trans ((if_neg c30).trans ((if_neg c47).trans rfl)))))
theorem hd_X8_isWrong : yX8_isWrong.cls ≠ "java/lang/invoke/MethodHandle" ∧ yX8_isWrong.cls ≠ "java/lang/invoke/VarHandle" ∧ (parseMethodDescriptor yX8_isWrong.desc).map (fun d => d.parameters.length) = some 2 := by decide +kernel
def sX8_isWrong (r : Nat → Int32) (p1 : Int32) : Bool := (if (r ((30 + (12 * (r (324 + p1).toNatClampNeg))) + (r (354 + p1).toNatClampNeg)).toNatClampNeg) ≤ (r (384 + p1).toNatClampNeg) then false else true)
set_option maxHeartbeats 4000000 in
set_option maxRecDepth 100000 in
theorem c_X8_isWrong (l : Launch) (D : va_G) (cs : Nat → ClassId) (q : Nat) (r : Nat → Int32) (p1 : Int32) (hv0 : MV r) (h1 : inW r p1) : Met l yX8_isWrong (wc yX8_isWrong cX8_isWrong 2 (some .boolean)) ({ frames := 0, cells := 0, slots := 0, locals := 0 } : Room) (va_Pc [.ref q, .int p1] (PE D cs (rowW cs q r))) (vp_Si (fun r9 => r9 = b2i (sX8_isWrong r p1))) 0 0 (fun _ => False) := by
  obtain ⟨v, hv⟩ : ∃ v, sX8_isWrong r p1 = v := ⟨_, rfl⟩
  rw [hv]
  refine met_o (lv := [(0, .ref q), (1, .int p1)]) (by decide) (Nat.le_of_ble_eq_true rfl) rfl ?_
  intro p e s m args below meth c ls hx hb hr hml hts hown hlocks hin hP hE hl
  have hown : s.vm.findClass RX8 = some m.cls := hown
  have hK := hE.1
  have hP : va_P D vwC (rowW cs q r) s.heap := hP
  unfold sX8_isWrong at hv
  have f1 := h1.v hv0
  refine lv_aload_n hx hb dX8_isWrong_0 rfl (lv_at hl 0 rfl) ?_
  refine lv_bipush (v := 30) hx hb dX8_isWrong_1 (by decide) ?_
  refine lv_bipush (v := 12) hx hb dX8_isWrong_3 (by decide) ?_
  refine lv_aload_n hx hb dX8_isWrong_5 rfl (lv_at hl 0 rfl) ?_
  refine lv_sipush (v := 324) hx hb dX8_isWrong_6 (by decide) ?_
  refine lv_iload_n hx hb dX8_isWrong_9 rfl (lv_at hl 1 rfl) ?_
  refine lv_iadd hx hb dX8_isWrong_10 ?_
  refine va_iald (cA := cs 0) (n := 414) (f := r) hx hb hK hP 0 0 rfl rfl (vp_off (K := 324) rfl (by assumption) (by decide) (by decide)) dX8_isWrong_11 ?_
  refine lv_imul hx hb dX8_isWrong_12 ?_
  refine lv_iadd hx hb dX8_isWrong_13 ?_
  refine lv_aload_n hx hb dX8_isWrong_14 rfl (lv_at hl 0 rfl) ?_
  refine lv_sipush (v := 354) hx hb dX8_isWrong_15 (by decide) ?_
  refine lv_iload_n hx hb dX8_isWrong_18 rfl (lv_at hl 1 rfl) ?_
  refine lv_iadd hx hb dX8_isWrong_19 ?_
  refine va_iald (cA := cs 0) (n := 414) (f := r) hx hb hK hP 0 0 rfl rfl (vp_off (K := 354) rfl (by assumption) (by decide) (by decide)) dX8_isWrong_20 ?_
  refine lv_iadd hx hb dX8_isWrong_21 ?_
  refine va_iald (cA := cs 0) (n := 414) (f := r) hx hb hK hP 0 0 rfl rfl (dr2 ((hv0.ws h1).v hv0) (hv0.wf h1)) dX8_isWrong_22 ?_
  refine lv_aload_n hx hb dX8_isWrong_23 rfl (lv_at hl 0 rfl) ?_
  refine lv_sipush (v := 384) hx hb dX8_isWrong_24 (by decide) ?_
  refine lv_iload_n hx hb dX8_isWrong_27 rfl (lv_at hl 1 rfl) ?_
  refine lv_iadd hx hb dX8_isWrong_28 ?_
  refine va_iald (cA := cs 0) (n := 414) (f := r) hx hb hK hP 0 0 rfl rfl (vp_off (K := 384) rfl (by assumption) (by decide) (by decide)) dX8_isWrong_29 ?_
  refine join_i (J := 38) (ls := ls) (rest := []) (b2i (if (r ((30 + (12 * (r (324 + p1).toNatClampNeg))) + (r (354 + p1).toNatClampNeg)).toNatClampNeg) ≤ (r (384 + p1).toNatClampNeg) then false else true)) ?_ (fun hJ => ?_)
  · exact W.zret (ty := .boolean) (v := b2i (if (r ((30 + (12 * (r (324 + p1).toNatClampNeg))) + (r (354 + p1).toNatClampNeg)).toNatClampNeg) ≤ (r (384 + p1).toNatClampNeg) then false else true)) hx hb hr (b2i_nar (if (r ((30 + (12 * (r (324 + p1).toNatClampNeg))) + (r (354 + p1).toNatClampNeg)).toNatClampNeg) ≤ (r (384 + p1).toNatClampNeg) then false else true)) (fun t ht hW => ⟨b2i (if (r ((30 + (12 * (r (324 + p1).toNatClampNeg))) + (r (354 + p1).toNatClampNeg)).toNatClampNeg) ≤ (r (384 + p1).toNatClampNeg) then false else true), rfl, congrArg b2i hv, ht⟩) (fun _ h => nomatch h) dX8_isWrong_38 (hlocks := hlocks)
  · refine lv_icmp_le (tgt := 37) hx hb dX8_isWrong_30 (by decide) (fun c30 => ?_) (fun c30 => ?_)
    · refine lv_iconst (v := 0) hx hb dX8_isWrong_37 (by decide) ?_
      exact hJ _ (congrArg b2i ((if_pos c30).trans rfl))
    · refine lv_iconst (v := 1) hx hb dX8_isWrong_33 (by decide) ?_
      refine lv_goto (tgt := 38) hx hb dX8_isWrong_34 (by decide) ?_
      exact hJ _ (congrArg b2i ((if_neg c30).trans rfl))
theorem hd_X8_wrong : yX8_wrong.cls ≠ "java/lang/invoke/MethodHandle" ∧ yX8_wrong.cls ≠ "java/lang/invoke/VarHandle" ∧ (parseMethodDescriptor yX8_wrong.desc).map (fun d => d.parameters.length) = some 1 := by decide +kernel
def LX8_wrong_4 (r : Nat → Int32) : Nat → Int32 → Int32 → Int32
  | 0 => fun _ _ => 0
  | n + 1 => fun x1 x2 => (if (r (2 : Int32).toNatClampNeg) ≤ x2 then x1 else (LX8_wrong_4 r n (x1 + (b2i (if (sX8_isWrong r x2) = true then true else false))) (x2 + 1)))
theorem LX8_wrong_4_eq (r : Nat → Int32) (n : Nat) (x1 : Int32) (x2 : Int32) : LX8_wrong_4 r (n + 1) x1 x2 = (if (r (2 : Int32).toNatClampNeg) ≤ x2 then x1 else (LX8_wrong_4 r n (x1 + (b2i (if (sX8_isWrong r x2) = true then true else false))) (x2 + 1))) := rfl
def sX8_wrong (r : Nat → Int32) : Int32 := (LX8_wrong_4 r (upM (r (2 : Int32).toNatClampNeg) 0 + 1) 0 0)
set_option maxHeartbeats 4000000 in
set_option maxRecDepth 100000 in
theorem c_X8_wrong (l : Launch) (D : va_G) (cs : Nat → ClassId) (q : Nat) (r : Nat → Int32) (hv0 : MV r) : Met l yX8_wrong (wc yX8_wrong cX8_wrong 3 (some .int)) ({ frames := 1, cells := 0, slots := 0, locals := 21 } : Room) (va_Pc [.ref q] (PE D cs (rowW cs q r))) (vp_Si (fun r9 => r9 = (sX8_wrong r))) 0 0 (fun _ => False) := by
  obtain ⟨v, hv⟩ : ∃ v, sX8_wrong r = v := ⟨_, rfl⟩
  rw [hv]
  refine met_o (lv := [(0, .ref q)]) (by decide) (Nat.le_of_ble_eq_true rfl) rfl ?_
  intro p e s m args below meth c ls hx hb hr hml hts hown hlocks hin hP hE hl
  have hown : s.vm.findClass RX8 = some m.cls := hown
  have hK := hE.1
  have hP : va_P D vwC (rowW cs q r) s.heap := hP
  unfold sX8_wrong at hv
  refine lv_iconst (v := 0) hx hb dX8_wrong_0 (by decide) ?_
  refine lv_istore_n (lv' := [(1, .int 0), (0, .ref q)]) hx hb dX8_wrong_1 rfl hl (by decide) rfl (fun ls hl => ?_)
  refine lv_iconst (v := 0) hx hb dX8_wrong_2 (by decide) ?_
  refine lv_istore_n (lv' := [(2, .int 0), (1, .int 0), (0, .ref q)]) hx hb dX8_wrong_3 rfl hl (by decide) rfl (fun ls hl => ?_)
  have LOOP : ∀ (n : Nat) (x1 : Int32) (x2 : Int32), upM (r (2 : Int32).toNatClampNeg) x2 < n → (¬ x2 < 0) → LX8_wrong_4 r n x1 x2 = v → ∀ ls : Array Slot, lv_has ls 3 [(0, .ref q), (1, .int x1), (2, .int x2)] → W p l e ({ frames := 1, cells := 0, slots := 0, locals := 21 } : Room) s m args below meth c s.heap [] 0 0 (MQ below (vp_Si (fun r9 => r9 = v)) args s 0 0 (fun _ => False)) (F0 m 4 ls []) := by
    clear hv
    intro n
    induction n with
    | zero => intro x1 x2 hm; exact absurd hm (Nat.not_lt_zero _)
    | succ n ih =>
      intro x1 x2 hm i0 hv ls hl
      have hv := (LX8_wrong_4_eq r n x1 x2).symm.trans hv
      refine lv_iload_n hx hb dX8_wrong_4 rfl (lv_at hl 2 rfl) ?_
      refine lv_aload_n hx hb dX8_wrong_5 rfl (lv_at hl 0 rfl) ?_
      refine lv_iconst (v := 2) hx hb dX8_wrong_6 (by decide) ?_
      refine va_iald (cA := cs 0) (n := 414) (f := r) hx hb hK hP 0 0 rfl rfl (by unfold vp_in; decide) dX8_wrong_7 ?_
      refine lv_icmp_ge (tgt := 33) hx hb dX8_wrong_8 (by decide) (fun c8 => ?_) (fun c8 => ?_)
      · have hv := (if_pos c8).symm.trans hv
        refine lv_iload_n hx hb dX8_wrong_33 rfl (lv_at hl 1 rfl) ?_
        exact W.iret (v := x1) hx hb hr (fun t ht hW => ⟨x1, rfl, hv, ht⟩) (fun _ h => nomatch h) dX8_wrong_34 (hlocks := hlocks)
      · have hv := (if_neg c8).symm.trans hv
        refine lv_iload_n hx hb dX8_wrong_11 rfl (lv_at hl 1 rfl) ?_
        refine lv_aload_n hx hb dX8_wrong_12 rfl (lv_at hl 0 rfl) ?_
        refine lv_iload_n hx hb dX8_wrong_13 rfl (lv_at hl 2 rfl) ?_
        refine ro_i (b2i (sX8_isWrong r x2)) (run_c (va_runS (As := [.ref q, .int x2]) (rest := [.int x1]) ⟨hx, hb, hml, hown, hts⟩ (c_X8_isWrong l D cs q r x2 hv0 (inX.of i0 c8)) (cwS 2 hts (good_S w_ml_X8_81 w_st_X8_isWrong w_in_X8 w_co_X8_isWrong) rfl rfl rfl ⟨rfl, hd_X8_isWrong⟩ ⟨Nat.le_of_ble_eq_true rfl, Nat.le_of_ble_eq_true rfl⟩) (pe_S hP hE) rfl rfl hl.1 rfl (lv_room (Nat.le_of_ble_eq_true rfl)) dX8_wrong_14 ⟨Nat.zero_le _, Nat.zero_le _⟩)) ?_
        refine join_i (J := 25) (ls := ls) (rest := [.int x1]) (b2i (if (sX8_isWrong r x2) = true then true else false)) ?_ (fun hJ => ?_)
        · refine lv_iadd hx hb dX8_wrong_25 ?_
          refine lv_istore_n (lv' := [(1, .int (x1 + (b2i (if (sX8_isWrong r x2) = true then true else false)))), (0, .ref q), (2, .int x2)]) hx hb dX8_wrong_26 rfl hl (by decide) rfl (fun ls hl => ?_)
          refine lv_iinc (v := x2 + 1) (lv' := [(2, .int (x2 + 1)), (1, .int (x1 + (b2i (if (sX8_isWrong r x2) = true then true else false)))), (0, .ref q)]) hx hb dX8_wrong_27 hl (k := 2) rfl rfl (by decide) rfl (fun ls hl => ?_)
          refine lv_goto (tgt := 4) hx hb dX8_wrong_30 (by decide) ?_
          exact ih (x1 + (b2i (if (sX8_isWrong r x2) = true then true else false))) (x2 + 1) (upM_s c8 hm) (nn_inc i0 c8) hv ls (lv_sub hl [2, 1, 0] rfl)
        · refine lv_if_eq (tgt := 24) hx hb dX8_wrong_17 (by decide) (fun c17 => ?_) (fun c17 => ?_)
          · have c17 := b2i_f c17
            refine lv_iconst (v := 0) hx hb dX8_wrong_24 (by decide) ?_
            exact hJ _ (congrArg b2i ((if_neg c17).trans rfl))
          · have c17 := b2i_t c17
            refine lv_iconst (v := 1) hx hb dX8_wrong_20 (by decide) ?_
            refine lv_goto (tgt := 25) hx hb dX8_wrong_21 (by decide) ?_
            exact hJ _ (congrArg b2i ((if_pos c17).trans rfl))
  exact LOOP _ 0 0 (Nat.lt_succ_self _) (by decide) hv ls (lv_sub hl [2, 1, 0] rfl)
theorem hd_X8_overdue : yX8_overdue.cls ≠ "java/lang/invoke/MethodHandle" ∧ yX8_overdue.cls ≠ "java/lang/invoke/VarHandle" ∧ (parseMethodDescriptor yX8_overdue.desc).map (fun d => d.parameters.length) = some 2 := by decide +kernel
def LX8_overdue_4 (r : Nat → Int32) (p1 : Int32) : Nat → Int32 → Int32 → Int32
  | 0 => fun _ _ => 0
  | n + 1 => fun x2 x3 => (if (r (1 : Int32).toNatClampNeg) ≤ x3 then x2 else (LX8_overdue_4 r p1 n (x2 + (b2i (if (sX8_isOverdue r x3 p1) = true then true else false))) (x3 + 1)))
theorem LX8_overdue_4_eq (r : Nat → Int32) (p1 : Int32) (n : Nat) (x2 : Int32) (x3 : Int32) : LX8_overdue_4 r p1 (n + 1) x2 x3 = (if (r (1 : Int32).toNatClampNeg) ≤ x3 then x2 else (LX8_overdue_4 r p1 n (x2 + (b2i (if (sX8_isOverdue r x3 p1) = true then true else false))) (x3 + 1))) := rfl
def sX8_overdue (r : Nat → Int32) (p1 : Int32) : Int32 := (LX8_overdue_4 r p1 (upM (r (1 : Int32).toNatClampNeg) 0 + 1) 0 0)
set_option maxHeartbeats 4000000 in
set_option maxRecDepth 100000 in
theorem c_X8_overdue (l : Launch) (D : va_G) (cs : Nat → ClassId) (q : Nat) (r : Nat → Int32) (p1 : Int32) (hv0 : (r 1).toInt ≤ 24) : Met l yX8_overdue (wc yX8_overdue cX8_overdue 4 (some .int)) ({ frames := 3, cells := 0, slots := 0, locals := 64 } : Room) (va_Pc [.ref q, .int p1] (PE D cs (rowW cs q r))) (vp_Si (fun r9 => r9 = (sX8_overdue r p1))) 0 0 (fun _ => False) := by
  obtain ⟨v, hv⟩ : ∃ v, sX8_overdue r p1 = v := ⟨_, rfl⟩
  rw [hv]
  refine met_o (lv := [(0, .ref q), (1, .int p1)]) (by decide) (Nat.le_of_ble_eq_true rfl) rfl ?_
  intro p e s m args below meth c ls hx hb hr hml hts hown hlocks hin hP hE hl
  have hown : s.vm.findClass RX8 = some m.cls := hown
  have hK := hE.1
  have hP : va_P D vwC (rowW cs q r) s.heap := hP
  unfold sX8_overdue at hv
  refine lv_iconst (v := 0) hx hb dX8_overdue_0 (by decide) ?_
  refine lv_istore_n (lv' := [(2, .int 0), (0, .ref q), (1, .int p1)]) hx hb dX8_overdue_1 rfl hl (by decide) rfl (fun ls hl => ?_)
  refine lv_iconst (v := 0) hx hb dX8_overdue_2 (by decide) ?_
  refine lv_istore_n (lv' := [(3, .int 0), (2, .int 0), (0, .ref q), (1, .int p1)]) hx hb dX8_overdue_3 rfl hl (by decide) rfl (fun ls hl => ?_)
  have LOOP : ∀ (n : Nat) (x2 : Int32) (x3 : Int32), upM (r (1 : Int32).toNatClampNeg) x3 < n → (¬ x3 < 0) → LX8_overdue_4 r p1 n x2 x3 = v → ∀ ls : Array Slot, lv_has ls 4 [(0, .ref q), (1, .int p1), (2, .int x2), (3, .int x3)] → W p l e ({ frames := 3, cells := 0, slots := 0, locals := 64 } : Room) s m args below meth c s.heap [] 0 0 (MQ below (vp_Si (fun r9 => r9 = v)) args s 0 0 (fun _ => False)) (F0 m 4 ls []) := by
    clear hv
    intro n
    induction n with
    | zero => intro x2 x3 hm; exact absurd hm (Nat.not_lt_zero _)
    | succ n ih =>
      intro x2 x3 hm i0 hv ls hl
      have hv := (LX8_overdue_4_eq r p1 n x2 x3).symm.trans hv
      refine lv_iload_n hx hb dX8_overdue_4 rfl (lv_at hl 3 rfl) ?_
      refine lv_aload_n hx hb dX8_overdue_5 rfl (lv_at hl 0 rfl) ?_
      refine lv_iconst (v := 1) hx hb dX8_overdue_6 (by decide) ?_
      refine va_iald (cA := cs 0) (n := 414) (f := r) hx hb hK hP 0 0 rfl rfl (by unfold vp_in; decide) dX8_overdue_7 ?_
      refine lv_icmp_ge (tgt := 34) hx hb dX8_overdue_8 (by decide) (fun c8 => ?_) (fun c8 => ?_)
      · have hv := (if_pos c8).symm.trans hv
        refine lv_iload_n hx hb dX8_overdue_34 rfl (lv_at hl 2 rfl) ?_
        exact W.iret (v := x2) hx hb hr (fun t ht hW => ⟨x2, rfl, hv, ht⟩) (fun _ h => nomatch h) dX8_overdue_35 (hlocks := hlocks)
      · have hv := (if_neg c8).symm.trans hv
        refine lv_iload_n hx hb dX8_overdue_11 rfl (lv_at hl 2 rfl) ?_
        refine lv_aload_n hx hb dX8_overdue_12 rfl (lv_at hl 0 rfl) ?_
        refine lv_iload_n hx hb dX8_overdue_13 rfl (lv_at hl 3 rfl) ?_
        refine lv_iload_n hx hb dX8_overdue_14 rfl (lv_at hl 1 rfl) ?_
        refine ro_i (b2i (sX8_isOverdue r x3 p1)) (run_c (va_runS (As := [.ref q, .int x3, .int p1]) (rest := [.int x2]) ⟨hx, hb, hml, hown, hts⟩ (c_X8_isOverdue l D cs q r x3 p1 (cnt_in hv0 i0 c8)) (cwS 3 hts (good_S w_ml_X8_84 w_st_X8_isOverdue w_in_X8 w_co_X8_isOverdue) rfl rfl rfl ⟨rfl, hd_X8_isOverdue⟩ ⟨Nat.le_of_ble_eq_true rfl, Nat.le_of_ble_eq_true rfl⟩) (pe_S hP hE) rfl rfl hl.1 rfl (lv_room (Nat.le_of_ble_eq_true rfl)) dX8_overdue_15 ⟨Nat.zero_le _, Nat.zero_le _⟩)) ?_
        refine join_i (J := 26) (ls := ls) (rest := [.int x2]) (b2i (if (sX8_isOverdue r x3 p1) = true then true else false)) ?_ (fun hJ => ?_)
        · refine lv_iadd hx hb dX8_overdue_26 ?_
          refine lv_istore_n (lv' := [(2, .int (x2 + (b2i (if (sX8_isOverdue r x3 p1) = true then true else false)))), (0, .ref q), (1, .int p1), (3, .int x3)]) hx hb dX8_overdue_27 rfl hl (by decide) rfl (fun ls hl => ?_)
          refine lv_iinc (v := x3 + 1) (lv' := [(3, .int (x3 + 1)), (2, .int (x2 + (b2i (if (sX8_isOverdue r x3 p1) = true then true else false)))), (0, .ref q), (1, .int p1)]) hx hb dX8_overdue_28 hl (k := 3) rfl rfl (by decide) rfl (fun ls hl => ?_)
          refine lv_goto (tgt := 4) hx hb dX8_overdue_31 (by decide) ?_
          exact ih (x2 + (b2i (if (sX8_isOverdue r x3 p1) = true then true else false))) (x3 + 1) (upM_s c8 hm) (nn_inc i0 c8) hv ls (lv_sub hl [2, 3, 1, 0] rfl)
        · refine lv_if_eq (tgt := 25) hx hb dX8_overdue_18 (by decide) (fun c18 => ?_) (fun c18 => ?_)
          · have c18 := b2i_f c18
            refine lv_iconst (v := 0) hx hb dX8_overdue_25 (by decide) ?_
            exact hJ _ (congrArg b2i ((if_neg c18).trans rfl))
          · have c18 := b2i_t c18
            refine lv_iconst (v := 1) hx hb dX8_overdue_21 (by decide) ?_
            refine lv_goto (tgt := 26) hx hb dX8_overdue_22 (by decide) ?_
            exact hJ _ (congrArg b2i ((if_pos c18).trans rfl))
  exact LOOP _ 0 0 (Nat.lt_succ_self _) (by decide) hv ls (lv_sub hl [2, 3, 1, 0] rfl)
theorem hd_X8_fieldsOf : yX8_fieldsOf.cls ≠ "java/lang/invoke/MethodHandle" ∧ yX8_fieldsOf.cls ≠ "java/lang/invoke/VarHandle" ∧ (parseMethodDescriptor yX8_fieldsOf.desc).map (fun d => d.parameters.length) = some 2 := by decide +kernel
def LX8_fieldsOf_4 (r : Nat → Int32) (p1 : Int32) : Nat → Int32 → Int32 → Int32
  | 0 => fun _ _ => 0
  | n + 1 => fun x2 x3 => (if 12 ≤ x3 then x2 else (LX8_fieldsOf_4 r p1 n (x2 ||| (if (r (174 + p1).toNatClampNeg) < (r ((30 + (12 * (r (150 + p1).toNatClampNeg))) + x3).toNatClampNeg) then (0 : Int32) else 1 <<< (x3 &&& 31))) (x3 + 1)))
theorem LX8_fieldsOf_4_eq (r : Nat → Int32) (p1 : Int32) (n : Nat) (x2 : Int32) (x3 : Int32) : LX8_fieldsOf_4 r p1 (n + 1) x2 x3 = (if 12 ≤ x3 then x2 else (LX8_fieldsOf_4 r p1 n (x2 ||| (if (r (174 + p1).toNatClampNeg) < (r ((30 + (12 * (r (150 + p1).toNatClampNeg))) + x3).toNatClampNeg) then (0 : Int32) else 1 <<< (x3 &&& 31))) (x3 + 1))) := rfl
def sX8_fieldsOf (r : Nat → Int32) (p1 : Int32) : Int32 := (LX8_fieldsOf_4 r p1 (upM 12 0 + 1) 0 0)
set_option maxHeartbeats 4000000 in
set_option maxRecDepth 100000 in
theorem c_X8_fieldsOf (l : Launch) (D : va_G) (cs : Nat → ClassId) (q : Nat) (r : Nat → Int32) (p1 : Int32) (hv0 : MV r) (h1 : inP r p1) : Met l yX8_fieldsOf (wc yX8_fieldsOf cX8_fieldsOf 4 (some .int)) ({ frames := 0, cells := 0, slots := 0, locals := 0 } : Room) (va_Pc [.ref q, .int p1] (PE D cs (rowW cs q r))) (vp_Si (fun r9 => r9 = (sX8_fieldsOf r p1))) 0 0 (fun _ => False) := by
  obtain ⟨v, hv⟩ : ∃ v, sX8_fieldsOf r p1 = v := ⟨_, rfl⟩
  rw [hv]
  refine met_o (lv := [(0, .ref q), (1, .int p1)]) (by decide) (Nat.le_of_ble_eq_true rfl) rfl ?_
  intro p e s m args below meth c ls hx hb hr hml hts hown hlocks hin hP hE hl
  have hown : s.vm.findClass RX8 = some m.cls := hown
  have hK := hE.1
  have hP : va_P D vwC (rowW cs q r) s.heap := hP
  unfold sX8_fieldsOf at hv
  refine lv_iconst (v := 0) hx hb dX8_fieldsOf_0 (by decide) ?_
  refine lv_istore_n (lv' := [(2, .int 0), (0, .ref q), (1, .int p1)]) hx hb dX8_fieldsOf_1 rfl hl (by decide) rfl (fun ls hl => ?_)
  refine lv_iconst (v := 0) hx hb dX8_fieldsOf_2 (by decide) ?_
  refine lv_istore_n (lv' := [(3, .int 0), (2, .int 0), (0, .ref q), (1, .int p1)]) hx hb dX8_fieldsOf_3 rfl hl (by decide) rfl (fun ls hl => ?_)
  have LOOP : ∀ (n : Nat) (x2 : Int32) (x3 : Int32), upM 12 x3 < n → (¬ x3 < 0) → LX8_fieldsOf_4 r p1 n x2 x3 = v → ∀ ls : Array Slot, lv_has ls 4 [(0, .ref q), (1, .int p1), (2, .int x2), (3, .int x3)] → W p l e ({ frames := 0, cells := 0, slots := 0, locals := 0 } : Room) s m args below meth c s.heap [] 0 0 (MQ below (vp_Si (fun r9 => r9 = v)) args s 0 0 (fun _ => False)) (F0 m 4 ls []) := by
    clear hv
    intro n
    induction n with
    | zero => intro x2 x3 hm; exact absurd hm (Nat.not_lt_zero _)
    | succ n ih =>
      intro x2 x3 hm i0 hv ls hl
      have hv := (LX8_fieldsOf_4_eq r p1 n x2 x3).symm.trans hv
      refine lv_iload_n hx hb dX8_fieldsOf_4 rfl (lv_at hl 3 rfl) ?_
      refine lv_bipush (v := 12) hx hb dX8_fieldsOf_5 (by decide) ?_
      refine lv_icmp_ge (tgt := 53) hx hb dX8_fieldsOf_7 (by decide) (fun c7 => ?_) (fun c7 => ?_)
      · have hv := (if_pos c7).symm.trans hv
        refine lv_iload_n hx hb dX8_fieldsOf_53 rfl (lv_at hl 2 rfl) ?_
        exact W.iret (v := x2) hx hb hr (fun t ht hW => ⟨x2, rfl, hv, ht⟩) (fun _ h => nomatch h) dX8_fieldsOf_54 (hlocks := hlocks)
      · have hv := (if_neg c7).symm.trans hv
        have f1 := h1.v hv0
        refine lv_iload_n hx hb dX8_fieldsOf_10 rfl (lv_at hl 2 rfl) ?_
        refine lv_aload_n hx hb dX8_fieldsOf_11 rfl (lv_at hl 0 rfl) ?_
        refine lv_bipush (v := 30) hx hb dX8_fieldsOf_12 (by decide) ?_
        refine lv_bipush (v := 12) hx hb dX8_fieldsOf_14 (by decide) ?_
        refine lv_aload_n hx hb dX8_fieldsOf_16 rfl (lv_at hl 0 rfl) ?_
        refine lv_sipush (v := 150) hx hb dX8_fieldsOf_17 (by decide) ?_
        refine lv_iload_n hx hb dX8_fieldsOf_20 rfl (lv_at hl 1 rfl) ?_
        refine lv_iadd hx hb dX8_fieldsOf_21 ?_
        refine va_iald (cA := cs 0) (n := 414) (f := r) hx hb hK hP 0 0 rfl rfl (vp_off (K := 150) rfl (by assumption) (by decide) (by decide)) dX8_fieldsOf_22 ?_
        refine lv_imul hx hb dX8_fieldsOf_23 ?_
        refine lv_iadd hx hb dX8_fieldsOf_24 ?_
        refine lv_iload_n hx hb dX8_fieldsOf_25 rfl (lv_at hl 3 rfl) ?_
        refine lv_iadd hx hb dX8_fieldsOf_26 ?_
        refine va_iald (cA := cs 0) (n := 414) (f := r) hx hb hK hP 0 0 rfl rfl (dr2 ((hv0.ps h1).v hv0) (vp_a rfl i0 c7)) dX8_fieldsOf_27 ?_
        refine lv_aload_n hx hb dX8_fieldsOf_28 rfl (lv_at hl 0 rfl) ?_
        refine lv_sipush (v := 174) hx hb dX8_fieldsOf_29 (by decide) ?_
        refine lv_iload_n hx hb dX8_fieldsOf_32 rfl (lv_at hl 1 rfl) ?_
        refine lv_iadd hx hb dX8_fieldsOf_33 ?_
        refine va_iald (cA := cs 0) (n := 414) (f := r) hx hb hK hP 0 0 rfl rfl (vp_off (K := 174) rfl (by assumption) (by decide) (by decide)) dX8_fieldsOf_34 ?_
        refine join_i (J := 45) (ls := ls) (rest := [.int x2]) ((if (r (174 + p1).toNatClampNeg) < (r ((30 + (12 * (r (150 + p1).toNatClampNeg))) + x3).toNatClampNeg) then (0 : Int32) else 1 <<< (x3 &&& 31))) ?_ (fun hJ => ?_)
        · refine lv_ior hx hb dX8_fieldsOf_45 ?_
          refine lv_istore_n (lv' := [(2, .int (x2 ||| (if (r (174 + p1).toNatClampNeg) < (r ((30 + (12 * (r (150 + p1).toNatClampNeg))) + x3).toNatClampNeg) then (0 : Int32) else 1 <<< (x3 &&& 31)))), (0, .ref q), (1, .int p1), (3, .int x3)]) hx hb dX8_fieldsOf_46 rfl hl (by decide) rfl (fun ls hl => ?_)
          refine lv_iinc (v := x3 + 1) (lv' := [(3, .int (x3 + 1)), (2, .int (x2 ||| (if (r (174 + p1).toNatClampNeg) < (r ((30 + (12 * (r (150 + p1).toNatClampNeg))) + x3).toNatClampNeg) then (0 : Int32) else 1 <<< (x3 &&& 31)))), (0, .ref q), (1, .int p1)]) hx hb dX8_fieldsOf_47 hl (k := 3) rfl rfl (by decide) rfl (fun ls hl => ?_)
          refine lv_goto (tgt := 4) hx hb dX8_fieldsOf_50 (by decide) ?_
          exact ih (x2 ||| (if (r (174 + p1).toNatClampNeg) < (r ((30 + (12 * (r (150 + p1).toNatClampNeg))) + x3).toNatClampNeg) then (0 : Int32) else 1 <<< (x3 &&& 31))) (x3 + 1) (upM_s c7 hm) (nn_inc i0 c7) hv ls (lv_sub hl [2, 3, 1, 0] rfl)
        · refine lv_icmp_gt (tgt := 44) hx hb dX8_fieldsOf_35 (by decide) (fun c35 => ?_) (fun c35 => ?_)
          · refine lv_iconst (v := 0) hx hb dX8_fieldsOf_44 (by decide) ?_
            exact hJ _ ((if_pos c35).trans rfl)
          · refine lv_iconst (v := 1) hx hb dX8_fieldsOf_38 (by decide) ?_
            refine lv_iload_n hx hb dX8_fieldsOf_39 rfl (lv_at hl 3 rfl) ?_
            refine lv_ishl hx hb dX8_fieldsOf_40 ?_
            refine lv_goto (tgt := 45) hx hb dX8_fieldsOf_41 (by decide) ?_
            exact hJ _ ((if_neg c35).trans rfl)
  exact LOOP _ 0 0 (Nat.lt_succ_self _) (by decide) hv ls (lv_sub hl [2, 3, 1, 0] rfl)
theorem hd_X8_canDraw : yX8_canDraw.cls ≠ "java/lang/invoke/MethodHandle" ∧ yX8_canDraw.cls ≠ "java/lang/invoke/VarHandle" ∧ (parseMethodDescriptor yX8_canDraw.desc).map (fun d => d.parameters.length) = some 1 := by decide +kernel
def sX8_canDraw (r : Nat → Int32) : Bool := (if 10 ≤ (r (0 : Int32).toNatClampNeg) then false else true)
set_option maxHeartbeats 4000000 in
set_option maxRecDepth 100000 in
theorem c_X8_canDraw (l : Launch) (D : va_G) (cs : Nat → ClassId) (q : Nat) (r : Nat → Int32) : Met l yX8_canDraw (wc yX8_canDraw cX8_canDraw 1 (some .boolean)) ({ frames := 0, cells := 0, slots := 0, locals := 0 } : Room) (va_Pc [.ref q] (PE D cs (rowW cs q r))) (vp_Si (fun r9 => r9 = b2i (sX8_canDraw r))) 0 0 (fun _ => False) := by
  obtain ⟨v, hv⟩ : ∃ v, sX8_canDraw r = v := ⟨_, rfl⟩
  rw [hv]
  refine met_o (lv := [(0, .ref q)]) (by decide) (Nat.le_of_ble_eq_true rfl) rfl ?_
  intro p e s m args below meth c ls hx hb hr hml hts hown hlocks hin hP hE hl
  have hown : s.vm.findClass RX8 = some m.cls := hown
  have hK := hE.1
  have hP : va_P D vwC (rowW cs q r) s.heap := hP
  unfold sX8_canDraw at hv
  refine lv_aload_n hx hb dX8_canDraw_0 rfl (lv_at hl 0 rfl) ?_
  refine lv_iconst (v := 0) hx hb dX8_canDraw_1 (by decide) ?_
  refine va_iald (cA := cs 0) (n := 414) (f := r) hx hb hK hP 0 0 rfl rfl (by unfold vp_in; decide) dX8_canDraw_2 ?_
  refine lv_bipush (v := 10) hx hb dX8_canDraw_3 (by decide) ?_
  refine join_i (J := 13) (ls := ls) (rest := []) (b2i (if 10 ≤ (r (0 : Int32).toNatClampNeg) then false else true)) ?_ (fun hJ => ?_)
  · exact W.zret (ty := .boolean) (v := b2i (if 10 ≤ (r (0 : Int32).toNatClampNeg) then false else true)) hx hb hr (b2i_nar (if 10 ≤ (r (0 : Int32).toNatClampNeg) then false else true)) (fun t ht hW => ⟨b2i (if 10 ≤ (r (0 : Int32).toNatClampNeg) then false else true), rfl, congrArg b2i hv, ht⟩) (fun _ h => nomatch h) dX8_canDraw_13 (hlocks := hlocks)
  · refine lv_icmp_ge (tgt := 12) hx hb dX8_canDraw_5 (by decide) (fun c5 => ?_) (fun c5 => ?_)
    · refine lv_iconst (v := 0) hx hb dX8_canDraw_12 (by decide) ?_
      exact hJ _ (congrArg b2i ((if_pos c5).trans rfl))
    · refine lv_iconst (v := 1) hx hb dX8_canDraw_8 (by decide) ?_
      refine lv_goto (tgt := 13) hx hb dX8_canDraw_9 (by decide) ?_
      exact hJ _ (congrArg b2i ((if_neg c5).trans rfl))
theorem hd_X8_canRevise : yX8_canRevise.cls ≠ "java/lang/invoke/MethodHandle" ∧ yX8_canRevise.cls ≠ "java/lang/invoke/VarHandle" ∧ (parseMethodDescriptor yX8_canRevise.desc).map (fun d => d.parameters.length) = some 2 := by decide +kernel
def sX8_canRevise (r : Nat → Int32) (p1 : Int32) : Bool := (if 99 ≤ (r (20 + p1).toNatClampNeg) then false else true)
set_option maxHeartbeats 4000000 in
set_option maxRecDepth 100000 in
theorem c_X8_canRevise (l : Launch) (D : va_G) (cs : Nat → ClassId) (q : Nat) (r : Nat → Int32) (p1 : Int32) (h1 : vp_in p1 10) : Met l yX8_canRevise (wc yX8_canRevise cX8_canRevise 2 (some .boolean)) ({ frames := 0, cells := 0, slots := 0, locals := 0 } : Room) (va_Pc [.ref q, .int p1] (PE D cs (rowW cs q r))) (vp_Si (fun r9 => r9 = b2i (sX8_canRevise r p1))) 0 0 (fun _ => False) := by
  obtain ⟨v, hv⟩ : ∃ v, sX8_canRevise r p1 = v := ⟨_, rfl⟩
  rw [hv]
  refine met_o (lv := [(0, .ref q), (1, .int p1)]) (by decide) (Nat.le_of_ble_eq_true rfl) rfl ?_
  intro p e s m args below meth c ls hx hb hr hml hts hown hlocks hin hP hE hl
  have hown : s.vm.findClass RX8 = some m.cls := hown
  have hK := hE.1
  have hP : va_P D vwC (rowW cs q r) s.heap := hP
  unfold sX8_canRevise at hv
  refine lv_aload_n hx hb dX8_canRevise_0 rfl (lv_at hl 0 rfl) ?_
  refine lv_bipush (v := 20) hx hb dX8_canRevise_1 (by decide) ?_
  refine lv_iload_n hx hb dX8_canRevise_3 rfl (lv_at hl 1 rfl) ?_
  refine lv_iadd hx hb dX8_canRevise_4 ?_
  refine va_iald (cA := cs 0) (n := 414) (f := r) hx hb hK hP 0 0 rfl rfl (vp_off (K := 20) rfl (by assumption) (by decide) (by decide)) dX8_canRevise_5 ?_
  refine lv_bipush (v := 99) hx hb dX8_canRevise_6 (by decide) ?_
  refine join_i (J := 16) (ls := ls) (rest := []) (b2i (if 99 ≤ (r (20 + p1).toNatClampNeg) then false else true)) ?_ (fun hJ => ?_)
  · exact W.zret (ty := .boolean) (v := b2i (if 99 ≤ (r (20 + p1).toNatClampNeg) then false else true)) hx hb hr (b2i_nar (if 99 ≤ (r (20 + p1).toNatClampNeg) then false else true)) (fun t ht hW => ⟨b2i (if 99 ≤ (r (20 + p1).toNatClampNeg) then false else true), rfl, congrArg b2i hv, ht⟩) (fun _ h => nomatch h) dX8_canRevise_16 (hlocks := hlocks)
  · refine lv_icmp_ge (tgt := 15) hx hb dX8_canRevise_8 (by decide) (fun c8 => ?_) (fun c8 => ?_)
    · refine lv_iconst (v := 0) hx hb dX8_canRevise_15 (by decide) ?_
      exact hJ _ (congrArg b2i ((if_pos c8).trans rfl))
    · refine lv_iconst (v := 1) hx hb dX8_canRevise_11 (by decide) ?_
      refine lv_goto (tgt := 16) hx hb dX8_canRevise_12 (by decide) ?_
      exact hJ _ (congrArg b2i ((if_neg c8).trans rfl))
theorem hd_X8_canPrint : yX8_canPrint.cls ≠ "java/lang/invoke/MethodHandle" ∧ yX8_canPrint.cls ≠ "java/lang/invoke/VarHandle" ∧ (parseMethodDescriptor yX8_canPrint.desc).map (fun d => d.parameters.length) = some 1 := by decide +kernel
def sX8_canPrint (r : Nat → Int32) : Bool := (if 24 ≤ (r (1 : Int32).toNatClampNeg) then false else true)
set_option maxHeartbeats 4000000 in
set_option maxRecDepth 100000 in
theorem c_X8_canPrint (l : Launch) (D : va_G) (cs : Nat → ClassId) (q : Nat) (r : Nat → Int32) : Met l yX8_canPrint (wc yX8_canPrint cX8_canPrint 1 (some .boolean)) ({ frames := 0, cells := 0, slots := 0, locals := 0 } : Room) (va_Pc [.ref q] (PE D cs (rowW cs q r))) (vp_Si (fun r9 => r9 = b2i (sX8_canPrint r))) 0 0 (fun _ => False) := by
  obtain ⟨v, hv⟩ : ∃ v, sX8_canPrint r = v := ⟨_, rfl⟩
  rw [hv]
  refine met_o (lv := [(0, .ref q)]) (by decide) (Nat.le_of_ble_eq_true rfl) rfl ?_
  intro p e s m args below meth c ls hx hb hr hml hts hown hlocks hin hP hE hl
  have hown : s.vm.findClass RX8 = some m.cls := hown
  have hK := hE.1
  have hP : va_P D vwC (rowW cs q r) s.heap := hP
  unfold sX8_canPrint at hv
  refine lv_aload_n hx hb dX8_canPrint_0 rfl (lv_at hl 0 rfl) ?_
  refine lv_iconst (v := 1) hx hb dX8_canPrint_1 (by decide) ?_
  refine va_iald (cA := cs 0) (n := 414) (f := r) hx hb hK hP 0 0 rfl rfl (by unfold vp_in; decide) dX8_canPrint_2 ?_
  refine lv_bipush (v := 24) hx hb dX8_canPrint_3 (by decide) ?_
  refine join_i (J := 13) (ls := ls) (rest := []) (b2i (if 24 ≤ (r (1 : Int32).toNatClampNeg) then false else true)) ?_ (fun hJ => ?_)
  · exact W.zret (ty := .boolean) (v := b2i (if 24 ≤ (r (1 : Int32).toNatClampNeg) then false else true)) hx hb hr (b2i_nar (if 24 ≤ (r (1 : Int32).toNatClampNeg) then false else true)) (fun t ht hW => ⟨b2i (if 24 ≤ (r (1 : Int32).toNatClampNeg) then false else true), rfl, congrArg b2i hv, ht⟩) (fun _ h => nomatch h) dX8_canPrint_13 (hlocks := hlocks)
  · refine lv_icmp_ge (tgt := 12) hx hb dX8_canPrint_5 (by decide) (fun c5 => ?_) (fun c5 => ?_)
    · refine lv_iconst (v := 0) hx hb dX8_canPrint_12 (by decide) ?_
      exact hJ _ (congrArg b2i ((if_pos c5).trans rfl))
    · refine lv_iconst (v := 1) hx hb dX8_canPrint_8 (by decide) ?_
      refine lv_goto (tgt := 13) hx hb dX8_canPrint_9 (by decide) ?_
      exact hJ _ (congrArg b2i ((if_neg c5).trans rfl))
theorem hd_X8_canStamp : yX8_canStamp.cls ≠ "java/lang/invoke/MethodHandle" ∧ yX8_canStamp.cls ≠ "java/lang/invoke/VarHandle" ∧ (parseMethodDescriptor yX8_canStamp.desc).map (fun d => d.parameters.length) = some 2 := by decide +kernel
def sX8_canStamp (r : Nat → Int32) (p1 : Int32) : Bool := (if (sX8_isOut r p1) = true then (if (sX8_isRecalled r p1) = true then false else true) else false)
set_option maxHeartbeats 4000000 in
set_option maxRecDepth 100000 in
theorem c_X8_canStamp (l : Launch) (D : va_G) (cs : Nat → ClassId) (q : Nat) (r : Nat → Int32) (p1 : Int32) (h1 : vp_in p1 24) : Met l yX8_canStamp (wc yX8_canStamp cX8_canStamp 2 (some .boolean)) ({ frames := 2, cells := 0, slots := 0, locals := 42 } : Room) (va_Pc [.ref q, .int p1] (PE D cs (rowW cs q r))) (vp_Si (fun r9 => r9 = b2i (sX8_canStamp r p1))) 0 0 (fun _ => False) := by
  obtain ⟨v, hv⟩ : ∃ v, sX8_canStamp r p1 = v := ⟨_, rfl⟩
  rw [hv]
  refine met_o (lv := [(0, .ref q), (1, .int p1)]) (by decide) (Nat.le_of_ble_eq_true rfl) rfl ?_
  intro p e s m args below meth c ls hx hb hr hml hts hown hlocks hin hP hE hl
  have hown : s.vm.findClass RX8 = some m.cls := hown
  have hK := hE.1
  have hP : va_P D vwC (rowW cs q r) s.heap := hP
  unfold sX8_canStamp at hv
  refine lv_aload_n hx hb dX8_canStamp_0 rfl (lv_at hl 0 rfl) ?_
  refine lv_iload_n hx hb dX8_canStamp_1 rfl (lv_at hl 1 rfl) ?_
  refine ro_i (b2i (sX8_isOut r p1)) (run_c (va_runS (As := [.ref q, .int p1]) (rest := []) ⟨hx, hb, hml, hown, hts⟩ (c_X8_isOut l D cs q r p1) (cwS 2 hts (good_S w_ml_X8_70 w_st_X8_isOut w_in_X8 w_co_X8_isOut) rfl rfl rfl ⟨rfl, hd_X8_isOut⟩ ⟨Nat.le_of_ble_eq_true rfl, Nat.le_of_ble_eq_true rfl⟩) (pe_S hP hE) rfl rfl hl.1 rfl (lv_room (Nat.le_of_ble_eq_true rfl)) dX8_canStamp_2 ⟨Nat.zero_le _, Nat.zero_le _⟩)) ?_
  refine join_i (J := 21) (ls := ls) (rest := []) (b2i (if (sX8_isOut r p1) = true then (if (sX8_isRecalled r p1) = true then false else true) else false)) ?_ (fun hJ => ?_)
  · exact W.zret (ty := .boolean) (v := b2i (if (sX8_isOut r p1) = true then (if (sX8_isRecalled r p1) = true then false else true) else false)) hx hb hr (b2i_nar (if (sX8_isOut r p1) = true then (if (sX8_isRecalled r p1) = true then false else true) else false)) (fun t ht hW => ⟨b2i (if (sX8_isOut r p1) = true then (if (sX8_isRecalled r p1) = true then false else true) else false), rfl, congrArg b2i hv, ht⟩) (fun _ h => nomatch h) dX8_canStamp_21 (hlocks := hlocks)
  · refine lv_if_eq (tgt := 20) hx hb dX8_canStamp_5 (by decide) (fun c5 => ?_) (fun c5 => ?_)
    · have c5 := b2i_f c5
      refine lv_iconst (v := 0) hx hb dX8_canStamp_20 (by decide) ?_
      exact hJ _ (congrArg b2i ((if_neg c5).trans rfl))
    · have c5 := b2i_t c5
      refine lv_aload_n hx hb dX8_canStamp_8 rfl (lv_at hl 0 rfl) ?_
      refine lv_iload_n hx hb dX8_canStamp_9 rfl (lv_at hl 1 rfl) ?_
      refine ro_i (b2i (sX8_isRecalled r p1)) (run_c (va_runS (As := [.ref q, .int p1]) (rest := []) ⟨hx, hb, hml, hown, hts⟩ (c_X8_isRecalled l D cs q r p1 h1) (cwS 2 hts (good_S w_ml_X8_74 w_st_X8_isRecalled w_in_X8 w_co_X8_isRecalled) rfl rfl rfl ⟨rfl, hd_X8_isRecalled⟩ ⟨Nat.le_of_ble_eq_true rfl, Nat.le_of_ble_eq_true rfl⟩) (pe_S hP hE) rfl rfl hl.1 rfl (lv_room (Nat.le_of_ble_eq_true rfl)) dX8_canStamp_10 ⟨Nat.zero_le _, Nat.zero_le _⟩)) ?_
      refine lv_if_ne (tgt := 20) hx hb dX8_canStamp_13 (by decide) (fun c13 => ?_) (fun c13 => ?_)
      · have c13 := b2i_t c13
        refine lv_iconst (v := 0) hx hb dX8_canStamp_20 (by decide) ?_
        exact hJ _ (congrArg b2i ((if_pos c5).trans ((if_pos c13).trans rfl)))
      · have c13 := b2i_f c13
        refine lv_iconst (v := 1) hx hb dX8_canStamp_16 (by decide) ?_
        refine lv_goto (tgt := 21) hx hb dX8_canStamp_17 (by decide) ?_
        exact hJ _ (congrArg b2i ((if_pos c5).trans ((if_neg c13).trans rfl)))
theorem hd_X8_canBuild : yX8_canBuild.cls ≠ "java/lang/invoke/MethodHandle" ∧ yX8_canBuild.cls ≠ "java/lang/invoke/VarHandle" ∧ (parseMethodDescriptor yX8_canBuild.desc).map (fun d => d.parameters.length) = some 2 := by decide +kernel
def sX8_canBuild (r : Nat → Int32) (p1 : Int32) : Bool := (if (sX8_mayBuild r p1) = true then (if 30 ≤ (r (2 : Int32).toNatClampNeg) then false else true) else false)
set_option maxHeartbeats 4000000 in
set_option maxRecDepth 100000 in
theorem c_X8_canBuild (l : Launch) (D : va_G) (cs : Nat → ClassId) (q : Nat) (r : Nat → Int32) (p1 : Int32) (h1 : vp_in p1 24) : Met l yX8_canBuild (wc yX8_canBuild cX8_canBuild 2 (some .boolean)) ({ frames := 3, cells := 0, slots := 0, locals := 63 } : Room) (va_Pc [.ref q, .int p1] (PE D cs (rowW cs q r))) (vp_Si (fun r9 => r9 = b2i (sX8_canBuild r p1))) 0 0 (fun _ => False) := by
  obtain ⟨v, hv⟩ : ∃ v, sX8_canBuild r p1 = v := ⟨_, rfl⟩
  rw [hv]
  refine met_o (lv := [(0, .ref q), (1, .int p1)]) (by decide) (Nat.le_of_ble_eq_true rfl) rfl ?_
  intro p e s m args below meth c ls hx hb hr hml hts hown hlocks hin hP hE hl
  have hown : s.vm.findClass RX8 = some m.cls := hown
  have hK := hE.1
  have hP : va_P D vwC (rowW cs q r) s.heap := hP
  unfold sX8_canBuild at hv
  refine lv_aload_n hx hb dX8_canBuild_0 rfl (lv_at hl 0 rfl) ?_
  refine lv_iload_n hx hb dX8_canBuild_1 rfl (lv_at hl 1 rfl) ?_
  refine ro_i (b2i (sX8_mayBuild r p1)) (run_c (va_runS (As := [.ref q, .int p1]) (rest := []) ⟨hx, hb, hml, hown, hts⟩ (c_X8_mayBuild l D cs q r p1 h1) (cwS 2 hts (good_S w_ml_X8_87 w_st_X8_mayBuild w_in_X8 w_co_X8_mayBuild) rfl rfl rfl ⟨rfl, hd_X8_mayBuild⟩ ⟨Nat.le_of_ble_eq_true rfl, Nat.le_of_ble_eq_true rfl⟩) (pe_S hP hE) rfl rfl hl.1 rfl (lv_room (Nat.le_of_ble_eq_true rfl)) dX8_canBuild_2 ⟨Nat.zero_le _, Nat.zero_le _⟩)) ?_
  refine join_i (J := 21) (ls := ls) (rest := []) (b2i (if (sX8_mayBuild r p1) = true then (if 30 ≤ (r (2 : Int32).toNatClampNeg) then false else true) else false)) ?_ (fun hJ => ?_)
  · exact W.zret (ty := .boolean) (v := b2i (if (sX8_mayBuild r p1) = true then (if 30 ≤ (r (2 : Int32).toNatClampNeg) then false else true) else false)) hx hb hr (b2i_nar (if (sX8_mayBuild r p1) = true then (if 30 ≤ (r (2 : Int32).toNatClampNeg) then false else true) else false)) (fun t ht hW => ⟨b2i (if (sX8_mayBuild r p1) = true then (if 30 ≤ (r (2 : Int32).toNatClampNeg) then false else true) else false), rfl, congrArg b2i hv, ht⟩) (fun _ h => nomatch h) dX8_canBuild_21 (hlocks := hlocks)
  · refine lv_if_eq (tgt := 20) hx hb dX8_canBuild_5 (by decide) (fun c5 => ?_) (fun c5 => ?_)
    · have c5 := b2i_f c5
      refine lv_iconst (v := 0) hx hb dX8_canBuild_20 (by decide) ?_
      exact hJ _ (congrArg b2i ((if_neg c5).trans rfl))
    · have c5 := b2i_t c5
      refine lv_aload_n hx hb dX8_canBuild_8 rfl (lv_at hl 0 rfl) ?_
      refine lv_iconst (v := 2) hx hb dX8_canBuild_9 (by decide) ?_
      refine va_iald (cA := cs 0) (n := 414) (f := r) hx hb hK hP 0 0 rfl rfl (by unfold vp_in; decide) dX8_canBuild_10 ?_
      refine lv_bipush (v := 30) hx hb dX8_canBuild_11 (by decide) ?_
      refine lv_icmp_ge (tgt := 20) hx hb dX8_canBuild_13 (by decide) (fun c13 => ?_) (fun c13 => ?_)
      · refine lv_iconst (v := 0) hx hb dX8_canBuild_20 (by decide) ?_
        exact hJ _ (congrArg b2i ((if_pos c5).trans ((if_pos c13).trans rfl)))
      · refine lv_iconst (v := 1) hx hb dX8_canBuild_16 (by decide) ?_
        refine lv_goto (tgt := 21) hx hb dX8_canBuild_17 (by decide) ?_
        exact hJ _ (congrArg b2i ((if_pos c5).trans ((if_neg c13).trans rfl)))
theorem hd_X8_goDraw : yX8_goDraw.cls ≠ "java/lang/invoke/MethodHandle" ∧ yX8_goDraw.cls ≠ "java/lang/invoke/VarHandle" ∧ (parseMethodDescriptor yX8_goDraw.desc).map (fun d => d.parameters.length) = some 2 := by decide +kernel
def LX8_goDraw_20 (r : Nat → Int32) (p1 : Int32) : Nat → Int32 → (Nat → Int32) → Int32 × (Nat → Int32)
  | 0 => fun _ _ => (0, r)
  | n + 1 => fun x3 O9 => (if 12 ≤ x3 then (r (0 : Int32).toNatClampNeg, (upd O9 (0 : Int32).toNatClampNeg ((O9 (0 : Int32).toNatClampNeg) + 1))) else (LX8_goDraw_20 r p1 n (x3 + 1) (upd O9 ((30 + (12 * (r (0 : Int32).toNatClampNeg))) + x3).toNatClampNeg 0)))
theorem LX8_goDraw_20_eq (r : Nat → Int32) (p1 : Int32) (n : Nat) (x3 : Int32) (O9 : (Nat → Int32)) : LX8_goDraw_20 r p1 (n + 1) x3 O9 = (if 12 ≤ x3 then (r (0 : Int32).toNatClampNeg, (upd O9 (0 : Int32).toNatClampNeg ((O9 (0 : Int32).toNatClampNeg) + 1))) else (LX8_goDraw_20 r p1 n (x3 + 1) (upd O9 ((30 + (12 * (r (0 : Int32).toNatClampNeg))) + x3).toNatClampNeg 0))) := rfl
def sX8_goDraw (r : Nat → Int32) (p1 : Int32) : Int32 × (Nat → Int32) := (LX8_goDraw_20 r p1 (upM 12 0 + 1) 0 (upd (upd r (10 + (r (0 : Int32).toNatClampNeg)).toNatClampNeg p1) (20 + (r (0 : Int32).toNatClampNeg)).toNatClampNeg 0))
set_option maxHeartbeats 4000000 in
set_option maxRecDepth 100000 in
theorem c_X8_goDraw (l : Launch) (D : va_G) (cs : Nat → ClassId) (q : Nat) (r : Nat → Int32) (p1 : Int32) (h1 : vp_in (r 0) 10) : Met l yX8_goDraw (wc yX8_goDraw cX8_goDraw 4 (some .int)) ({ frames := 0, cells := 0, slots := 0, locals := 0 } : Room) (va_Pc [.ref q, .int p1] (PE D cs (rowW cs q r))) (va_Qi (fun (r9 : Int32) (u : (Nat → Int32)) => r9 = (sX8_goDraw r p1).1 ∧ u = (sX8_goDraw r p1).2) (fun u t => va_P D vwC (rowW cs q u) t.heap) (rA q)) 0 0 (rA q) := by
  obtain ⟨v, hv⟩ : ∃ v, sX8_goDraw r p1 = v := ⟨_, rfl⟩
  rw [hv]
  refine met_o (lv := [(0, .ref q), (1, .int p1)]) (by decide) (Nat.le_of_ble_eq_true rfl) rfl ?_
  intro p e s m args below meth c ls hx hb hr hml hts hown hlocks hin hP hE hl
  have hown : s.vm.findClass RX8 = some m.cls := hown
  have hK := hE.1
  have hP : va_P D vwC (rowW cs q r) s.heap := hP
  have hS : va_S (rA q) s.heap s.heap [] := va_S.rf
  unfold sX8_goDraw at hv
  refine lv_aload_n hx hb dX8_goDraw_0 rfl (lv_at hl 0 rfl) ?_
  refine lv_iconst (v := 0) hx hb dX8_goDraw_1 (by decide) ?_
  refine va_iald (cA := cs 0) (n := 414) (f := r) hx hb hK hP 0 0 rfl rfl (by unfold vp_in; decide) dX8_goDraw_2 ?_
  refine lv_istore_n (lv' := [(2, .int (r (0 : Int32).toNatClampNeg)), (0, .ref q), (1, .int p1)]) hx hb dX8_goDraw_3 rfl hl (by decide) rfl (fun ls hl => ?_)
  have h2 : vp_in (r (0 : Int32).toNatClampNeg) 10 := h1
  refine lv_aload_n hx hb dX8_goDraw_4 rfl (lv_at hl 1 rfl) ?_
  refine lv_bipush (v := 10) hx hb dX8_goDraw_5 (by decide) ?_
  refine lv_iload_n hx hb dX8_goDraw_7 rfl (lv_at hl 0 rfl) ?_
  refine lv_iadd hx hb dX8_goDraw_8 ?_
  refine lv_iload_n hx hb dX8_goDraw_9 rfl (lv_at hl 2 rfl) ?_
  refine va_iast (cA := cs 0) (n := 414) (f := r) hx hb hK hP (row_D cs q r) hS 0 0 rfl rfl (vp_off (K := 10) rfl (by assumption) (by decide) (by decide)) dX8_goDraw_10 (fun H locs hP _ hS => ?_)
  have hP : va_P D vwC (rowW cs q (upd r (10 + (r (0 : Int32).toNatClampNeg)).toNatClampNeg p1)) H := hP
  refine lv_aload_n hx hb dX8_goDraw_11 rfl (lv_at hl 1 rfl) ?_
  refine lv_bipush (v := 20) hx hb dX8_goDraw_12 (by decide) ?_
  refine lv_iload_n hx hb dX8_goDraw_14 rfl (lv_at hl 0 rfl) ?_
  refine lv_iadd hx hb dX8_goDraw_15 ?_
  refine lv_iconst (v := 0) hx hb dX8_goDraw_16 (by decide) ?_
  refine va_iast (cA := cs 0) (n := 414) (f := (upd r (10 + (r (0 : Int32).toNatClampNeg)).toNatClampNeg p1)) hx hb hK hP (row_D cs q (upd r (10 + (r (0 : Int32).toNatClampNeg)).toNatClampNeg p1)) hS 0 0 rfl rfl (vp_off (K := 20) rfl (by assumption) (by decide) (by decide)) dX8_goDraw_17 (fun H locs hP _ hS => ?_)
  have hP : va_P D vwC (rowW cs q (upd (upd r (10 + (r (0 : Int32).toNatClampNeg)).toNatClampNeg p1) (20 + (r (0 : Int32).toNatClampNeg)).toNatClampNeg 0)) H := hP
  refine lv_iconst (v := 0) hx hb dX8_goDraw_18 (by decide) ?_
  refine lv_istore_n (lv' := [(3, .int 0), (2, .int (r (0 : Int32).toNatClampNeg)), (0, .ref q), (1, .int p1)]) hx hb dX8_goDraw_19 rfl hl (by decide) rfl (fun ls hl => ?_)
  have LOOP : ∀ (n : Nat) (x3 : Int32) (O9 : (Nat → Int32)), upM 12 x3 < n → (¬ x3 < 0) → LX8_goDraw_20 r p1 n x3 O9 = v → ∀ (H : Heap) (locs : List Loc), va_P D vwC (rowW cs q O9) H → va_S (rA q) s.heap H locs → ∀ ls : Array Slot, lv_has ls 4 [(0, .ref q), (1, .int p1), (2, .int (r (0 : Int32).toNatClampNeg)), (3, .int x3)] → W p l e ({ frames := 0, cells := 0, slots := 0, locals := 0 } : Room) s m args below meth c H locs 0 0 (MQ below (va_Qi (fun (r9 : Int32) (u : (Nat → Int32)) => r9 = v.1 ∧ u = v.2) (fun u t => va_P D vwC (rowW cs q u) t.heap) (rA q)) args s 0 0 (rA q)) (F0 m 20 ls []) := by
    clear hv
    intro n
    induction n with
    | zero => intro x3 O9 hm; exact absurd hm (Nat.not_lt_zero _)
    | succ n ih =>
      intro x3 O9 hm i0 hv H locs hP hS ls hl
      have hv := (LX8_goDraw_20_eq r p1 n x3 O9).symm.trans hv
      refine lv_iload_n hx hb dX8_goDraw_20 rfl (lv_at hl 3 rfl) ?_
      refine lv_bipush (v := 12) hx hb dX8_goDraw_21 (by decide) ?_
      refine lv_icmp_ge (tgt := 44) hx hb dX8_goDraw_23 (by decide) (fun c23 => ?_) (fun c23 => ?_)
      · have hv := (if_pos c23).symm.trans hv
        refine lv_aload_n hx hb dX8_goDraw_44 rfl (lv_at hl 0 rfl) ?_
        refine lv_iconst (v := 0) hx hb dX8_goDraw_45 (by decide) ?_
        refine lv_dup2_11 hx hb dX8_goDraw_46 rfl rfl ?_
        refine va_iald (cA := cs 0) (n := 414) (f := O9) hx hb hK hP 0 0 rfl rfl (by unfold vp_in; decide) dX8_goDraw_47 ?_
        refine lv_iconst (v := 1) hx hb dX8_goDraw_48 (by decide) ?_
        refine lv_iadd hx hb dX8_goDraw_49 ?_
        refine va_iast (cA := cs 0) (n := 414) (f := O9) hx hb hK hP (row_D cs q O9) hS 0 0 rfl rfl (by unfold vp_in; decide) dX8_goDraw_50 (fun H locs hP _ hS => ?_)
        have hP : va_P D vwC (rowW cs q (upd O9 (0 : Int32).toNatClampNeg ((O9 (0 : Int32).toNatClampNeg) + 1))) H := hP
        refine lv_iload_n hx hb dX8_goDraw_51 rfl (lv_at hl 2 rfl) ?_
        exact W.iret (v := r (0 : Int32).toNatClampNeg) hx hb hr (fun t ht hW => ⟨⟨r (0 : Int32).toNatClampNeg, (upd O9 (0 : Int32).toNatClampNeg ((O9 (0 : Int32).toNatClampNeg) + 1)), rfl, pair_eq hv, pw ht hP⟩, hS.F ht⟩) hS.2.2 dX8_goDraw_52 (hlocks := hlocks)
      · have hv := (if_neg c23).symm.trans hv
        refine lv_aload_n hx hb dX8_goDraw_26 rfl (lv_at hl 0 rfl) ?_
        refine lv_bipush (v := 30) hx hb dX8_goDraw_27 (by decide) ?_
        refine lv_bipush (v := 12) hx hb dX8_goDraw_29 (by decide) ?_
        refine lv_iload_n hx hb dX8_goDraw_31 rfl (lv_at hl 2 rfl) ?_
        refine lv_imul hx hb dX8_goDraw_32 ?_
        refine lv_iadd hx hb dX8_goDraw_33 ?_
        refine lv_iload_n hx hb dX8_goDraw_34 rfl (lv_at hl 3 rfl) ?_
        refine lv_iadd hx hb dX8_goDraw_35 ?_
        refine lv_iconst (v := 0) hx hb dX8_goDraw_36 (by decide) ?_
        refine va_iast (cA := cs 0) (n := 414) (f := O9) hx hb hK hP (row_D cs q O9) hS 0 0 rfl rfl (dr2 h2 (vp_a rfl i0 c23)) dX8_goDraw_37 (fun H locs hP _ hS => ?_)
        have hP : va_P D vwC (rowW cs q (upd O9 ((30 + (12 * (r (0 : Int32).toNatClampNeg))) + x3).toNatClampNeg 0)) H := hP
        refine lv_iinc (v := x3 + 1) (lv' := [(3, .int (x3 + 1)), (0, .ref q), (1, .int p1), (2, .int (r (0 : Int32).toNatClampNeg))]) hx hb dX8_goDraw_38 hl (k := 3) rfl rfl (by decide) rfl (fun ls hl => ?_)
        refine lv_goto (tgt := 20) hx hb dX8_goDraw_41 (by decide) ?_
        exact ih (x3 + 1) (upd O9 ((30 + (12 * (r (0 : Int32).toNatClampNeg))) + x3).toNatClampNeg 0) (upM_s c23 hm) (nn_inc i0 c23) hv _ _ hP hS ls (lv_sub hl [1, 2, 3, 0] rfl)
  exact LOOP _ 0 (upd (upd r (10 + (r (0 : Int32).toNatClampNeg)).toNatClampNeg p1) (20 + (r (0 : Int32).toNatClampNeg)).toNatClampNeg 0) (Nat.lt_succ_self _) (by decide) hv _ _ hP hS ls (lv_sub hl [2, 3, 1, 0] rfl)
theorem hd_X8_goRevise : yX8_goRevise.cls ≠ "java/lang/invoke/MethodHandle" ∧ yX8_goRevise.cls ≠ "java/lang/invoke/VarHandle" ∧ (parseMethodDescriptor yX8_goRevise.desc).map (fun d => d.parameters.length) = some 3 := by decide +kernel
def LX8_goRevise_98 (r : Nat → Int32) (p1 : Int32) (p2 : Int32) : Nat → Int32 → Int32 → (Nat → Int32) → Int32 × (Nat → Int32)
  | 0 => fun _ _ _ => (0, r)
  | n + 1 => fun x3 x4 O9 => (if (O9 (1 : Int32).toNatClampNeg) ≤ x4 then (x3, O9) else (if (O9 (150 + x4).toNatClampNeg) = p1 then (if (sX8_isOut O9 x4) = true then (if (sX8_isRecalled O9 x4) = true then (LX8_goRevise_98 r p1 p2 n x3 (x4 + 1) O9) else (LX8_goRevise_98 r p1 p2 n (x3 + 1) (x4 + 1) (upd O9 (270 + x4).toNatClampNeg ((O9 (3 : Int32).toNatClampNeg) + (O9 (5 : Int32).toNatClampNeg))))) else (LX8_goRevise_98 r p1 p2 n x3 (x4 + 1) O9)) else (LX8_goRevise_98 r p1 p2 n x3 (x4 + 1) O9)))
theorem LX8_goRevise_98_eq (r : Nat → Int32) (p1 : Int32) (p2 : Int32) (n : Nat) (x3 : Int32) (x4 : Int32) (O9 : (Nat → Int32)) : LX8_goRevise_98 r p1 p2 (n + 1) x3 x4 O9 = (if (O9 (1 : Int32).toNatClampNeg) ≤ x4 then (x3, O9) else (if (O9 (150 + x4).toNatClampNeg) = p1 then (if (sX8_isOut O9 x4) = true then (if (sX8_isRecalled O9 x4) = true then (LX8_goRevise_98 r p1 p2 n x3 (x4 + 1) O9) else (LX8_goRevise_98 r p1 p2 n (x3 + 1) (x4 + 1) (upd O9 (270 + x4).toNatClampNeg ((O9 (3 : Int32).toNatClampNeg) + (O9 (5 : Int32).toNatClampNeg))))) else (LX8_goRevise_98 r p1 p2 n x3 (x4 + 1) O9)) else (LX8_goRevise_98 r p1 p2 n x3 (x4 + 1) O9))) := rfl
def LX8_goRevise_68 (r : Nat → Int32) (p1 : Int32) (p2 : Int32) : Nat → Int32 → (Nat → Int32) → Int32 × (Nat → Int32)
  | 0 => fun _ _ => (0, r)
  | n + 1 => fun x3 O9 => (if x3 = (-1) then (LX8_goRevise_98 r p1 p2 (upM (r (1 : Int32).toNatClampNeg) 0 + 1) 0 0 O9) else (LX8_goRevise_68 r p1 p2 n ((upd O9 (8 : Int32).toNatClampNeg ((O9 (8 : Int32).toNatClampNeg) ||| (1 <<< (x3 &&& 31)))) (10 + x3).toNatClampNeg) (upd O9 (8 : Int32).toNatClampNeg ((O9 (8 : Int32).toNatClampNeg) ||| (1 <<< (x3 &&& 31))))))
theorem LX8_goRevise_68_eq (r : Nat → Int32) (p1 : Int32) (p2 : Int32) (n : Nat) (x3 : Int32) (O9 : (Nat → Int32)) : LX8_goRevise_68 r p1 p2 (n + 1) x3 O9 = (if x3 = (-1) then (LX8_goRevise_98 r p1 p2 (upM (r (1 : Int32).toNatClampNeg) 0 + 1) 0 0 O9) else (LX8_goRevise_68 r p1 p2 n ((upd O9 (8 : Int32).toNatClampNeg ((O9 (8 : Int32).toNatClampNeg) ||| (1 <<< (x3 &&& 31)))) (10 + x3).toNatClampNeg) (upd O9 (8 : Int32).toNatClampNeg ((O9 (8 : Int32).toNatClampNeg) ||| (1 <<< (x3 &&& 31)))))) := rfl
def LX8_goRevise_12 (r : Nat → Int32) (p1 : Int32) (p2 : Int32) : Nat → Int32 → (Nat → Int32) → Int32 × (Nat → Int32)
  | 0 => fun _ _ => (0, r)
  | n + 1 => fun x3 O9 => (if 12 ≤ x3 then (LX8_goRevise_68 r p1 p2 (dnM ((upd O9 (8 : Int32).toNatClampNeg ((O9 (8 : Int32).toNatClampNeg) &&& ((1 <<< (p1 &&& 31)) ^^^ (-1)))) (10 + p1).toNatClampNeg) + 1) ((upd O9 (8 : Int32).toNatClampNeg ((O9 (8 : Int32).toNatClampNeg) &&& ((1 <<< (p1 &&& 31)) ^^^ (-1)))) (10 + p1).toNatClampNeg) (upd O9 (8 : Int32).toNatClampNeg ((O9 (8 : Int32).toNatClampNeg) &&& ((1 <<< (p1 &&& 31)) ^^^ (-1))))) else (if (sX8_has p2 x3) = true then (LX8_goRevise_12 r p1 p2 n (x3 + 1) (upd O9 ((30 + (12 * p1)) + x3).toNatClampNeg (O9 (20 + p1).toNatClampNeg))) else (LX8_goRevise_12 r p1 p2 n (x3 + 1) O9)))
theorem LX8_goRevise_12_eq (r : Nat → Int32) (p1 : Int32) (p2 : Int32) (n : Nat) (x3 : Int32) (O9 : (Nat → Int32)) : LX8_goRevise_12 r p1 p2 (n + 1) x3 O9 = (if 12 ≤ x3 then (LX8_goRevise_68 r p1 p2 (dnM ((upd O9 (8 : Int32).toNatClampNeg ((O9 (8 : Int32).toNatClampNeg) &&& ((1 <<< (p1 &&& 31)) ^^^ (-1)))) (10 + p1).toNatClampNeg) + 1) ((upd O9 (8 : Int32).toNatClampNeg ((O9 (8 : Int32).toNatClampNeg) &&& ((1 <<< (p1 &&& 31)) ^^^ (-1)))) (10 + p1).toNatClampNeg) (upd O9 (8 : Int32).toNatClampNeg ((O9 (8 : Int32).toNatClampNeg) &&& ((1 <<< (p1 &&& 31)) ^^^ (-1))))) else (if (sX8_has p2 x3) = true then (LX8_goRevise_12 r p1 p2 n (x3 + 1) (upd O9 ((30 + (12 * p1)) + x3).toNatClampNeg (O9 (20 + p1).toNatClampNeg))) else (LX8_goRevise_12 r p1 p2 n (x3 + 1) O9))) := rfl
def sX8_goRevise (r : Nat → Int32) (p1 : Int32) (p2 : Int32) : Int32 × (Nat → Int32) := (LX8_goRevise_12 r p1 p2 (upM 12 0 + 1) 0 (upd r (20 + p1).toNatClampNeg ((r (20 + p1).toNatClampNeg) + 1)))
set_option maxHeartbeats 4000000 in
set_option maxRecDepth 100000 in
theorem c_X8_goRevise (l : Launch) (D : va_G) (cs : Nat → ClassId) (q : Nat) (r : Nat → Int32) (p1 : Int32) (p2 : Int32) (hv0 : MV r) (h1 : inS r p1) : Met l yX8_goRevise (wc yX8_goRevise cX8_goRevise 5 (some .int)) ({ frames := 2, cells := 0, slots := 0, locals := 42 } : Room) (va_Pc [.ref q, .int p1, .int p2] (PE D cs (rowW cs q r))) (va_Qi (fun (r9 : Int32) (u : (Nat → Int32)) => r9 = (sX8_goRevise r p1 p2).1 ∧ u = (sX8_goRevise r p1 p2).2) (fun u t => va_P D vwC (rowW cs q u) t.heap) (rA q)) 0 0 (rA q) := by
  obtain ⟨v, hv⟩ : ∃ v, sX8_goRevise r p1 p2 = v := ⟨_, rfl⟩
  rw [hv]
  refine met_o (lv := [(0, .ref q), (1, .int p1), (2, .int p2)]) (by decide) (Nat.le_of_ble_eq_true rfl) rfl ?_
  intro p e s m args below meth c ls hx hb hr hml hts hown hlocks hin hP hE hl
  have hown : s.vm.findClass RX8 = some m.cls := hown
  have hK := hE.1
  have hP : va_P D vwC (rowW cs q r) s.heap := hP
  have hS : va_S (rA q) s.heap s.heap [] := va_S.rf
  unfold sX8_goRevise at hv
  have f1 := h1.v hv0
  refine lv_aload_n hx hb dX8_goRevise_0 rfl (lv_at hl 0 rfl) ?_
  refine lv_bipush (v := 20) hx hb dX8_goRevise_1 (by decide) ?_
  refine lv_iload_n hx hb dX8_goRevise_3 rfl (lv_at hl 1 rfl) ?_
  refine lv_iadd hx hb dX8_goRevise_4 ?_
  refine lv_dup2_11 hx hb dX8_goRevise_5 rfl rfl ?_
  refine va_iald (cA := cs 0) (n := 414) (f := r) hx hb hK hP 0 0 rfl rfl (vp_off (K := 20) rfl (by assumption) (by decide) (by decide)) dX8_goRevise_6 ?_
  refine lv_iconst (v := 1) hx hb dX8_goRevise_7 (by decide) ?_
  refine lv_iadd hx hb dX8_goRevise_8 ?_
  refine va_iast (cA := cs 0) (n := 414) (f := r) hx hb hK hP (row_D cs q r) hS 0 0 rfl rfl (vp_off (K := 20) rfl (by assumption) (by decide) (by decide)) dX8_goRevise_9 (fun H locs hP _ hS => ?_)
  have hP : va_P D vwC (rowW cs q (upd r (20 + p1).toNatClampNeg ((r (20 + p1).toNatClampNeg) + 1))) H := hP
  refine lv_iconst (v := 0) hx hb dX8_goRevise_10 (by decide) ?_
  refine lv_istore_n (lv' := [(3, .int 0), (0, .ref q), (1, .int p1), (2, .int p2)]) hx hb dX8_goRevise_11 rfl hl (by decide) rfl (fun ls hl => ?_)
  have LOOP : ∀ (n : Nat) (x3 : Int32) (O9 : (Nat → Int32)), upM 12 x3 < n → (¬ x3 < 0) → (∀ k : Nat, k < 20 → O9 k = r k) → LX8_goRevise_12 r p1 p2 n x3 O9 = v → ∀ (H : Heap) (locs : List Loc), va_P D vwC (rowW cs q O9) H → va_S (rA q) s.heap H locs → ∀ ls : Array Slot, lv_has ls 5 [(0, .ref q), (1, .int p1), (2, .int p2), (3, .int x3)] → W p l e ({ frames := 2, cells := 0, slots := 0, locals := 42 } : Room) s m args below meth c H locs 0 0 (MQ below (va_Qi (fun (r9 : Int32) (u : (Nat → Int32)) => r9 = v.1 ∧ u = v.2) (fun u t => va_P D vwC (rowW cs q u) t.heap) (rA q)) args s 0 0 (rA q)) (F0 m 12 ls []) := by
    clear hv
    intro n
    induction n with
    | zero => intro x3 O9 hm; exact absurd hm (Nat.not_lt_zero _)
    | succ n ih =>
      intro x3 O9 hm i0 i1 hv H locs hP hS ls hl
      have hv := (LX8_goRevise_12_eq r p1 p2 n x3 O9).symm.trans hv
      refine lv_iload_n hx hb dX8_goRevise_12 rfl (lv_at hl 3 rfl) ?_
      refine lv_bipush (v := 12) hx hb dX8_goRevise_13 (by decide) ?_
      refine lv_icmp_ge (tgt := 49) hx hb dX8_goRevise_15 (by decide) (fun c15 => ?_) (fun c15 => ?_)
      · have hv := (if_pos c15).symm.trans hv
        refine lv_aload_n hx hb dX8_goRevise_49 rfl (lv_at hl 0 rfl) ?_
        refine lv_bipush (v := 8) hx hb dX8_goRevise_50 (by decide) ?_
        refine lv_dup2_11 hx hb dX8_goRevise_52 rfl rfl ?_
        refine va_iald (cA := cs 0) (n := 414) (f := O9) hx hb hK hP 0 0 rfl rfl (by unfold vp_in; decide) dX8_goRevise_53 ?_
        refine lv_iconst (v := 1) hx hb dX8_goRevise_54 (by decide) ?_
        refine lv_iload_n hx hb dX8_goRevise_55 rfl (lv_at hl 1 rfl) ?_
        refine lv_ishl hx hb dX8_goRevise_56 ?_
        refine lv_iconst (v := (-1)) hx hb dX8_goRevise_57 (by decide) ?_
        refine lv_ixor hx hb dX8_goRevise_58 ?_
        refine lv_iand hx hb dX8_goRevise_59 ?_
        refine va_iast (cA := cs 0) (n := 414) (f := O9) hx hb hK hP (row_D cs q O9) hS 0 0 rfl rfl (by unfold vp_in; decide) dX8_goRevise_60 (fun H locs hP _ hS => ?_)
        have hP : va_P D vwC (rowW cs q (upd O9 (8 : Int32).toNatClampNeg ((O9 (8 : Int32).toNatClampNeg) &&& ((1 <<< (p1 &&& 31)) ^^^ (-1))))) H := hP
        refine lv_aload_n hx hb dX8_goRevise_61 rfl (lv_at hl 0 rfl) ?_
        refine lv_bipush (v := 10) hx hb dX8_goRevise_62 (by decide) ?_
        refine lv_iload_n hx hb dX8_goRevise_64 rfl (lv_at hl 1 rfl) ?_
        refine lv_iadd hx hb dX8_goRevise_65 ?_
        refine va_iald (cA := cs 0) (n := 414) (f := (upd O9 (8 : Int32).toNatClampNeg ((O9 (8 : Int32).toNatClampNeg) &&& ((1 <<< (p1 &&& 31)) ^^^ (-1))))) hx hb hK hP 0 0 rfl rfl (vp_off (K := 10) rfl (by assumption) (by decide) (by decide)) dX8_goRevise_66 ?_
        refine lv_istore_n (lv' := [(3, .int ((upd O9 (8 : Int32).toNatClampNeg ((O9 (8 : Int32).toNatClampNeg) &&& ((1 <<< (p1 &&& 31)) ^^^ (-1)))) (10 + p1).toNatClampNeg)), (0, .ref q), (1, .int p1), (2, .int p2)]) hx hb dX8_goRevise_67 rfl hl (by decide) rfl (fun ls hl => ?_)
        have LOOP : ∀ (n : Nat) (x3 : Int32) (O9 : (Nat → Int32)), dnM x3 < n → (at1 r x3) → (∀ k : Nat, k < 20 → k ≠ 8 → O9 k = r k) → LX8_goRevise_68 r p1 p2 n x3 O9 = v → ∀ (H : Heap) (locs : List Loc), va_P D vwC (rowW cs q O9) H → va_S (rA q) s.heap H locs → ∀ ls : Array Slot, lv_has ls 5 [(0, .ref q), (1, .int p1), (2, .int p2), (3, .int x3)] → W p l e ({ frames := 2, cells := 0, slots := 0, locals := 42 } : Room) s m args below meth c H locs 0 0 (MQ below (va_Qi (fun (r9 : Int32) (u : (Nat → Int32)) => r9 = v.1 ∧ u = v.2) (fun u t => va_P D vwC (rowW cs q u) t.heap) (rA q)) args s 0 0 (rA q)) (F0 m 68 ls []) := by
          clear hv
          intro n
          induction n with
          | zero => intro x3 O9 hm; exact absurd hm (Nat.not_lt_zero _)
          | succ n ih =>
            intro x3 O9 hm i0 i1 hv H locs hP hS ls hl
            have hv := (LX8_goRevise_68_eq r p1 p2 n x3 O9).symm.trans hv
            refine lv_iload_n hx hb dX8_goRevise_68 rfl (lv_at hl 3 rfl) ?_
            refine lv_iconst (v := (-1)) hx hb dX8_goRevise_69 (by decide) ?_
            refine lv_icmp_eq (tgt := 93) hx hb dX8_goRevise_70 (by decide) (fun c70 => ?_) (fun c70 => ?_)
            · have hv := (if_pos c70).symm.trans hv
              refine lv_iconst (v := 0) hx hb dX8_goRevise_93 (by decide) ?_
              refine lv_istore_n (lv' := [(3, .int 0), (0, .ref q), (1, .int p1), (2, .int p2)]) hx hb dX8_goRevise_94 rfl hl (by decide) rfl (fun ls hl => ?_)
              refine lv_iconst (v := 0) hx hb dX8_goRevise_95 (by decide) ?_
              refine lv_istore (lv' := [(4, .int 0), (3, .int 0), (0, .ref q), (1, .int p1), (2, .int p2)]) hx hb dX8_goRevise_96 hl (by decide) rfl (fun ls hl => ?_)
              have LOOP : ∀ (n : Nat) (x3 : Int32) (x4 : Int32) (O9 : (Nat → Int32)), upM (r (1 : Int32).toNatClampNeg) x4 < n → (¬ x4 < 0) → (O9 1 = r 1) → LX8_goRevise_98 r p1 p2 n x3 x4 O9 = v → ∀ (H : Heap) (locs : List Loc), va_P D vwC (rowW cs q O9) H → va_S (rA q) s.heap H locs → ∀ ls : Array Slot, lv_has ls 5 [(0, .ref q), (1, .int p1), (2, .int p2), (3, .int x3), (4, .int x4)] → W p l e ({ frames := 2, cells := 0, slots := 0, locals := 42 } : Room) s m args below meth c H locs 0 0 (MQ below (va_Qi (fun (r9 : Int32) (u : (Nat → Int32)) => r9 = v.1 ∧ u = v.2) (fun u t => va_P D vwC (rowW cs q u) t.heap) (rA q)) args s 0 0 (rA q)) (F0 m 98 ls []) := by
                clear hv
                intro n
                induction n with
                | zero => intro x3 x4 O9 hm; exact absurd hm (Nat.not_lt_zero _)
                | succ n ih =>
                  intro x3 x4 O9 hm i0 i1 hv H locs hP hS ls hl
                  have hv := (LX8_goRevise_98_eq r p1 p2 n x3 x4 O9).symm.trans hv
                  refine lv_iload hx hb dX8_goRevise_98 (lv_at hl 4 rfl) ?_
                  refine lv_aload_n hx hb dX8_goRevise_100 rfl (lv_at hl 0 rfl) ?_
                  refine lv_iconst (v := 1) hx hb dX8_goRevise_101 (by decide) ?_
                  refine va_iald (cA := cs 0) (n := 414) (f := O9) hx hb hK hP 0 0 rfl rfl (by unfold vp_in; decide) dX8_goRevise_102 ?_
                  refine lv_icmp_ge (tgt := 160) hx hb dX8_goRevise_103 (by decide) (fun c103 => ?_) (fun c103 => ?_)
                  · have hv := (if_pos c103).symm.trans hv
                    refine lv_iload_n hx hb dX8_goRevise_160 rfl (lv_at hl 3 rfl) ?_
                    exact W.iret (v := x3) hx hb hr (fun t ht hW => ⟨⟨x3, O9, rfl, pair_eq hv, pw ht hP⟩, hS.F ht⟩) hS.2.2 dX8_goRevise_161 (hlocks := hlocks)
                  · have hv := (if_neg c103).symm.trans hv
                    have f2 : vp_in x4 24 := cnt_in (by rw [show O9 (1 : Int32).toNatClampNeg = r 1 from i1]; exact hv0.2.1.2) i0 c103
                    refine lv_aload_n hx hb dX8_goRevise_106 rfl (lv_at hl 0 rfl) ?_
                    refine lv_sipush (v := 150) hx hb dX8_goRevise_107 (by decide) ?_
                    refine lv_iload hx hb dX8_goRevise_110 (lv_at hl 4 rfl) ?_
                    refine lv_iadd hx hb dX8_goRevise_112 ?_
                    refine va_iald (cA := cs 0) (n := 414) (f := O9) hx hb hK hP 0 0 rfl rfl (vp_off (K := 150) rfl (by assumption) (by decide) (by decide)) dX8_goRevise_113 ?_
                    refine lv_iload_n hx hb dX8_goRevise_114 rfl (lv_at hl 1 rfl) ?_
                    refine lv_icmp_ne (tgt := 154) hx hb dX8_goRevise_115 (by decide) (fun c115 => ?_) (fun c115 => ?_)
                    · have hv := (if_neg c115).symm.trans hv
                      refine lv_iinc (v := x4 + 1) (lv' := [(4, .int (x4 + 1)), (0, .ref q), (1, .int p1), (2, .int p2), (3, .int x3)]) hx hb dX8_goRevise_154 hl (k := 4) rfl rfl (by decide) rfl (fun ls hl => ?_)
                      refine lv_goto (tgt := 98) hx hb dX8_goRevise_157 (by decide) ?_
                      exact ih x3 (x4 + 1) O9 (upM_s (rev_6 i1 c103) hm) (nn_inc i0 c103) (by first | exact i1 | exact rev_5 i1 (cnt_in (by rw [show O9 (1 : Int32).toNatClampNeg = r 1 from i1]; exact hv0.2.1.2) i0 c103)) hv _ _ hP hS ls (lv_sub hl [1, 2, 3, 4, 0] rfl)
                    · have hv := (if_pos c115).symm.trans hv
                      refine lv_aload_n hx hb dX8_goRevise_118 rfl (lv_at hl 0 rfl) ?_
                      refine lv_iload hx hb dX8_goRevise_119 (lv_at hl 4 rfl) ?_
                      refine ro_i (b2i (sX8_isOut O9 x4)) (run_c (va_runS (As := [.ref q, .int x4]) (rest := []) ⟨hx, hb, hml, hown, hts⟩ (c_X8_isOut l D cs q O9 x4) (cwS 2 hts (good_S w_ml_X8_70 w_st_X8_isOut w_in_X8 w_co_X8_isOut) rfl rfl rfl ⟨rfl, hd_X8_isOut⟩ ⟨Nat.le_of_ble_eq_true rfl, Nat.le_of_ble_eq_true rfl⟩) (pe_S hP hE) rfl rfl hl.1 rfl (lv_room (Nat.le_of_ble_eq_true rfl)) dX8_goRevise_121 ⟨Nat.zero_le _, Nat.zero_le _⟩)) ?_
                      refine lv_if_eq (tgt := 154) hx hb dX8_goRevise_124 (by decide) (fun c124 => ?_) (fun c124 => ?_)
                      · have c124 := b2i_f c124
                        have hv := (if_neg c124).symm.trans hv
                        refine lv_iinc (v := x4 + 1) (lv' := [(4, .int (x4 + 1)), (0, .ref q), (1, .int p1), (2, .int p2), (3, .int x3)]) hx hb dX8_goRevise_154 hl (k := 4) rfl rfl (by decide) rfl (fun ls hl => ?_)
                        refine lv_goto (tgt := 98) hx hb dX8_goRevise_157 (by decide) ?_
                        exact ih x3 (x4 + 1) O9 (upM_s (rev_6 i1 c103) hm) (nn_inc i0 c103) (by first | exact i1 | exact rev_5 i1 (cnt_in (by rw [show O9 (1 : Int32).toNatClampNeg = r 1 from i1]; exact hv0.2.1.2) i0 c103)) hv _ _ hP hS ls (lv_sub hl [1, 2, 3, 4, 0] rfl)
                      · have c124 := b2i_t c124
                        have hv := (if_pos c124).symm.trans hv
                        refine lv_aload_n hx hb dX8_goRevise_127 rfl (lv_at hl 0 rfl) ?_
                        refine lv_iload hx hb dX8_goRevise_128 (lv_at hl 4 rfl) ?_
                        refine ro_i (b2i (sX8_isRecalled O9 x4)) (run_c (va_runS (As := [.ref q, .int x4]) (rest := []) ⟨hx, hb, hml, hown, hts⟩ (c_X8_isRecalled l D cs q O9 x4 f2) (cwS 2 hts (good_S w_ml_X8_74 w_st_X8_isRecalled w_in_X8 w_co_X8_isRecalled) rfl rfl rfl ⟨rfl, hd_X8_isRecalled⟩ ⟨Nat.le_of_ble_eq_true rfl, Nat.le_of_ble_eq_true rfl⟩) (pe_S hP hE) rfl rfl hl.1 rfl (lv_room (Nat.le_of_ble_eq_true rfl)) dX8_goRevise_130 ⟨Nat.zero_le _, Nat.zero_le _⟩)) ?_
                        refine lv_if_ne (tgt := 154) hx hb dX8_goRevise_133 (by decide) (fun c133 => ?_) (fun c133 => ?_)
                        · have c133 := b2i_t c133
                          have hv := (if_pos c133).symm.trans hv
                          refine lv_iinc (v := x4 + 1) (lv' := [(4, .int (x4 + 1)), (0, .ref q), (1, .int p1), (2, .int p2), (3, .int x3)]) hx hb dX8_goRevise_154 hl (k := 4) rfl rfl (by decide) rfl (fun ls hl => ?_)
                          refine lv_goto (tgt := 98) hx hb dX8_goRevise_157 (by decide) ?_
                          exact ih x3 (x4 + 1) O9 (upM_s (rev_6 i1 c103) hm) (nn_inc i0 c103) (by first | exact i1 | exact rev_5 i1 (cnt_in (by rw [show O9 (1 : Int32).toNatClampNeg = r 1 from i1]; exact hv0.2.1.2) i0 c103)) hv _ _ hP hS ls (lv_sub hl [1, 2, 3, 4, 0] rfl)
                        · have c133 := b2i_f c133
                          have hv := (if_neg c133).symm.trans hv
                          refine lv_aload_n hx hb dX8_goRevise_136 rfl (lv_at hl 0 rfl) ?_
                          refine lv_sipush (v := 270) hx hb dX8_goRevise_137 (by decide) ?_
                          refine lv_iload hx hb dX8_goRevise_140 (lv_at hl 4 rfl) ?_
                          refine lv_iadd hx hb dX8_goRevise_142 ?_
                          refine lv_aload_n hx hb dX8_goRevise_143 rfl (lv_at hl 0 rfl) ?_
                          refine lv_iconst (v := 3) hx hb dX8_goRevise_144 (by decide) ?_
                          refine va_iald (cA := cs 0) (n := 414) (f := O9) hx hb hK hP 0 0 rfl rfl (by unfold vp_in; decide) dX8_goRevise_145 ?_
                          refine lv_aload_n hx hb dX8_goRevise_146 rfl (lv_at hl 0 rfl) ?_
                          refine lv_iconst (v := 5) hx hb dX8_goRevise_147 (by decide) ?_
                          refine va_iald (cA := cs 0) (n := 414) (f := O9) hx hb hK hP 0 0 rfl rfl (by unfold vp_in; decide) dX8_goRevise_148 ?_
                          refine lv_iadd hx hb dX8_goRevise_149 ?_
                          refine va_iast (cA := cs 0) (n := 414) (f := O9) hx hb hK hP (row_D cs q O9) hS 0 0 rfl rfl (vp_off (K := 270) rfl (by assumption) (by decide) (by decide)) dX8_goRevise_150 (fun H locs hP _ hS => ?_)
                          have hP : va_P D vwC (rowW cs q (upd O9 (270 + x4).toNatClampNeg ((O9 (3 : Int32).toNatClampNeg) + (O9 (5 : Int32).toNatClampNeg)))) H := hP
                          refine lv_iinc (v := x3 + 1) (lv' := [(3, .int (x3 + 1)), (0, .ref q), (1, .int p1), (2, .int p2), (4, .int x4)]) hx hb dX8_goRevise_151 hl (k := 3) rfl rfl (by decide) rfl (fun ls hl => ?_)
                          refine lv_iinc (v := x4 + 1) (lv' := [(4, .int (x4 + 1)), (3, .int (x3 + 1)), (0, .ref q), (1, .int p1), (2, .int p2)]) hx hb dX8_goRevise_154 hl (k := 4) rfl rfl (by decide) rfl (fun ls hl => ?_)
                          refine lv_goto (tgt := 98) hx hb dX8_goRevise_157 (by decide) ?_
                          exact ih (x3 + 1) (x4 + 1) (upd O9 (270 + x4).toNatClampNeg ((O9 (3 : Int32).toNatClampNeg) + (O9 (5 : Int32).toNatClampNeg))) (upM_s (rev_6 i1 c103) hm) (nn_inc i0 c103) (by first | exact i1 | exact rev_5 i1 (cnt_in (by rw [show O9 (1 : Int32).toNatClampNeg = r 1 from i1]; exact hv0.2.1.2) i0 c103)) hv _ _ hP hS ls (lv_sub hl [2, 3, 4, 1, 0] rfl)
              exact LOOP _ 0 0 O9 (Nat.lt_succ_self _) (by decide) (i1 1 (by decide) (by decide)) hv _ _ hP hS ls (lv_sub hl [2, 3, 4, 1, 0] rfl)
            · have hv := (if_neg c70).symm.trans hv
              have f2 := (i0.s c70).v hv0
              refine lv_aload_n hx hb dX8_goRevise_73 rfl (lv_at hl 0 rfl) ?_
              refine lv_bipush (v := 8) hx hb dX8_goRevise_74 (by decide) ?_
              refine lv_dup2_11 hx hb dX8_goRevise_76 rfl rfl ?_
              refine va_iald (cA := cs 0) (n := 414) (f := O9) hx hb hK hP 0 0 rfl rfl (by unfold vp_in; decide) dX8_goRevise_77 ?_
              refine lv_iconst (v := 1) hx hb dX8_goRevise_78 (by decide) ?_
              refine lv_iload_n hx hb dX8_goRevise_79 rfl (lv_at hl 3 rfl) ?_
              refine lv_ishl hx hb dX8_goRevise_80 ?_
              refine lv_ior hx hb dX8_goRevise_81 ?_
              refine va_iast (cA := cs 0) (n := 414) (f := O9) hx hb hK hP (row_D cs q O9) hS 0 0 rfl rfl (by unfold vp_in; decide) dX8_goRevise_82 (fun H locs hP _ hS => ?_)
              have hP : va_P D vwC (rowW cs q (upd O9 (8 : Int32).toNatClampNeg ((O9 (8 : Int32).toNatClampNeg) ||| (1 <<< (x3 &&& 31))))) H := hP
              refine lv_aload_n hx hb dX8_goRevise_83 rfl (lv_at hl 0 rfl) ?_
              refine lv_bipush (v := 10) hx hb dX8_goRevise_84 (by decide) ?_
              refine lv_iload_n hx hb dX8_goRevise_86 rfl (lv_at hl 3 rfl) ?_
              refine lv_iadd hx hb dX8_goRevise_87 ?_
              refine va_iald (cA := cs 0) (n := 414) (f := (upd O9 (8 : Int32).toNatClampNeg ((O9 (8 : Int32).toNatClampNeg) ||| (1 <<< (x3 &&& 31))))) hx hb hK hP 0 0 rfl rfl (vp_off (K := 10) rfl (by assumption) (by decide) (by decide)) dX8_goRevise_88 ?_
              refine lv_istore_n (lv' := [(3, .int ((upd O9 (8 : Int32).toNatClampNeg ((O9 (8 : Int32).toNatClampNeg) ||| (1 <<< (x3 &&& 31)))) (10 + x3).toNatClampNeg)), (0, .ref q), (1, .int p1), (2, .int p2)]) hx hb dX8_goRevise_89 rfl hl (by decide) rfl (fun ls hl => ?_)
              refine lv_goto (tgt := 68) hx hb dX8_goRevise_90 (by decide) ?_
              exact ih ((upd O9 (8 : Int32).toNatClampNeg ((O9 (8 : Int32).toNatClampNeg) ||| (1 <<< (x3 &&& 31)))) (10 + x3).toNatClampNeg) (upd O9 (8 : Int32).toNatClampNeg ((O9 (8 : Int32).toNatClampNeg) ||| (1 <<< (x3 &&& 31)))) (rev_dn hv0 i1 (i0.s c70) hm) (rev_up hv0 i1 (i0.s c70)) (rev_4 i1) hv _ _ hP hS ls (lv_sub hl [1, 2, 3, 0] rfl)
        exact LOOP _ ((upd O9 (8 : Int32).toNatClampNeg ((O9 (8 : Int32).toNatClampNeg) &&& ((1 <<< (p1 &&& 31)) ^^^ (-1)))) (10 + p1).toNatClampNeg) (upd O9 (8 : Int32).toNatClampNeg ((O9 (8 : Int32).toNatClampNeg) &&& ((1 <<< (p1 &&& 31)) ^^^ (-1)))) (Nat.lt_succ_self _) (rev_0 hv0 h1 i1) (rev_3 i1) hv _ _ hP hS ls (lv_sub hl [1, 2, 3, 0] rfl)
      · have hv := (if_neg c15).symm.trans hv
        refine lv_iload_n hx hb dX8_goRevise_18 rfl (lv_at hl 2 rfl) ?_
        refine lv_iload_n hx hb dX8_goRevise_19 rfl (lv_at hl 3 rfl) ?_
        refine ro_i (b2i (sX8_has p2 x3)) (run_c (va_runS (As := [.int p2, .int x3]) (rest := []) ⟨hx, hb, hml, hown, hts⟩ (c_X8_has l D cs p2 x3) (cwS 2 hts (good_S w_ml_X8_66 w_st_X8_has w_in_X8 w_co_X8_has) rfl rfl rfl ⟨rfl, hd_X8_has⟩ ⟨Nat.le_of_ble_eq_true rfl, Nat.le_of_ble_eq_true rfl⟩) (pe_S (p_nil D _) hE) rfl rfl hl.1 rfl (lv_room (Nat.le_of_ble_eq_true rfl)) dX8_goRevise_20 ⟨Nat.zero_le _, Nat.zero_le _⟩)) ?_
        refine lv_if_eq (tgt := 43) hx hb dX8_goRevise_23 (by decide) (fun c23 => ?_) (fun c23 => ?_)
        · have c23 := b2i_f c23
          have hv := (if_neg c23).symm.trans hv
          refine lv_iinc (v := x3 + 1) (lv' := [(3, .int (x3 + 1)), (0, .ref q), (1, .int p1), (2, .int p2)]) hx hb dX8_goRevise_43 hl (k := 3) rfl rfl (by decide) rfl (fun ls hl => ?_)
          refine lv_goto (tgt := 12) hx hb dX8_goRevise_46 (by decide) ?_
          exact ih (x3 + 1) O9 (upM_s c15 hm) (nn_inc i0 c15) (by first | exact i1 | exact rev_2 i1 f1 (vp_a rfl i0 c15)) hv _ _ hP hS ls (lv_sub hl [1, 2, 3, 0] rfl)
        · have c23 := b2i_t c23
          have hv := (if_pos c23).symm.trans hv
          refine lv_aload_n hx hb dX8_goRevise_26 rfl (lv_at hl 0 rfl) ?_
          refine lv_bipush (v := 30) hx hb dX8_goRevise_27 (by decide) ?_
          refine lv_bipush (v := 12) hx hb dX8_goRevise_29 (by decide) ?_
          refine lv_iload_n hx hb dX8_goRevise_31 rfl (lv_at hl 1 rfl) ?_
          refine lv_imul hx hb dX8_goRevise_32 ?_
          refine lv_iadd hx hb dX8_goRevise_33 ?_
          refine lv_iload_n hx hb dX8_goRevise_34 rfl (lv_at hl 3 rfl) ?_
          refine lv_iadd hx hb dX8_goRevise_35 ?_
          refine lv_aload_n hx hb dX8_goRevise_36 rfl (lv_at hl 0 rfl) ?_
          refine lv_bipush (v := 20) hx hb dX8_goRevise_37 (by decide) ?_
          refine lv_iload_n hx hb dX8_goRevise_39 rfl (lv_at hl 1 rfl) ?_
          refine lv_iadd hx hb dX8_goRevise_40 ?_
          refine va_iald (cA := cs 0) (n := 414) (f := O9) hx hb hK hP 0 0 rfl rfl (vp_off (K := 20) rfl (by assumption) (by decide) (by decide)) dX8_goRevise_41 ?_
          refine va_iast (cA := cs 0) (n := 414) (f := O9) hx hb hK hP (row_D cs q O9) hS 0 0 rfl rfl (dr2 f1 (vp_a rfl i0 c15)) dX8_goRevise_42 (fun H locs hP _ hS => ?_)
          have hP : va_P D vwC (rowW cs q (upd O9 ((30 + (12 * p1)) + x3).toNatClampNeg (O9 (20 + p1).toNatClampNeg))) H := hP
          refine lv_iinc (v := x3 + 1) (lv' := [(3, .int (x3 + 1)), (0, .ref q), (1, .int p1), (2, .int p2)]) hx hb dX8_goRevise_43 hl (k := 3) rfl rfl (by decide) rfl (fun ls hl => ?_)
          refine lv_goto (tgt := 12) hx hb dX8_goRevise_46 (by decide) ?_
          exact ih (x3 + 1) (upd O9 ((30 + (12 * p1)) + x3).toNatClampNeg (O9 (20 + p1).toNatClampNeg)) (upM_s c15 hm) (nn_inc i0 c15) (by first | exact i1 | exact rev_2 i1 f1 (vp_a rfl i0 c15)) hv _ _ hP hS ls (lv_sub hl [1, 2, 3, 0] rfl)
  exact LOOP _ 0 (upd r (20 + p1).toNatClampNeg ((r (20 + p1).toNatClampNeg) + 1)) (Nat.lt_succ_self _) (by decide) (rev_1 f1) hv _ _ hP hS ls (lv_sub hl [1, 2, 3, 0] rfl)
theorem hd_X8_goCheck : yX8_goCheck.cls ≠ "java/lang/invoke/MethodHandle" ∧ yX8_goCheck.cls ≠ "java/lang/invoke/VarHandle" ∧ (parseMethodDescriptor yX8_goCheck.desc).map (fun d => d.parameters.length) = some 2 := by decide +kernel
def sX8_goCheck (r : Nat → Int32) (p1 : Int32) : Int32 × (Nat → Int32) := (sX8_many ((upd r (8 : Int32).toNatClampNeg ((r (8 : Int32).toNatClampNeg) &&& ((1 <<< (p1 &&& 31)) ^^^ (-1)))) (8 : Int32).toNatClampNeg), (upd r (8 : Int32).toNatClampNeg ((r (8 : Int32).toNatClampNeg) &&& ((1 <<< (p1 &&& 31)) ^^^ (-1)))))
set_option maxHeartbeats 4000000 in
set_option maxRecDepth 100000 in
theorem c_X8_goCheck (l : Launch) (D : va_G) (cs : Nat → ClassId) (q : Nat) (r : Nat → Int32) (p1 : Int32) : Met l yX8_goCheck (wc yX8_goCheck cX8_goCheck 2 (some .int)) ({ frames := 1, cells := 0, slots := 0, locals := 22 } : Room) (va_Pc [.ref q, .int p1] (PE D cs (rowW cs q r))) (va_Qi (fun (r9 : Int32) (u : (Nat → Int32)) => r9 = (sX8_goCheck r p1).1 ∧ u = (sX8_goCheck r p1).2) (fun u t => va_P D vwC (rowW cs q u) t.heap) (rA q)) 0 0 (rA q) := by
  obtain ⟨v, hv⟩ : ∃ v, sX8_goCheck r p1 = v := ⟨_, rfl⟩
  rw [hv]
  refine met_o (lv := [(0, .ref q), (1, .int p1)]) (by decide) (Nat.le_of_ble_eq_true rfl) rfl ?_
  intro p e s m args below meth c ls hx hb hr hml hts hown hlocks hin hP hE hl
  have hown : s.vm.findClass RX8 = some m.cls := hown
  have hK := hE.1
  have hP : va_P D vwC (rowW cs q r) s.heap := hP
  have hS : va_S (rA q) s.heap s.heap [] := va_S.rf
  unfold sX8_goCheck at hv
  refine lv_aload_n hx hb dX8_goCheck_0 rfl (lv_at hl 0 rfl) ?_
  refine lv_bipush (v := 8) hx hb dX8_goCheck_1 (by decide) ?_
  refine lv_dup2_11 hx hb dX8_goCheck_3 rfl rfl ?_
  refine va_iald (cA := cs 0) (n := 414) (f := r) hx hb hK hP 0 0 rfl rfl (by unfold vp_in; decide) dX8_goCheck_4 ?_
  refine lv_iconst (v := 1) hx hb dX8_goCheck_5 (by decide) ?_
  refine lv_iload_n hx hb dX8_goCheck_6 rfl (lv_at hl 1 rfl) ?_
  refine lv_ishl hx hb dX8_goCheck_7 ?_
  refine lv_iconst (v := (-1)) hx hb dX8_goCheck_8 (by decide) ?_
  refine lv_ixor hx hb dX8_goCheck_9 ?_
  refine lv_iand hx hb dX8_goCheck_10 ?_
  refine va_iast (cA := cs 0) (n := 414) (f := r) hx hb hK hP (row_D cs q r) hS 0 0 rfl rfl (by unfold vp_in; decide) dX8_goCheck_11 (fun H locs hP _ hS => ?_)
  have hP : va_P D vwC (rowW cs q (upd r (8 : Int32).toNatClampNeg ((r (8 : Int32).toNatClampNeg) &&& ((1 <<< (p1 &&& 31)) ^^^ (-1))))) H := hP
  refine lv_aload_n hx hb dX8_goCheck_12 rfl (lv_at hl 0 rfl) ?_
  refine lv_bipush (v := 8) hx hb dX8_goCheck_13 (by decide) ?_
  refine va_iald (cA := cs 0) (n := 414) (f := (upd r (8 : Int32).toNatClampNeg ((r (8 : Int32).toNatClampNeg) &&& ((1 <<< (p1 &&& 31)) ^^^ (-1))))) hx hb hK hP 0 0 rfl rfl (by unfold vp_in; decide) dX8_goCheck_15 ?_
  refine ro_i (sX8_many ((upd r (8 : Int32).toNatClampNeg ((r (8 : Int32).toNatClampNeg) &&& ((1 <<< (p1 &&& 31)) ^^^ (-1)))) (8 : Int32).toNatClampNeg)) (run_c (va_runS (As := [.int ((upd r (8 : Int32).toNatClampNeg ((r (8 : Int32).toNatClampNeg) &&& ((1 <<< (p1 &&& 31)) ^^^ (-1)))) (8 : Int32).toNatClampNeg)]) (rest := []) ⟨hx, hb, hml, hown, hts⟩ (c_X8_many l D cs ((upd r (8 : Int32).toNatClampNeg ((r (8 : Int32).toNatClampNeg) &&& ((1 <<< (p1 &&& 31)) ^^^ (-1)))) (8 : Int32).toNatClampNeg)) (cwS 1 hts (good_S w_ml_X8_77 w_st_X8_many w_in_X8 w_co_X8_many) rfl rfl rfl ⟨rfl, hd_X8_many⟩ ⟨Nat.le_of_ble_eq_true rfl, Nat.le_of_ble_eq_true rfl⟩) (pe_S (p_nil D _) hE) rfl rfl hl.1 rfl (lv_room (Nat.le_of_ble_eq_true rfl)) dX8_goCheck_16 ⟨Nat.zero_le _, Nat.zero_le _⟩)) ?_
  exact W.iret (v := sX8_many ((upd r (8 : Int32).toNatClampNeg ((r (8 : Int32).toNatClampNeg) &&& ((1 <<< (p1 &&& 31)) ^^^ (-1)))) (8 : Int32).toNatClampNeg)) hx hb hr (fun t ht hW => ⟨⟨sX8_many ((upd r (8 : Int32).toNatClampNeg ((r (8 : Int32).toNatClampNeg) &&& ((1 <<< (p1 &&& 31)) ^^^ (-1)))) (8 : Int32).toNatClampNeg), (upd r (8 : Int32).toNatClampNeg ((r (8 : Int32).toNatClampNeg) &&& ((1 <<< (p1 &&& 31)) ^^^ (-1)))), rfl, pair_eq hv, pw ht hP⟩, hS.F ht⟩) hS.2.2 dX8_goCheck_19 (hlocks := hlocks)
theorem hd_X8_goPrint : yX8_goPrint.cls ≠ "java/lang/invoke/MethodHandle" ∧ yX8_goPrint.cls ≠ "java/lang/invoke/VarHandle" ∧ (parseMethodDescriptor yX8_goPrint.desc).map (fun d => d.parameters.length) = some 3 := by decide +kernel
def sX8_goPrint (r : Nat → Int32) (p1 : Int32) (p2 : Int32) : Int32 × (Nat → Int32) := (r (1 : Int32).toNatClampNeg, (upd (upd (upd (upd (upd (upd (upd (upd r (150 + (r (1 : Int32).toNatClampNeg)).toNatClampNeg p1) (174 + (r (1 : Int32).toNatClampNeg)).toNatClampNeg ((upd r (150 + (r (1 : Int32).toNatClampNeg)).toNatClampNeg p1) (20 + p1).toNatClampNeg)) (198 + (r (1 : Int32).toNatClampNeg)).toNatClampNeg p2) (222 + (r (1 : Int32).toNatClampNeg)).toNatClampNeg ((upd (upd (upd r (150 + (r (1 : Int32).toNatClampNeg)).toNatClampNeg p1) (174 + (r (1 : Int32).toNatClampNeg)).toNatClampNeg ((upd r (150 + (r (1 : Int32).toNatClampNeg)).toNatClampNeg p1) (20 + p1).toNatClampNeg)) (198 + (r (1 : Int32).toNatClampNeg)).toNatClampNeg p2) (3 : Int32).toNatClampNeg)) (246 + (r (1 : Int32).toNatClampNeg)).toNatClampNeg 0) (270 + (r (1 : Int32).toNatClampNeg)).toNatClampNeg (-1)) (9 : Int32).toNatClampNeg (((upd (upd (upd (upd (upd (upd r (150 + (r (1 : Int32).toNatClampNeg)).toNatClampNeg p1) (174 + (r (1 : Int32).toNatClampNeg)).toNatClampNeg ((upd r (150 + (r (1 : Int32).toNatClampNeg)).toNatClampNeg p1) (20 + p1).toNatClampNeg)) (198 + (r (1 : Int32).toNatClampNeg)).toNatClampNeg p2) (222 + (r (1 : Int32).toNatClampNeg)).toNatClampNeg ((upd (upd (upd r (150 + (r (1 : Int32).toNatClampNeg)).toNatClampNeg p1) (174 + (r (1 : Int32).toNatClampNeg)).toNatClampNeg ((upd r (150 + (r (1 : Int32).toNatClampNeg)).toNatClampNeg p1) (20 + p1).toNatClampNeg)) (198 + (r (1 : Int32).toNatClampNeg)).toNatClampNeg p2) (3 : Int32).toNatClampNeg)) (246 + (r (1 : Int32).toNatClampNeg)).toNatClampNeg 0) (270 + (r (1 : Int32).toNatClampNeg)).toNatClampNeg (-1)) (9 : Int32).toNatClampNeg) ||| (1 <<< ((r (1 : Int32).toNatClampNeg) &&& 31)))) (1 : Int32).toNatClampNeg (((upd (upd (upd (upd (upd (upd (upd r (150 + (r (1 : Int32).toNatClampNeg)).toNatClampNeg p1) (174 + (r (1 : Int32).toNatClampNeg)).toNatClampNeg ((upd r (150 + (r (1 : Int32).toNatClampNeg)).toNatClampNeg p1) (20 + p1).toNatClampNeg)) (198 + (r (1 : Int32).toNatClampNeg)).toNatClampNeg p2) (222 + (r (1 : Int32).toNatClampNeg)).toNatClampNeg ((upd (upd (upd r (150 + (r (1 : Int32).toNatClampNeg)).toNatClampNeg p1) (174 + (r (1 : Int32).toNatClampNeg)).toNatClampNeg ((upd r (150 + (r (1 : Int32).toNatClampNeg)).toNatClampNeg p1) (20 + p1).toNatClampNeg)) (198 + (r (1 : Int32).toNatClampNeg)).toNatClampNeg p2) (3 : Int32).toNatClampNeg)) (246 + (r (1 : Int32).toNatClampNeg)).toNatClampNeg 0) (270 + (r (1 : Int32).toNatClampNeg)).toNatClampNeg (-1)) (9 : Int32).toNatClampNeg (((upd (upd (upd (upd (upd (upd r (150 + (r (1 : Int32).toNatClampNeg)).toNatClampNeg p1) (174 + (r (1 : Int32).toNatClampNeg)).toNatClampNeg ((upd r (150 + (r (1 : Int32).toNatClampNeg)).toNatClampNeg p1) (20 + p1).toNatClampNeg)) (198 + (r (1 : Int32).toNatClampNeg)).toNatClampNeg p2) (222 + (r (1 : Int32).toNatClampNeg)).toNatClampNeg ((upd (upd (upd r (150 + (r (1 : Int32).toNatClampNeg)).toNatClampNeg p1) (174 + (r (1 : Int32).toNatClampNeg)).toNatClampNeg ((upd r (150 + (r (1 : Int32).toNatClampNeg)).toNatClampNeg p1) (20 + p1).toNatClampNeg)) (198 + (r (1 : Int32).toNatClampNeg)).toNatClampNeg p2) (3 : Int32).toNatClampNeg)) (246 + (r (1 : Int32).toNatClampNeg)).toNatClampNeg 0) (270 + (r (1 : Int32).toNatClampNeg)).toNatClampNeg (-1)) (9 : Int32).toNatClampNeg) ||| (1 <<< ((r (1 : Int32).toNatClampNeg) &&& 31)))) (1 : Int32).toNatClampNeg) + 1)))
set_option maxHeartbeats 4000000 in
set_option maxRecDepth 100000 in
theorem c_X8_goPrint (l : Launch) (D : va_G) (cs : Nat → ClassId) (q : Nat) (r : Nat → Int32) (p1 : Int32) (p2 : Int32) (h0 : vp_in (r 1) 24) (h1 : vp_in p1 10) : Met l yX8_goPrint (wc yX8_goPrint cX8_goPrint 4 (some .int)) ({ frames := 0, cells := 0, slots := 0, locals := 0 } : Room) (va_Pc [.ref q, .int p1, .int p2] (PE D cs (rowW cs q r))) (va_Qi (fun (r9 : Int32) (u : (Nat → Int32)) => r9 = (sX8_goPrint r p1 p2).1 ∧ u = (sX8_goPrint r p1 p2).2) (fun u t => va_P D vwC (rowW cs q u) t.heap) (rA q)) 0 0 (rA q) := by
  obtain ⟨v, hv⟩ : ∃ v, sX8_goPrint r p1 p2 = v := ⟨_, rfl⟩
  rw [hv]
  refine met_o (lv := [(0, .ref q), (1, .int p1), (2, .int p2)]) (by decide) (Nat.le_of_ble_eq_true rfl) rfl ?_
  intro p e s m args below meth c ls hx hb hr hml hts hown hlocks hin hP hE hl
  have hown : s.vm.findClass RX8 = some m.cls := hown
  have hK := hE.1
  have hP : va_P D vwC (rowW cs q r) s.heap := hP
  have hS : va_S (rA q) s.heap s.heap [] := va_S.rf
  unfold sX8_goPrint at hv
  refine lv_aload_n hx hb dX8_goPrint_0 rfl (lv_at hl 0 rfl) ?_
  refine lv_iconst (v := 1) hx hb dX8_goPrint_1 (by decide) ?_
  refine va_iald (cA := cs 0) (n := 414) (f := r) hx hb hK hP 0 0 rfl rfl (by unfold vp_in; decide) dX8_goPrint_2 ?_
  refine lv_istore_n (lv' := [(3, .int (r (1 : Int32).toNatClampNeg)), (0, .ref q), (1, .int p1), (2, .int p2)]) hx hb dX8_goPrint_3 rfl hl (by decide) rfl (fun ls hl => ?_)
  have h2 : vp_in (r (1 : Int32).toNatClampNeg) 24 := h0
  refine lv_aload_n hx hb dX8_goPrint_4 rfl (lv_at hl 1 rfl) ?_
  refine lv_sipush (v := 150) hx hb dX8_goPrint_5 (by decide) ?_
  refine lv_iload_n hx hb dX8_goPrint_8 rfl (lv_at hl 0 rfl) ?_
  refine lv_iadd hx hb dX8_goPrint_9 ?_
  refine lv_iload_n hx hb dX8_goPrint_10 rfl (lv_at hl 2 rfl) ?_
  refine va_iast (cA := cs 0) (n := 414) (f := r) hx hb hK hP (row_D cs q r) hS 0 0 rfl rfl (vp_off (K := 150) rfl (by assumption) (by decide) (by decide)) dX8_goPrint_11 (fun H locs hP _ hS => ?_)
  have hP : va_P D vwC (rowW cs q (upd r (150 + (r (1 : Int32).toNatClampNeg)).toNatClampNeg p1)) H := hP
  refine lv_aload_n hx hb dX8_goPrint_12 rfl (lv_at hl 1 rfl) ?_
  refine lv_sipush (v := 174) hx hb dX8_goPrint_13 (by decide) ?_
  refine lv_iload_n hx hb dX8_goPrint_16 rfl (lv_at hl 0 rfl) ?_
  refine lv_iadd hx hb dX8_goPrint_17 ?_
  refine lv_aload_n hx hb dX8_goPrint_18 rfl (lv_at hl 1 rfl) ?_
  refine lv_bipush (v := 20) hx hb dX8_goPrint_19 (by decide) ?_
  refine lv_iload_n hx hb dX8_goPrint_21 rfl (lv_at hl 2 rfl) ?_
  refine lv_iadd hx hb dX8_goPrint_22 ?_
  refine va_iald (cA := cs 0) (n := 414) (f := (upd r (150 + (r (1 : Int32).toNatClampNeg)).toNatClampNeg p1)) hx hb hK hP 0 0 rfl rfl (vp_off (K := 20) rfl (by assumption) (by decide) (by decide)) dX8_goPrint_23 ?_
  refine va_iast (cA := cs 0) (n := 414) (f := (upd r (150 + (r (1 : Int32).toNatClampNeg)).toNatClampNeg p1)) hx hb hK hP (row_D cs q (upd r (150 + (r (1 : Int32).toNatClampNeg)).toNatClampNeg p1)) hS 0 0 rfl rfl (vp_off (K := 174) rfl (by assumption) (by decide) (by decide)) dX8_goPrint_24 (fun H locs hP _ hS => ?_)
  have hP : va_P D vwC (rowW cs q (upd (upd r (150 + (r (1 : Int32).toNatClampNeg)).toNatClampNeg p1) (174 + (r (1 : Int32).toNatClampNeg)).toNatClampNeg ((upd r (150 + (r (1 : Int32).toNatClampNeg)).toNatClampNeg p1) (20 + p1).toNatClampNeg))) H := hP
  refine lv_aload_n hx hb dX8_goPrint_25 rfl (lv_at hl 1 rfl) ?_
  refine lv_sipush (v := 198) hx hb dX8_goPrint_26 (by decide) ?_
  refine lv_iload_n hx hb dX8_goPrint_29 rfl (lv_at hl 0 rfl) ?_
  refine lv_iadd hx hb dX8_goPrint_30 ?_
  refine lv_iload_n hx hb dX8_goPrint_31 rfl (lv_at hl 3 rfl) ?_
  refine va_iast (cA := cs 0) (n := 414) (f := (upd (upd r (150 + (r (1 : Int32).toNatClampNeg)).toNatClampNeg p1) (174 + (r (1 : Int32).toNatClampNeg)).toNatClampNeg ((upd r (150 + (r (1 : Int32).toNatClampNeg)).toNatClampNeg p1) (20 + p1).toNatClampNeg))) hx hb hK hP (row_D cs q (upd (upd r (150 + (r (1 : Int32).toNatClampNeg)).toNatClampNeg p1) (174 + (r (1 : Int32).toNatClampNeg)).toNatClampNeg ((upd r (150 + (r (1 : Int32).toNatClampNeg)).toNatClampNeg p1) (20 + p1).toNatClampNeg))) hS 0 0 rfl rfl (vp_off (K := 198) rfl (by assumption) (by decide) (by decide)) dX8_goPrint_32 (fun H locs hP _ hS => ?_)
  have hP : va_P D vwC (rowW cs q (upd (upd (upd r (150 + (r (1 : Int32).toNatClampNeg)).toNatClampNeg p1) (174 + (r (1 : Int32).toNatClampNeg)).toNatClampNeg ((upd r (150 + (r (1 : Int32).toNatClampNeg)).toNatClampNeg p1) (20 + p1).toNatClampNeg)) (198 + (r (1 : Int32).toNatClampNeg)).toNatClampNeg p2)) H := hP
  refine lv_aload_n hx hb dX8_goPrint_33 rfl (lv_at hl 1 rfl) ?_
  refine lv_sipush (v := 222) hx hb dX8_goPrint_34 (by decide) ?_
  refine lv_iload_n hx hb dX8_goPrint_37 rfl (lv_at hl 0 rfl) ?_
  refine lv_iadd hx hb dX8_goPrint_38 ?_
  refine lv_aload_n hx hb dX8_goPrint_39 rfl (lv_at hl 1 rfl) ?_
  refine lv_iconst (v := 3) hx hb dX8_goPrint_40 (by decide) ?_
  refine va_iald (cA := cs 0) (n := 414) (f := (upd (upd (upd r (150 + (r (1 : Int32).toNatClampNeg)).toNatClampNeg p1) (174 + (r (1 : Int32).toNatClampNeg)).toNatClampNeg ((upd r (150 + (r (1 : Int32).toNatClampNeg)).toNatClampNeg p1) (20 + p1).toNatClampNeg)) (198 + (r (1 : Int32).toNatClampNeg)).toNatClampNeg p2)) hx hb hK hP 0 0 rfl rfl (by unfold vp_in; decide) dX8_goPrint_41 ?_
  refine va_iast (cA := cs 0) (n := 414) (f := (upd (upd (upd r (150 + (r (1 : Int32).toNatClampNeg)).toNatClampNeg p1) (174 + (r (1 : Int32).toNatClampNeg)).toNatClampNeg ((upd r (150 + (r (1 : Int32).toNatClampNeg)).toNatClampNeg p1) (20 + p1).toNatClampNeg)) (198 + (r (1 : Int32).toNatClampNeg)).toNatClampNeg p2)) hx hb hK hP (row_D cs q (upd (upd (upd r (150 + (r (1 : Int32).toNatClampNeg)).toNatClampNeg p1) (174 + (r (1 : Int32).toNatClampNeg)).toNatClampNeg ((upd r (150 + (r (1 : Int32).toNatClampNeg)).toNatClampNeg p1) (20 + p1).toNatClampNeg)) (198 + (r (1 : Int32).toNatClampNeg)).toNatClampNeg p2)) hS 0 0 rfl rfl (vp_off (K := 222) rfl (by assumption) (by decide) (by decide)) dX8_goPrint_42 (fun H locs hP _ hS => ?_)
  have hP : va_P D vwC (rowW cs q (upd (upd (upd (upd r (150 + (r (1 : Int32).toNatClampNeg)).toNatClampNeg p1) (174 + (r (1 : Int32).toNatClampNeg)).toNatClampNeg ((upd r (150 + (r (1 : Int32).toNatClampNeg)).toNatClampNeg p1) (20 + p1).toNatClampNeg)) (198 + (r (1 : Int32).toNatClampNeg)).toNatClampNeg p2) (222 + (r (1 : Int32).toNatClampNeg)).toNatClampNeg ((upd (upd (upd r (150 + (r (1 : Int32).toNatClampNeg)).toNatClampNeg p1) (174 + (r (1 : Int32).toNatClampNeg)).toNatClampNeg ((upd r (150 + (r (1 : Int32).toNatClampNeg)).toNatClampNeg p1) (20 + p1).toNatClampNeg)) (198 + (r (1 : Int32).toNatClampNeg)).toNatClampNeg p2) (3 : Int32).toNatClampNeg))) H := hP
  refine lv_aload_n hx hb dX8_goPrint_43 rfl (lv_at hl 1 rfl) ?_
  refine lv_sipush (v := 246) hx hb dX8_goPrint_44 (by decide) ?_
  refine lv_iload_n hx hb dX8_goPrint_47 rfl (lv_at hl 0 rfl) ?_
  refine lv_iadd hx hb dX8_goPrint_48 ?_
  refine lv_iconst (v := 0) hx hb dX8_goPrint_49 (by decide) ?_
  refine va_iast (cA := cs 0) (n := 414) (f := (upd (upd (upd (upd r (150 + (r (1 : Int32).toNatClampNeg)).toNatClampNeg p1) (174 + (r (1 : Int32).toNatClampNeg)).toNatClampNeg ((upd r (150 + (r (1 : Int32).toNatClampNeg)).toNatClampNeg p1) (20 + p1).toNatClampNeg)) (198 + (r (1 : Int32).toNatClampNeg)).toNatClampNeg p2) (222 + (r (1 : Int32).toNatClampNeg)).toNatClampNeg ((upd (upd (upd r (150 + (r (1 : Int32).toNatClampNeg)).toNatClampNeg p1) (174 + (r (1 : Int32).toNatClampNeg)).toNatClampNeg ((upd r (150 + (r (1 : Int32).toNatClampNeg)).toNatClampNeg p1) (20 + p1).toNatClampNeg)) (198 + (r (1 : Int32).toNatClampNeg)).toNatClampNeg p2) (3 : Int32).toNatClampNeg))) hx hb hK hP (row_D cs q (upd (upd (upd (upd r (150 + (r (1 : Int32).toNatClampNeg)).toNatClampNeg p1) (174 + (r (1 : Int32).toNatClampNeg)).toNatClampNeg ((upd r (150 + (r (1 : Int32).toNatClampNeg)).toNatClampNeg p1) (20 + p1).toNatClampNeg)) (198 + (r (1 : Int32).toNatClampNeg)).toNatClampNeg p2) (222 + (r (1 : Int32).toNatClampNeg)).toNatClampNeg ((upd (upd (upd r (150 + (r (1 : Int32).toNatClampNeg)).toNatClampNeg p1) (174 + (r (1 : Int32).toNatClampNeg)).toNatClampNeg ((upd r (150 + (r (1 : Int32).toNatClampNeg)).toNatClampNeg p1) (20 + p1).toNatClampNeg)) (198 + (r (1 : Int32).toNatClampNeg)).toNatClampNeg p2) (3 : Int32).toNatClampNeg))) hS 0 0 rfl rfl (vp_off (K := 246) rfl (by assumption) (by decide) (by decide)) dX8_goPrint_50 (fun H locs hP _ hS => ?_)
  have hP : va_P D vwC (rowW cs q (upd (upd (upd (upd (upd r (150 + (r (1 : Int32).toNatClampNeg)).toNatClampNeg p1) (174 + (r (1 : Int32).toNatClampNeg)).toNatClampNeg ((upd r (150 + (r (1 : Int32).toNatClampNeg)).toNatClampNeg p1) (20 + p1).toNatClampNeg)) (198 + (r (1 : Int32).toNatClampNeg)).toNatClampNeg p2) (222 + (r (1 : Int32).toNatClampNeg)).toNatClampNeg ((upd (upd (upd r (150 + (r (1 : Int32).toNatClampNeg)).toNatClampNeg p1) (174 + (r (1 : Int32).toNatClampNeg)).toNatClampNeg ((upd r (150 + (r (1 : Int32).toNatClampNeg)).toNatClampNeg p1) (20 + p1).toNatClampNeg)) (198 + (r (1 : Int32).toNatClampNeg)).toNatClampNeg p2) (3 : Int32).toNatClampNeg)) (246 + (r (1 : Int32).toNatClampNeg)).toNatClampNeg 0)) H := hP
  refine lv_aload_n hx hb dX8_goPrint_51 rfl (lv_at hl 1 rfl) ?_
  refine lv_sipush (v := 270) hx hb dX8_goPrint_52 (by decide) ?_
  refine lv_iload_n hx hb dX8_goPrint_55 rfl (lv_at hl 0 rfl) ?_
  refine lv_iadd hx hb dX8_goPrint_56 ?_
  refine lv_iconst (v := (-1)) hx hb dX8_goPrint_57 (by decide) ?_
  refine va_iast (cA := cs 0) (n := 414) (f := (upd (upd (upd (upd (upd r (150 + (r (1 : Int32).toNatClampNeg)).toNatClampNeg p1) (174 + (r (1 : Int32).toNatClampNeg)).toNatClampNeg ((upd r (150 + (r (1 : Int32).toNatClampNeg)).toNatClampNeg p1) (20 + p1).toNatClampNeg)) (198 + (r (1 : Int32).toNatClampNeg)).toNatClampNeg p2) (222 + (r (1 : Int32).toNatClampNeg)).toNatClampNeg ((upd (upd (upd r (150 + (r (1 : Int32).toNatClampNeg)).toNatClampNeg p1) (174 + (r (1 : Int32).toNatClampNeg)).toNatClampNeg ((upd r (150 + (r (1 : Int32).toNatClampNeg)).toNatClampNeg p1) (20 + p1).toNatClampNeg)) (198 + (r (1 : Int32).toNatClampNeg)).toNatClampNeg p2) (3 : Int32).toNatClampNeg)) (246 + (r (1 : Int32).toNatClampNeg)).toNatClampNeg 0)) hx hb hK hP (row_D cs q (upd (upd (upd (upd (upd r (150 + (r (1 : Int32).toNatClampNeg)).toNatClampNeg p1) (174 + (r (1 : Int32).toNatClampNeg)).toNatClampNeg ((upd r (150 + (r (1 : Int32).toNatClampNeg)).toNatClampNeg p1) (20 + p1).toNatClampNeg)) (198 + (r (1 : Int32).toNatClampNeg)).toNatClampNeg p2) (222 + (r (1 : Int32).toNatClampNeg)).toNatClampNeg ((upd (upd (upd r (150 + (r (1 : Int32).toNatClampNeg)).toNatClampNeg p1) (174 + (r (1 : Int32).toNatClampNeg)).toNatClampNeg ((upd r (150 + (r (1 : Int32).toNatClampNeg)).toNatClampNeg p1) (20 + p1).toNatClampNeg)) (198 + (r (1 : Int32).toNatClampNeg)).toNatClampNeg p2) (3 : Int32).toNatClampNeg)) (246 + (r (1 : Int32).toNatClampNeg)).toNatClampNeg 0)) hS 0 0 rfl rfl (vp_off (K := 270) rfl (by assumption) (by decide) (by decide)) dX8_goPrint_58 (fun H locs hP _ hS => ?_)
  have hP : va_P D vwC (rowW cs q (upd (upd (upd (upd (upd (upd r (150 + (r (1 : Int32).toNatClampNeg)).toNatClampNeg p1) (174 + (r (1 : Int32).toNatClampNeg)).toNatClampNeg ((upd r (150 + (r (1 : Int32).toNatClampNeg)).toNatClampNeg p1) (20 + p1).toNatClampNeg)) (198 + (r (1 : Int32).toNatClampNeg)).toNatClampNeg p2) (222 + (r (1 : Int32).toNatClampNeg)).toNatClampNeg ((upd (upd (upd r (150 + (r (1 : Int32).toNatClampNeg)).toNatClampNeg p1) (174 + (r (1 : Int32).toNatClampNeg)).toNatClampNeg ((upd r (150 + (r (1 : Int32).toNatClampNeg)).toNatClampNeg p1) (20 + p1).toNatClampNeg)) (198 + (r (1 : Int32).toNatClampNeg)).toNatClampNeg p2) (3 : Int32).toNatClampNeg)) (246 + (r (1 : Int32).toNatClampNeg)).toNatClampNeg 0) (270 + (r (1 : Int32).toNatClampNeg)).toNatClampNeg (-1))) H := hP
  refine lv_aload_n hx hb dX8_goPrint_59 rfl (lv_at hl 1 rfl) ?_
  refine lv_bipush (v := 9) hx hb dX8_goPrint_60 (by decide) ?_
  refine lv_dup2_11 hx hb dX8_goPrint_62 rfl rfl ?_
  refine va_iald (cA := cs 0) (n := 414) (f := (upd (upd (upd (upd (upd (upd r (150 + (r (1 : Int32).toNatClampNeg)).toNatClampNeg p1) (174 + (r (1 : Int32).toNatClampNeg)).toNatClampNeg ((upd r (150 + (r (1 : Int32).toNatClampNeg)).toNatClampNeg p1) (20 + p1).toNatClampNeg)) (198 + (r (1 : Int32).toNatClampNeg)).toNatClampNeg p2) (222 + (r (1 : Int32).toNatClampNeg)).toNatClampNeg ((upd (upd (upd r (150 + (r (1 : Int32).toNatClampNeg)).toNatClampNeg p1) (174 + (r (1 : Int32).toNatClampNeg)).toNatClampNeg ((upd r (150 + (r (1 : Int32).toNatClampNeg)).toNatClampNeg p1) (20 + p1).toNatClampNeg)) (198 + (r (1 : Int32).toNatClampNeg)).toNatClampNeg p2) (3 : Int32).toNatClampNeg)) (246 + (r (1 : Int32).toNatClampNeg)).toNatClampNeg 0) (270 + (r (1 : Int32).toNatClampNeg)).toNatClampNeg (-1))) hx hb hK hP 0 0 rfl rfl (by unfold vp_in; decide) dX8_goPrint_63 ?_
  refine lv_iconst (v := 1) hx hb dX8_goPrint_64 (by decide) ?_
  refine lv_iload_n hx hb dX8_goPrint_65 rfl (lv_at hl 0 rfl) ?_
  refine lv_ishl hx hb dX8_goPrint_66 ?_
  refine lv_ior hx hb dX8_goPrint_67 ?_
  refine va_iast (cA := cs 0) (n := 414) (f := (upd (upd (upd (upd (upd (upd r (150 + (r (1 : Int32).toNatClampNeg)).toNatClampNeg p1) (174 + (r (1 : Int32).toNatClampNeg)).toNatClampNeg ((upd r (150 + (r (1 : Int32).toNatClampNeg)).toNatClampNeg p1) (20 + p1).toNatClampNeg)) (198 + (r (1 : Int32).toNatClampNeg)).toNatClampNeg p2) (222 + (r (1 : Int32).toNatClampNeg)).toNatClampNeg ((upd (upd (upd r (150 + (r (1 : Int32).toNatClampNeg)).toNatClampNeg p1) (174 + (r (1 : Int32).toNatClampNeg)).toNatClampNeg ((upd r (150 + (r (1 : Int32).toNatClampNeg)).toNatClampNeg p1) (20 + p1).toNatClampNeg)) (198 + (r (1 : Int32).toNatClampNeg)).toNatClampNeg p2) (3 : Int32).toNatClampNeg)) (246 + (r (1 : Int32).toNatClampNeg)).toNatClampNeg 0) (270 + (r (1 : Int32).toNatClampNeg)).toNatClampNeg (-1))) hx hb hK hP (row_D cs q (upd (upd (upd (upd (upd (upd r (150 + (r (1 : Int32).toNatClampNeg)).toNatClampNeg p1) (174 + (r (1 : Int32).toNatClampNeg)).toNatClampNeg ((upd r (150 + (r (1 : Int32).toNatClampNeg)).toNatClampNeg p1) (20 + p1).toNatClampNeg)) (198 + (r (1 : Int32).toNatClampNeg)).toNatClampNeg p2) (222 + (r (1 : Int32).toNatClampNeg)).toNatClampNeg ((upd (upd (upd r (150 + (r (1 : Int32).toNatClampNeg)).toNatClampNeg p1) (174 + (r (1 : Int32).toNatClampNeg)).toNatClampNeg ((upd r (150 + (r (1 : Int32).toNatClampNeg)).toNatClampNeg p1) (20 + p1).toNatClampNeg)) (198 + (r (1 : Int32).toNatClampNeg)).toNatClampNeg p2) (3 : Int32).toNatClampNeg)) (246 + (r (1 : Int32).toNatClampNeg)).toNatClampNeg 0) (270 + (r (1 : Int32).toNatClampNeg)).toNatClampNeg (-1))) hS 0 0 rfl rfl (by unfold vp_in; decide) dX8_goPrint_68 (fun H locs hP _ hS => ?_)
  have hP : va_P D vwC (rowW cs q (upd (upd (upd (upd (upd (upd (upd r (150 + (r (1 : Int32).toNatClampNeg)).toNatClampNeg p1) (174 + (r (1 : Int32).toNatClampNeg)).toNatClampNeg ((upd r (150 + (r (1 : Int32).toNatClampNeg)).toNatClampNeg p1) (20 + p1).toNatClampNeg)) (198 + (r (1 : Int32).toNatClampNeg)).toNatClampNeg p2) (222 + (r (1 : Int32).toNatClampNeg)).toNatClampNeg ((upd (upd (upd r (150 + (r (1 : Int32).toNatClampNeg)).toNatClampNeg p1) (174 + (r (1 : Int32).toNatClampNeg)).toNatClampNeg ((upd r (150 + (r (1 : Int32).toNatClampNeg)).toNatClampNeg p1) (20 + p1).toNatClampNeg)) (198 + (r (1 : Int32).toNatClampNeg)).toNatClampNeg p2) (3 : Int32).toNatClampNeg)) (246 + (r (1 : Int32).toNatClampNeg)).toNatClampNeg 0) (270 + (r (1 : Int32).toNatClampNeg)).toNatClampNeg (-1)) (9 : Int32).toNatClampNeg (((upd (upd (upd (upd (upd (upd r (150 + (r (1 : Int32).toNatClampNeg)).toNatClampNeg p1) (174 + (r (1 : Int32).toNatClampNeg)).toNatClampNeg ((upd r (150 + (r (1 : Int32).toNatClampNeg)).toNatClampNeg p1) (20 + p1).toNatClampNeg)) (198 + (r (1 : Int32).toNatClampNeg)).toNatClampNeg p2) (222 + (r (1 : Int32).toNatClampNeg)).toNatClampNeg ((upd (upd (upd r (150 + (r (1 : Int32).toNatClampNeg)).toNatClampNeg p1) (174 + (r (1 : Int32).toNatClampNeg)).toNatClampNeg ((upd r (150 + (r (1 : Int32).toNatClampNeg)).toNatClampNeg p1) (20 + p1).toNatClampNeg)) (198 + (r (1 : Int32).toNatClampNeg)).toNatClampNeg p2) (3 : Int32).toNatClampNeg)) (246 + (r (1 : Int32).toNatClampNeg)).toNatClampNeg 0) (270 + (r (1 : Int32).toNatClampNeg)).toNatClampNeg (-1)) (9 : Int32).toNatClampNeg) ||| (1 <<< ((r (1 : Int32).toNatClampNeg) &&& 31))))) H := hP
  refine lv_aload_n hx hb dX8_goPrint_69 rfl (lv_at hl 1 rfl) ?_
  refine lv_iconst (v := 1) hx hb dX8_goPrint_70 (by decide) ?_
  refine lv_dup2_11 hx hb dX8_goPrint_71 rfl rfl ?_
  refine va_iald (cA := cs 0) (n := 414) (f := (upd (upd (upd (upd (upd (upd (upd r (150 + (r (1 : Int32).toNatClampNeg)).toNatClampNeg p1) (174 + (r (1 : Int32).toNatClampNeg)).toNatClampNeg ((upd r (150 + (r (1 : Int32).toNatClampNeg)).toNatClampNeg p1) (20 + p1).toNatClampNeg)) (198 + (r (1 : Int32).toNatClampNeg)).toNatClampNeg p2) (222 + (r (1 : Int32).toNatClampNeg)).toNatClampNeg ((upd (upd (upd r (150 + (r (1 : Int32).toNatClampNeg)).toNatClampNeg p1) (174 + (r (1 : Int32).toNatClampNeg)).toNatClampNeg ((upd r (150 + (r (1 : Int32).toNatClampNeg)).toNatClampNeg p1) (20 + p1).toNatClampNeg)) (198 + (r (1 : Int32).toNatClampNeg)).toNatClampNeg p2) (3 : Int32).toNatClampNeg)) (246 + (r (1 : Int32).toNatClampNeg)).toNatClampNeg 0) (270 + (r (1 : Int32).toNatClampNeg)).toNatClampNeg (-1)) (9 : Int32).toNatClampNeg (((upd (upd (upd (upd (upd (upd r (150 + (r (1 : Int32).toNatClampNeg)).toNatClampNeg p1) (174 + (r (1 : Int32).toNatClampNeg)).toNatClampNeg ((upd r (150 + (r (1 : Int32).toNatClampNeg)).toNatClampNeg p1) (20 + p1).toNatClampNeg)) (198 + (r (1 : Int32).toNatClampNeg)).toNatClampNeg p2) (222 + (r (1 : Int32).toNatClampNeg)).toNatClampNeg ((upd (upd (upd r (150 + (r (1 : Int32).toNatClampNeg)).toNatClampNeg p1) (174 + (r (1 : Int32).toNatClampNeg)).toNatClampNeg ((upd r (150 + (r (1 : Int32).toNatClampNeg)).toNatClampNeg p1) (20 + p1).toNatClampNeg)) (198 + (r (1 : Int32).toNatClampNeg)).toNatClampNeg p2) (3 : Int32).toNatClampNeg)) (246 + (r (1 : Int32).toNatClampNeg)).toNatClampNeg 0) (270 + (r (1 : Int32).toNatClampNeg)).toNatClampNeg (-1)) (9 : Int32).toNatClampNeg) ||| (1 <<< ((r (1 : Int32).toNatClampNeg) &&& 31))))) hx hb hK hP 0 0 rfl rfl (by unfold vp_in; decide) dX8_goPrint_72 ?_
  refine lv_iconst (v := 1) hx hb dX8_goPrint_73 (by decide) ?_
  refine lv_iadd hx hb dX8_goPrint_74 ?_
  refine va_iast (cA := cs 0) (n := 414) (f := (upd (upd (upd (upd (upd (upd (upd r (150 + (r (1 : Int32).toNatClampNeg)).toNatClampNeg p1) (174 + (r (1 : Int32).toNatClampNeg)).toNatClampNeg ((upd r (150 + (r (1 : Int32).toNatClampNeg)).toNatClampNeg p1) (20 + p1).toNatClampNeg)) (198 + (r (1 : Int32).toNatClampNeg)).toNatClampNeg p2) (222 + (r (1 : Int32).toNatClampNeg)).toNatClampNeg ((upd (upd (upd r (150 + (r (1 : Int32).toNatClampNeg)).toNatClampNeg p1) (174 + (r (1 : Int32).toNatClampNeg)).toNatClampNeg ((upd r (150 + (r (1 : Int32).toNatClampNeg)).toNatClampNeg p1) (20 + p1).toNatClampNeg)) (198 + (r (1 : Int32).toNatClampNeg)).toNatClampNeg p2) (3 : Int32).toNatClampNeg)) (246 + (r (1 : Int32).toNatClampNeg)).toNatClampNeg 0) (270 + (r (1 : Int32).toNatClampNeg)).toNatClampNeg (-1)) (9 : Int32).toNatClampNeg (((upd (upd (upd (upd (upd (upd r (150 + (r (1 : Int32).toNatClampNeg)).toNatClampNeg p1) (174 + (r (1 : Int32).toNatClampNeg)).toNatClampNeg ((upd r (150 + (r (1 : Int32).toNatClampNeg)).toNatClampNeg p1) (20 + p1).toNatClampNeg)) (198 + (r (1 : Int32).toNatClampNeg)).toNatClampNeg p2) (222 + (r (1 : Int32).toNatClampNeg)).toNatClampNeg ((upd (upd (upd r (150 + (r (1 : Int32).toNatClampNeg)).toNatClampNeg p1) (174 + (r (1 : Int32).toNatClampNeg)).toNatClampNeg ((upd r (150 + (r (1 : Int32).toNatClampNeg)).toNatClampNeg p1) (20 + p1).toNatClampNeg)) (198 + (r (1 : Int32).toNatClampNeg)).toNatClampNeg p2) (3 : Int32).toNatClampNeg)) (246 + (r (1 : Int32).toNatClampNeg)).toNatClampNeg 0) (270 + (r (1 : Int32).toNatClampNeg)).toNatClampNeg (-1)) (9 : Int32).toNatClampNeg) ||| (1 <<< ((r (1 : Int32).toNatClampNeg) &&& 31))))) hx hb hK hP (row_D cs q (upd (upd (upd (upd (upd (upd (upd r (150 + (r (1 : Int32).toNatClampNeg)).toNatClampNeg p1) (174 + (r (1 : Int32).toNatClampNeg)).toNatClampNeg ((upd r (150 + (r (1 : Int32).toNatClampNeg)).toNatClampNeg p1) (20 + p1).toNatClampNeg)) (198 + (r (1 : Int32).toNatClampNeg)).toNatClampNeg p2) (222 + (r (1 : Int32).toNatClampNeg)).toNatClampNeg ((upd (upd (upd r (150 + (r (1 : Int32).toNatClampNeg)).toNatClampNeg p1) (174 + (r (1 : Int32).toNatClampNeg)).toNatClampNeg ((upd r (150 + (r (1 : Int32).toNatClampNeg)).toNatClampNeg p1) (20 + p1).toNatClampNeg)) (198 + (r (1 : Int32).toNatClampNeg)).toNatClampNeg p2) (3 : Int32).toNatClampNeg)) (246 + (r (1 : Int32).toNatClampNeg)).toNatClampNeg 0) (270 + (r (1 : Int32).toNatClampNeg)).toNatClampNeg (-1)) (9 : Int32).toNatClampNeg (((upd (upd (upd (upd (upd (upd r (150 + (r (1 : Int32).toNatClampNeg)).toNatClampNeg p1) (174 + (r (1 : Int32).toNatClampNeg)).toNatClampNeg ((upd r (150 + (r (1 : Int32).toNatClampNeg)).toNatClampNeg p1) (20 + p1).toNatClampNeg)) (198 + (r (1 : Int32).toNatClampNeg)).toNatClampNeg p2) (222 + (r (1 : Int32).toNatClampNeg)).toNatClampNeg ((upd (upd (upd r (150 + (r (1 : Int32).toNatClampNeg)).toNatClampNeg p1) (174 + (r (1 : Int32).toNatClampNeg)).toNatClampNeg ((upd r (150 + (r (1 : Int32).toNatClampNeg)).toNatClampNeg p1) (20 + p1).toNatClampNeg)) (198 + (r (1 : Int32).toNatClampNeg)).toNatClampNeg p2) (3 : Int32).toNatClampNeg)) (246 + (r (1 : Int32).toNatClampNeg)).toNatClampNeg 0) (270 + (r (1 : Int32).toNatClampNeg)).toNatClampNeg (-1)) (9 : Int32).toNatClampNeg) ||| (1 <<< ((r (1 : Int32).toNatClampNeg) &&& 31))))) hS 0 0 rfl rfl (by unfold vp_in; decide) dX8_goPrint_75 (fun H locs hP _ hS => ?_)
  have hP : va_P D vwC (rowW cs q (upd (upd (upd (upd (upd (upd (upd (upd r (150 + (r (1 : Int32).toNatClampNeg)).toNatClampNeg p1) (174 + (r (1 : Int32).toNatClampNeg)).toNatClampNeg ((upd r (150 + (r (1 : Int32).toNatClampNeg)).toNatClampNeg p1) (20 + p1).toNatClampNeg)) (198 + (r (1 : Int32).toNatClampNeg)).toNatClampNeg p2) (222 + (r (1 : Int32).toNatClampNeg)).toNatClampNeg ((upd (upd (upd r (150 + (r (1 : Int32).toNatClampNeg)).toNatClampNeg p1) (174 + (r (1 : Int32).toNatClampNeg)).toNatClampNeg ((upd r (150 + (r (1 : Int32).toNatClampNeg)).toNatClampNeg p1) (20 + p1).toNatClampNeg)) (198 + (r (1 : Int32).toNatClampNeg)).toNatClampNeg p2) (3 : Int32).toNatClampNeg)) (246 + (r (1 : Int32).toNatClampNeg)).toNatClampNeg 0) (270 + (r (1 : Int32).toNatClampNeg)).toNatClampNeg (-1)) (9 : Int32).toNatClampNeg (((upd (upd (upd (upd (upd (upd r (150 + (r (1 : Int32).toNatClampNeg)).toNatClampNeg p1) (174 + (r (1 : Int32).toNatClampNeg)).toNatClampNeg ((upd r (150 + (r (1 : Int32).toNatClampNeg)).toNatClampNeg p1) (20 + p1).toNatClampNeg)) (198 + (r (1 : Int32).toNatClampNeg)).toNatClampNeg p2) (222 + (r (1 : Int32).toNatClampNeg)).toNatClampNeg ((upd (upd (upd r (150 + (r (1 : Int32).toNatClampNeg)).toNatClampNeg p1) (174 + (r (1 : Int32).toNatClampNeg)).toNatClampNeg ((upd r (150 + (r (1 : Int32).toNatClampNeg)).toNatClampNeg p1) (20 + p1).toNatClampNeg)) (198 + (r (1 : Int32).toNatClampNeg)).toNatClampNeg p2) (3 : Int32).toNatClampNeg)) (246 + (r (1 : Int32).toNatClampNeg)).toNatClampNeg 0) (270 + (r (1 : Int32).toNatClampNeg)).toNatClampNeg (-1)) (9 : Int32).toNatClampNeg) ||| (1 <<< ((r (1 : Int32).toNatClampNeg) &&& 31)))) (1 : Int32).toNatClampNeg (((upd (upd (upd (upd (upd (upd (upd r (150 + (r (1 : Int32).toNatClampNeg)).toNatClampNeg p1) (174 + (r (1 : Int32).toNatClampNeg)).toNatClampNeg ((upd r (150 + (r (1 : Int32).toNatClampNeg)).toNatClampNeg p1) (20 + p1).toNatClampNeg)) (198 + (r (1 : Int32).toNatClampNeg)).toNatClampNeg p2) (222 + (r (1 : Int32).toNatClampNeg)).toNatClampNeg ((upd (upd (upd r (150 + (r (1 : Int32).toNatClampNeg)).toNatClampNeg p1) (174 + (r (1 : Int32).toNatClampNeg)).toNatClampNeg ((upd r (150 + (r (1 : Int32).toNatClampNeg)).toNatClampNeg p1) (20 + p1).toNatClampNeg)) (198 + (r (1 : Int32).toNatClampNeg)).toNatClampNeg p2) (3 : Int32).toNatClampNeg)) (246 + (r (1 : Int32).toNatClampNeg)).toNatClampNeg 0) (270 + (r (1 : Int32).toNatClampNeg)).toNatClampNeg (-1)) (9 : Int32).toNatClampNeg (((upd (upd (upd (upd (upd (upd r (150 + (r (1 : Int32).toNatClampNeg)).toNatClampNeg p1) (174 + (r (1 : Int32).toNatClampNeg)).toNatClampNeg ((upd r (150 + (r (1 : Int32).toNatClampNeg)).toNatClampNeg p1) (20 + p1).toNatClampNeg)) (198 + (r (1 : Int32).toNatClampNeg)).toNatClampNeg p2) (222 + (r (1 : Int32).toNatClampNeg)).toNatClampNeg ((upd (upd (upd r (150 + (r (1 : Int32).toNatClampNeg)).toNatClampNeg p1) (174 + (r (1 : Int32).toNatClampNeg)).toNatClampNeg ((upd r (150 + (r (1 : Int32).toNatClampNeg)).toNatClampNeg p1) (20 + p1).toNatClampNeg)) (198 + (r (1 : Int32).toNatClampNeg)).toNatClampNeg p2) (3 : Int32).toNatClampNeg)) (246 + (r (1 : Int32).toNatClampNeg)).toNatClampNeg 0) (270 + (r (1 : Int32).toNatClampNeg)).toNatClampNeg (-1)) (9 : Int32).toNatClampNeg) ||| (1 <<< ((r (1 : Int32).toNatClampNeg) &&& 31)))) (1 : Int32).toNatClampNeg) + 1))) H := hP
  refine lv_iload_n hx hb dX8_goPrint_76 rfl (lv_at hl 0 rfl) ?_
  exact W.iret (v := r (1 : Int32).toNatClampNeg) hx hb hr (fun t ht hW => ⟨⟨r (1 : Int32).toNatClampNeg, (upd (upd (upd (upd (upd (upd (upd (upd r (150 + (r (1 : Int32).toNatClampNeg)).toNatClampNeg p1) (174 + (r (1 : Int32).toNatClampNeg)).toNatClampNeg ((upd r (150 + (r (1 : Int32).toNatClampNeg)).toNatClampNeg p1) (20 + p1).toNatClampNeg)) (198 + (r (1 : Int32).toNatClampNeg)).toNatClampNeg p2) (222 + (r (1 : Int32).toNatClampNeg)).toNatClampNeg ((upd (upd (upd r (150 + (r (1 : Int32).toNatClampNeg)).toNatClampNeg p1) (174 + (r (1 : Int32).toNatClampNeg)).toNatClampNeg ((upd r (150 + (r (1 : Int32).toNatClampNeg)).toNatClampNeg p1) (20 + p1).toNatClampNeg)) (198 + (r (1 : Int32).toNatClampNeg)).toNatClampNeg p2) (3 : Int32).toNatClampNeg)) (246 + (r (1 : Int32).toNatClampNeg)).toNatClampNeg 0) (270 + (r (1 : Int32).toNatClampNeg)).toNatClampNeg (-1)) (9 : Int32).toNatClampNeg (((upd (upd (upd (upd (upd (upd r (150 + (r (1 : Int32).toNatClampNeg)).toNatClampNeg p1) (174 + (r (1 : Int32).toNatClampNeg)).toNatClampNeg ((upd r (150 + (r (1 : Int32).toNatClampNeg)).toNatClampNeg p1) (20 + p1).toNatClampNeg)) (198 + (r (1 : Int32).toNatClampNeg)).toNatClampNeg p2) (222 + (r (1 : Int32).toNatClampNeg)).toNatClampNeg ((upd (upd (upd r (150 + (r (1 : Int32).toNatClampNeg)).toNatClampNeg p1) (174 + (r (1 : Int32).toNatClampNeg)).toNatClampNeg ((upd r (150 + (r (1 : Int32).toNatClampNeg)).toNatClampNeg p1) (20 + p1).toNatClampNeg)) (198 + (r (1 : Int32).toNatClampNeg)).toNatClampNeg p2) (3 : Int32).toNatClampNeg)) (246 + (r (1 : Int32).toNatClampNeg)).toNatClampNeg 0) (270 + (r (1 : Int32).toNatClampNeg)).toNatClampNeg (-1)) (9 : Int32).toNatClampNeg) ||| (1 <<< ((r (1 : Int32).toNatClampNeg) &&& 31)))) (1 : Int32).toNatClampNeg (((upd (upd (upd (upd (upd (upd (upd r (150 + (r (1 : Int32).toNatClampNeg)).toNatClampNeg p1) (174 + (r (1 : Int32).toNatClampNeg)).toNatClampNeg ((upd r (150 + (r (1 : Int32).toNatClampNeg)).toNatClampNeg p1) (20 + p1).toNatClampNeg)) (198 + (r (1 : Int32).toNatClampNeg)).toNatClampNeg p2) (222 + (r (1 : Int32).toNatClampNeg)).toNatClampNeg ((upd (upd (upd r (150 + (r (1 : Int32).toNatClampNeg)).toNatClampNeg p1) (174 + (r (1 : Int32).toNatClampNeg)).toNatClampNeg ((upd r (150 + (r (1 : Int32).toNatClampNeg)).toNatClampNeg p1) (20 + p1).toNatClampNeg)) (198 + (r (1 : Int32).toNatClampNeg)).toNatClampNeg p2) (3 : Int32).toNatClampNeg)) (246 + (r (1 : Int32).toNatClampNeg)).toNatClampNeg 0) (270 + (r (1 : Int32).toNatClampNeg)).toNatClampNeg (-1)) (9 : Int32).toNatClampNeg (((upd (upd (upd (upd (upd (upd r (150 + (r (1 : Int32).toNatClampNeg)).toNatClampNeg p1) (174 + (r (1 : Int32).toNatClampNeg)).toNatClampNeg ((upd r (150 + (r (1 : Int32).toNatClampNeg)).toNatClampNeg p1) (20 + p1).toNatClampNeg)) (198 + (r (1 : Int32).toNatClampNeg)).toNatClampNeg p2) (222 + (r (1 : Int32).toNatClampNeg)).toNatClampNeg ((upd (upd (upd r (150 + (r (1 : Int32).toNatClampNeg)).toNatClampNeg p1) (174 + (r (1 : Int32).toNatClampNeg)).toNatClampNeg ((upd r (150 + (r (1 : Int32).toNatClampNeg)).toNatClampNeg p1) (20 + p1).toNatClampNeg)) (198 + (r (1 : Int32).toNatClampNeg)).toNatClampNeg p2) (3 : Int32).toNatClampNeg)) (246 + (r (1 : Int32).toNatClampNeg)).toNatClampNeg 0) (270 + (r (1 : Int32).toNatClampNeg)).toNatClampNeg (-1)) (9 : Int32).toNatClampNeg) ||| (1 <<< ((r (1 : Int32).toNatClampNeg) &&& 31)))) (1 : Int32).toNatClampNeg) + 1)), rfl, pair_eq hv, pw ht hP⟩, hS.F ht⟩) hS.2.2 dX8_goPrint_77 (hlocks := hlocks)
theorem hd_X8_goStamp : yX8_goStamp.cls ≠ "java/lang/invoke/MethodHandle" ∧ yX8_goStamp.cls ≠ "java/lang/invoke/VarHandle" ∧ (parseMethodDescriptor yX8_goStamp.desc).map (fun d => d.parameters.length) = some 3 := by decide +kernel
def sX8_goStamp (r : Nat → Int32) (p1 : Int32) (p2 : Int32) : Int32 × (Nat → Int32) := (sX8_many ((upd r (246 + p1).toNatClampNeg ((r (246 + p1).toNatClampNeg) ||| (1 <<< (p2 &&& 31)))) (246 + p1).toNatClampNeg), (upd r (246 + p1).toNatClampNeg ((r (246 + p1).toNatClampNeg) ||| (1 <<< (p2 &&& 31)))))
set_option maxHeartbeats 4000000 in
set_option maxRecDepth 100000 in
theorem c_X8_goStamp (l : Launch) (D : va_G) (cs : Nat → ClassId) (q : Nat) (r : Nat → Int32) (p1 : Int32) (p2 : Int32) (h1 : vp_in p1 24) : Met l yX8_goStamp (wc yX8_goStamp cX8_goStamp 3 (some .int)) ({ frames := 1, cells := 0, slots := 0, locals := 22 } : Room) (va_Pc [.ref q, .int p1, .int p2] (PE D cs (rowW cs q r))) (va_Qi (fun (r9 : Int32) (u : (Nat → Int32)) => r9 = (sX8_goStamp r p1 p2).1 ∧ u = (sX8_goStamp r p1 p2).2) (fun u t => va_P D vwC (rowW cs q u) t.heap) (rA q)) 0 0 (rA q) := by
  obtain ⟨v, hv⟩ : ∃ v, sX8_goStamp r p1 p2 = v := ⟨_, rfl⟩
  rw [hv]
  refine met_o (lv := [(0, .ref q), (1, .int p1), (2, .int p2)]) (by decide) (Nat.le_of_ble_eq_true rfl) rfl ?_
  intro p e s m args below meth c ls hx hb hr hml hts hown hlocks hin hP hE hl
  have hown : s.vm.findClass RX8 = some m.cls := hown
  have hK := hE.1
  have hP : va_P D vwC (rowW cs q r) s.heap := hP
  have hS : va_S (rA q) s.heap s.heap [] := va_S.rf
  unfold sX8_goStamp at hv
  refine lv_aload_n hx hb dX8_goStamp_0 rfl (lv_at hl 0 rfl) ?_
  refine lv_sipush (v := 246) hx hb dX8_goStamp_1 (by decide) ?_
  refine lv_iload_n hx hb dX8_goStamp_4 rfl (lv_at hl 1 rfl) ?_
  refine lv_iadd hx hb dX8_goStamp_5 ?_
  refine lv_dup2_11 hx hb dX8_goStamp_6 rfl rfl ?_
  refine va_iald (cA := cs 0) (n := 414) (f := r) hx hb hK hP 0 0 rfl rfl (vp_off (K := 246) rfl (by assumption) (by decide) (by decide)) dX8_goStamp_7 ?_
  refine lv_iconst (v := 1) hx hb dX8_goStamp_8 (by decide) ?_
  refine lv_iload_n hx hb dX8_goStamp_9 rfl (lv_at hl 2 rfl) ?_
  refine lv_ishl hx hb dX8_goStamp_10 ?_
  refine lv_ior hx hb dX8_goStamp_11 ?_
  refine va_iast (cA := cs 0) (n := 414) (f := r) hx hb hK hP (row_D cs q r) hS 0 0 rfl rfl (vp_off (K := 246) rfl (by assumption) (by decide) (by decide)) dX8_goStamp_12 (fun H locs hP _ hS => ?_)
  have hP : va_P D vwC (rowW cs q (upd r (246 + p1).toNatClampNeg ((r (246 + p1).toNatClampNeg) ||| (1 <<< (p2 &&& 31))))) H := hP
  refine lv_aload_n hx hb dX8_goStamp_13 rfl (lv_at hl 0 rfl) ?_
  refine lv_sipush (v := 246) hx hb dX8_goStamp_14 (by decide) ?_
  refine lv_iload_n hx hb dX8_goStamp_17 rfl (lv_at hl 1 rfl) ?_
  refine lv_iadd hx hb dX8_goStamp_18 ?_
  refine va_iald (cA := cs 0) (n := 414) (f := (upd r (246 + p1).toNatClampNeg ((r (246 + p1).toNatClampNeg) ||| (1 <<< (p2 &&& 31))))) hx hb hK hP 0 0 rfl rfl (vp_off (K := 246) rfl (by assumption) (by decide) (by decide)) dX8_goStamp_19 ?_
  refine ro_i (sX8_many ((upd r (246 + p1).toNatClampNeg ((r (246 + p1).toNatClampNeg) ||| (1 <<< (p2 &&& 31)))) (246 + p1).toNatClampNeg)) (run_c (va_runS (As := [.int ((upd r (246 + p1).toNatClampNeg ((r (246 + p1).toNatClampNeg) ||| (1 <<< (p2 &&& 31)))) (246 + p1).toNatClampNeg)]) (rest := []) ⟨hx, hb, hml, hown, hts⟩ (c_X8_many l D cs ((upd r (246 + p1).toNatClampNeg ((r (246 + p1).toNatClampNeg) ||| (1 <<< (p2 &&& 31)))) (246 + p1).toNatClampNeg)) (cwS 1 hts (good_S w_ml_X8_77 w_st_X8_many w_in_X8 w_co_X8_many) rfl rfl rfl ⟨rfl, hd_X8_many⟩ ⟨Nat.le_of_ble_eq_true rfl, Nat.le_of_ble_eq_true rfl⟩) (pe_S (p_nil D _) hE) rfl rfl hl.1 rfl (lv_room (Nat.le_of_ble_eq_true rfl)) dX8_goStamp_20 ⟨Nat.zero_le _, Nat.zero_le _⟩)) ?_
  exact W.iret (v := sX8_many ((upd r (246 + p1).toNatClampNeg ((r (246 + p1).toNatClampNeg) ||| (1 <<< (p2 &&& 31)))) (246 + p1).toNatClampNeg)) hx hb hr (fun t ht hW => ⟨⟨sX8_many ((upd r (246 + p1).toNatClampNeg ((r (246 + p1).toNatClampNeg) ||| (1 <<< (p2 &&& 31)))) (246 + p1).toNatClampNeg), (upd r (246 + p1).toNatClampNeg ((r (246 + p1).toNatClampNeg) ||| (1 <<< (p2 &&& 31)))), rfl, pair_eq hv, pw ht hP⟩, hS.F ht⟩) hS.2.2 dX8_goStamp_23 (hlocks := hlocks)
theorem hd_X8_goBack : yX8_goBack.cls ≠ "java/lang/invoke/MethodHandle" ∧ yX8_goBack.cls ≠ "java/lang/invoke/VarHandle" ∧ (parseMethodDescriptor yX8_goBack.desc).map (fun d => d.parameters.length) = some 2 := by decide +kernel
def sX8_goBack (r : Nat → Int32) (p1 : Int32) : Int32 × (Nat → Int32) := ((if (sX8_isOverdue r p1 (r (3 : Int32).toNatClampNeg)) = true then (r (3 : Int32).toNatClampNeg) - (r (270 + p1).toNatClampNeg) else (0 : Int32)), (upd r (9 : Int32).toNatClampNeg ((r (9 : Int32).toNatClampNeg) &&& ((1 <<< (p1 &&& 31)) ^^^ (-1)))))
set_option maxHeartbeats 4000000 in
set_option maxRecDepth 100000 in
theorem c_X8_goBack (l : Launch) (D : va_G) (cs : Nat → ClassId) (q : Nat) (r : Nat → Int32) (p1 : Int32) (h1 : vp_in p1 24) : Met l yX8_goBack (wc yX8_goBack cX8_goBack 3 (some .int)) ({ frames := 3, cells := 0, slots := 0, locals := 64 } : Room) (va_Pc [.ref q, .int p1] (PE D cs (rowW cs q r))) (va_Qi (fun (r9 : Int32) (u : (Nat → Int32)) => r9 = (sX8_goBack r p1).1 ∧ u = (sX8_goBack r p1).2) (fun u t => va_P D vwC (rowW cs q u) t.heap) (rA q)) 0 0 (rA q) := by
  obtain ⟨v, hv⟩ : ∃ v, sX8_goBack r p1 = v := ⟨_, rfl⟩
  rw [hv]
  refine met_o (lv := [(0, .ref q), (1, .int p1)]) (by decide) (Nat.le_of_ble_eq_true rfl) rfl ?_
  intro p e s m args below meth c ls hx hb hr hml hts hown hlocks hin hP hE hl
  have hown : s.vm.findClass RX8 = some m.cls := hown
  have hK := hE.1
  have hP : va_P D vwC (rowW cs q r) s.heap := hP
  have hS : va_S (rA q) s.heap s.heap [] := va_S.rf
  unfold sX8_goBack at hv
  refine lv_aload_n hx hb dX8_goBack_0 rfl (lv_at hl 0 rfl) ?_
  refine lv_iload_n hx hb dX8_goBack_1 rfl (lv_at hl 1 rfl) ?_
  refine lv_aload_n hx hb dX8_goBack_2 rfl (lv_at hl 0 rfl) ?_
  refine lv_iconst (v := 3) hx hb dX8_goBack_3 (by decide) ?_
  refine va_iald (cA := cs 0) (n := 414) (f := r) hx hb hK hP 0 0 rfl rfl (by unfold vp_in; decide) dX8_goBack_4 ?_
  refine ro_i (b2i (sX8_isOverdue r p1 (r (3 : Int32).toNatClampNeg))) (run_c (va_runS (As := [.ref q, .int p1, .int (r (3 : Int32).toNatClampNeg)]) (rest := []) ⟨hx, hb, hml, hown, hts⟩ (c_X8_isOverdue l D cs q r p1 (r (3 : Int32).toNatClampNeg) h1) (cwS 3 hts (good_S w_ml_X8_84 w_st_X8_isOverdue w_in_X8 w_co_X8_isOverdue) rfl rfl rfl ⟨rfl, hd_X8_isOverdue⟩ ⟨Nat.le_of_ble_eq_true rfl, Nat.le_of_ble_eq_true rfl⟩) (pe_S hP hE) rfl rfl hl.1 rfl (lv_room (Nat.le_of_ble_eq_true rfl)) dX8_goBack_5 ⟨Nat.zero_le _, Nat.zero_le _⟩)) ?_
  refine join_i (J := 26) (ls := ls) (rest := []) ((if (sX8_isOverdue r p1 (r (3 : Int32).toNatClampNeg)) = true then (r (3 : Int32).toNatClampNeg) - (r (270 + p1).toNatClampNeg) else (0 : Int32))) ?_ (fun hJ => ?_)
  · refine lv_istore_n (lv' := [(2, .int (if (sX8_isOverdue r p1 (r (3 : Int32).toNatClampNeg)) = true then (r (3 : Int32).toNatClampNeg) - (r (270 + p1).toNatClampNeg) else (0 : Int32))), (0, .ref q), (1, .int p1)]) hx hb dX8_goBack_26 rfl hl (by decide) rfl (fun ls hl => ?_)
    refine lv_aload_n hx hb dX8_goBack_27 rfl (lv_at hl 1 rfl) ?_
    refine lv_bipush (v := 9) hx hb dX8_goBack_28 (by decide) ?_
    refine lv_dup2_11 hx hb dX8_goBack_30 rfl rfl ?_
    refine va_iald (cA := cs 0) (n := 414) (f := r) hx hb hK hP 0 0 rfl rfl (by unfold vp_in; decide) dX8_goBack_31 ?_
    refine lv_iconst (v := 1) hx hb dX8_goBack_32 (by decide) ?_
    refine lv_iload_n hx hb dX8_goBack_33 rfl (lv_at hl 2 rfl) ?_
    refine lv_ishl hx hb dX8_goBack_34 ?_
    refine lv_iconst (v := (-1)) hx hb dX8_goBack_35 (by decide) ?_
    refine lv_ixor hx hb dX8_goBack_36 ?_
    refine lv_iand hx hb dX8_goBack_37 ?_
    refine va_iast (cA := cs 0) (n := 414) (f := r) hx hb hK hP (row_D cs q r) hS 0 0 rfl rfl (by unfold vp_in; decide) dX8_goBack_38 (fun H locs hP _ hS => ?_)
    have hP : va_P D vwC (rowW cs q (upd r (9 : Int32).toNatClampNeg ((r (9 : Int32).toNatClampNeg) &&& ((1 <<< (p1 &&& 31)) ^^^ (-1))))) H := hP
    refine lv_iload_n hx hb dX8_goBack_39 rfl (lv_at hl 0 rfl) ?_
    exact W.iret (v := (if (sX8_isOverdue r p1 (r (3 : Int32).toNatClampNeg)) = true then (r (3 : Int32).toNatClampNeg) - (r (270 + p1).toNatClampNeg) else (0 : Int32))) hx hb hr (fun t ht hW => ⟨⟨(if (sX8_isOverdue r p1 (r (3 : Int32).toNatClampNeg)) = true then (r (3 : Int32).toNatClampNeg) - (r (270 + p1).toNatClampNeg) else (0 : Int32)), (upd r (9 : Int32).toNatClampNeg ((r (9 : Int32).toNatClampNeg) &&& ((1 <<< (p1 &&& 31)) ^^^ (-1)))), rfl, pair_eq hv, pw ht hP⟩, hS.F ht⟩) hS.2.2 dX8_goBack_40 (hlocks := hlocks)
  · refine lv_if_eq (tgt := 25) hx hb dX8_goBack_8 (by decide) (fun c8 => ?_) (fun c8 => ?_)
    · have c8 := b2i_f c8
      refine lv_iconst (v := 0) hx hb dX8_goBack_25 (by decide) ?_
      exact hJ _ ((if_neg c8).trans rfl)
    · have c8 := b2i_t c8
      refine lv_aload_n hx hb dX8_goBack_11 rfl (lv_at hl 0 rfl) ?_
      refine lv_iconst (v := 3) hx hb dX8_goBack_12 (by decide) ?_
      refine va_iald (cA := cs 0) (n := 414) (f := r) hx hb hK hP 0 0 rfl rfl (by unfold vp_in; decide) dX8_goBack_13 ?_
      refine lv_aload_n hx hb dX8_goBack_14 rfl (lv_at hl 0 rfl) ?_
      refine lv_sipush (v := 270) hx hb dX8_goBack_15 (by decide) ?_
      refine lv_iload_n hx hb dX8_goBack_18 rfl (lv_at hl 1 rfl) ?_
      refine lv_iadd hx hb dX8_goBack_19 ?_
      refine va_iald (cA := cs 0) (n := 414) (f := r) hx hb hK hP 0 0 rfl rfl (vp_off (K := 270) rfl (by assumption) (by decide) (by decide)) dX8_goBack_20 ?_
      refine lv_isub hx hb dX8_goBack_21 ?_
      refine lv_goto (tgt := 26) hx hb dX8_goBack_22 (by decide) ?_
      exact hJ _ ((if_pos c8).trans rfl)
theorem hd_X8_goBuild : yX8_goBuild.cls ≠ "java/lang/invoke/MethodHandle" ∧ yX8_goBuild.cls ≠ "java/lang/invoke/VarHandle" ∧ (parseMethodDescriptor yX8_goBuild.desc).map (fun d => d.parameters.length) = some 3 := by decide +kernel
def sX8_goBuild (r : Nat → Int32) (p1 : Int32) (p2 : Int32) : Int32 × (Nat → Int32) := (r (2 : Int32).toNatClampNeg, (upd (upd (upd (upd (upd r (294 + (r (2 : Int32).toNatClampNeg)).toNatClampNeg (r (198 + p1).toNatClampNeg)) (324 + (r (2 : Int32).toNatClampNeg)).toNatClampNeg ((upd r (294 + (r (2 : Int32).toNatClampNeg)).toNatClampNeg (r (198 + p1).toNatClampNeg)) (150 + p1).toNatClampNeg)) (354 + (r (2 : Int32).toNatClampNeg)).toNatClampNeg p2) (384 + (r (2 : Int32).toNatClampNeg)).toNatClampNeg ((upd (upd (upd r (294 + (r (2 : Int32).toNatClampNeg)).toNatClampNeg (r (198 + p1).toNatClampNeg)) (324 + (r (2 : Int32).toNatClampNeg)).toNatClampNeg ((upd r (294 + (r (2 : Int32).toNatClampNeg)).toNatClampNeg (r (198 + p1).toNatClampNeg)) (150 + p1).toNatClampNeg)) (354 + (r (2 : Int32).toNatClampNeg)).toNatClampNeg p2) (174 + p1).toNatClampNeg)) (2 : Int32).toNatClampNeg (((upd (upd (upd (upd r (294 + (r (2 : Int32).toNatClampNeg)).toNatClampNeg (r (198 + p1).toNatClampNeg)) (324 + (r (2 : Int32).toNatClampNeg)).toNatClampNeg ((upd r (294 + (r (2 : Int32).toNatClampNeg)).toNatClampNeg (r (198 + p1).toNatClampNeg)) (150 + p1).toNatClampNeg)) (354 + (r (2 : Int32).toNatClampNeg)).toNatClampNeg p2) (384 + (r (2 : Int32).toNatClampNeg)).toNatClampNeg ((upd (upd (upd r (294 + (r (2 : Int32).toNatClampNeg)).toNatClampNeg (r (198 + p1).toNatClampNeg)) (324 + (r (2 : Int32).toNatClampNeg)).toNatClampNeg ((upd r (294 + (r (2 : Int32).toNatClampNeg)).toNatClampNeg (r (198 + p1).toNatClampNeg)) (150 + p1).toNatClampNeg)) (354 + (r (2 : Int32).toNatClampNeg)).toNatClampNeg p2) (174 + p1).toNatClampNeg)) (2 : Int32).toNatClampNeg) + 1)))
set_option maxHeartbeats 4000000 in
set_option maxRecDepth 100000 in
theorem c_X8_goBuild (l : Launch) (D : va_G) (cs : Nat → ClassId) (q : Nat) (r : Nat → Int32) (p1 : Int32) (p2 : Int32) (h0 : vp_in (r 2) 30) (h1 : vp_in p1 24) : Met l yX8_goBuild (wc yX8_goBuild cX8_goBuild 4 (some .int)) ({ frames := 0, cells := 0, slots := 0, locals := 0 } : Room) (va_Pc [.ref q, .int p1, .int p2] (PE D cs (rowW cs q r))) (va_Qi (fun (r9 : Int32) (u : (Nat → Int32)) => r9 = (sX8_goBuild r p1 p2).1 ∧ u = (sX8_goBuild r p1 p2).2) (fun u t => va_P D vwC (rowW cs q u) t.heap) (rA q)) 0 0 (rA q) := by
  obtain ⟨v, hv⟩ : ∃ v, sX8_goBuild r p1 p2 = v := ⟨_, rfl⟩
  rw [hv]
  refine met_o (lv := [(0, .ref q), (1, .int p1), (2, .int p2)]) (by decide) (Nat.le_of_ble_eq_true rfl) rfl ?_
  intro p e s m args below meth c ls hx hb hr hml hts hown hlocks hin hP hE hl
  have hown : s.vm.findClass RX8 = some m.cls := hown
  have hK := hE.1
  have hP : va_P D vwC (rowW cs q r) s.heap := hP
  have hS : va_S (rA q) s.heap s.heap [] := va_S.rf
  unfold sX8_goBuild at hv
  refine lv_aload_n hx hb dX8_goBuild_0 rfl (lv_at hl 0 rfl) ?_
  refine lv_iconst (v := 2) hx hb dX8_goBuild_1 (by decide) ?_
  refine va_iald (cA := cs 0) (n := 414) (f := r) hx hb hK hP 0 0 rfl rfl (by unfold vp_in; decide) dX8_goBuild_2 ?_
  refine lv_istore_n (lv' := [(3, .int (r (2 : Int32).toNatClampNeg)), (0, .ref q), (1, .int p1), (2, .int p2)]) hx hb dX8_goBuild_3 rfl hl (by decide) rfl (fun ls hl => ?_)
  have h2 : vp_in (r (2 : Int32).toNatClampNeg) 30 := h0
  refine lv_aload_n hx hb dX8_goBuild_4 rfl (lv_at hl 1 rfl) ?_
  refine lv_sipush (v := 294) hx hb dX8_goBuild_5 (by decide) ?_
  refine lv_iload_n hx hb dX8_goBuild_8 rfl (lv_at hl 0 rfl) ?_
  refine lv_iadd hx hb dX8_goBuild_9 ?_
  refine lv_aload_n hx hb dX8_goBuild_10 rfl (lv_at hl 1 rfl) ?_
  refine lv_sipush (v := 198) hx hb dX8_goBuild_11 (by decide) ?_
  refine lv_iload_n hx hb dX8_goBuild_14 rfl (lv_at hl 2 rfl) ?_
  refine lv_iadd hx hb dX8_goBuild_15 ?_
  refine va_iald (cA := cs 0) (n := 414) (f := r) hx hb hK hP 0 0 rfl rfl (vp_off (K := 198) rfl (by assumption) (by decide) (by decide)) dX8_goBuild_16 ?_
  refine va_iast (cA := cs 0) (n := 414) (f := r) hx hb hK hP (row_D cs q r) hS 0 0 rfl rfl (vp_off (K := 294) rfl (by assumption) (by decide) (by decide)) dX8_goBuild_17 (fun H locs hP _ hS => ?_)
  have hP : va_P D vwC (rowW cs q (upd r (294 + (r (2 : Int32).toNatClampNeg)).toNatClampNeg (r (198 + p1).toNatClampNeg))) H := hP
  refine lv_aload_n hx hb dX8_goBuild_18 rfl (lv_at hl 1 rfl) ?_
  refine lv_sipush (v := 324) hx hb dX8_goBuild_19 (by decide) ?_
  refine lv_iload_n hx hb dX8_goBuild_22 rfl (lv_at hl 0 rfl) ?_
  refine lv_iadd hx hb dX8_goBuild_23 ?_
  refine lv_aload_n hx hb dX8_goBuild_24 rfl (lv_at hl 1 rfl) ?_
  refine lv_sipush (v := 150) hx hb dX8_goBuild_25 (by decide) ?_
  refine lv_iload_n hx hb dX8_goBuild_28 rfl (lv_at hl 2 rfl) ?_
  refine lv_iadd hx hb dX8_goBuild_29 ?_
  refine va_iald (cA := cs 0) (n := 414) (f := (upd r (294 + (r (2 : Int32).toNatClampNeg)).toNatClampNeg (r (198 + p1).toNatClampNeg))) hx hb hK hP 0 0 rfl rfl (vp_off (K := 150) rfl (by assumption) (by decide) (by decide)) dX8_goBuild_30 ?_
  refine va_iast (cA := cs 0) (n := 414) (f := (upd r (294 + (r (2 : Int32).toNatClampNeg)).toNatClampNeg (r (198 + p1).toNatClampNeg))) hx hb hK hP (row_D cs q (upd r (294 + (r (2 : Int32).toNatClampNeg)).toNatClampNeg (r (198 + p1).toNatClampNeg))) hS 0 0 rfl rfl (vp_off (K := 324) rfl (by assumption) (by decide) (by decide)) dX8_goBuild_31 (fun H locs hP _ hS => ?_)
  have hP : va_P D vwC (rowW cs q (upd (upd r (294 + (r (2 : Int32).toNatClampNeg)).toNatClampNeg (r (198 + p1).toNatClampNeg)) (324 + (r (2 : Int32).toNatClampNeg)).toNatClampNeg ((upd r (294 + (r (2 : Int32).toNatClampNeg)).toNatClampNeg (r (198 + p1).toNatClampNeg)) (150 + p1).toNatClampNeg))) H := hP
  refine lv_aload_n hx hb dX8_goBuild_32 rfl (lv_at hl 1 rfl) ?_
  refine lv_sipush (v := 354) hx hb dX8_goBuild_33 (by decide) ?_
  refine lv_iload_n hx hb dX8_goBuild_36 rfl (lv_at hl 0 rfl) ?_
  refine lv_iadd hx hb dX8_goBuild_37 ?_
  refine lv_iload_n hx hb dX8_goBuild_38 rfl (lv_at hl 3 rfl) ?_
  refine va_iast (cA := cs 0) (n := 414) (f := (upd (upd r (294 + (r (2 : Int32).toNatClampNeg)).toNatClampNeg (r (198 + p1).toNatClampNeg)) (324 + (r (2 : Int32).toNatClampNeg)).toNatClampNeg ((upd r (294 + (r (2 : Int32).toNatClampNeg)).toNatClampNeg (r (198 + p1).toNatClampNeg)) (150 + p1).toNatClampNeg))) hx hb hK hP (row_D cs q (upd (upd r (294 + (r (2 : Int32).toNatClampNeg)).toNatClampNeg (r (198 + p1).toNatClampNeg)) (324 + (r (2 : Int32).toNatClampNeg)).toNatClampNeg ((upd r (294 + (r (2 : Int32).toNatClampNeg)).toNatClampNeg (r (198 + p1).toNatClampNeg)) (150 + p1).toNatClampNeg))) hS 0 0 rfl rfl (vp_off (K := 354) rfl (by assumption) (by decide) (by decide)) dX8_goBuild_39 (fun H locs hP _ hS => ?_)
  have hP : va_P D vwC (rowW cs q (upd (upd (upd r (294 + (r (2 : Int32).toNatClampNeg)).toNatClampNeg (r (198 + p1).toNatClampNeg)) (324 + (r (2 : Int32).toNatClampNeg)).toNatClampNeg ((upd r (294 + (r (2 : Int32).toNatClampNeg)).toNatClampNeg (r (198 + p1).toNatClampNeg)) (150 + p1).toNatClampNeg)) (354 + (r (2 : Int32).toNatClampNeg)).toNatClampNeg p2)) H := hP
  refine lv_aload_n hx hb dX8_goBuild_40 rfl (lv_at hl 1 rfl) ?_
  refine lv_sipush (v := 384) hx hb dX8_goBuild_41 (by decide) ?_
  refine lv_iload_n hx hb dX8_goBuild_44 rfl (lv_at hl 0 rfl) ?_
  refine lv_iadd hx hb dX8_goBuild_45 ?_
  refine lv_aload_n hx hb dX8_goBuild_46 rfl (lv_at hl 1 rfl) ?_
  refine lv_sipush (v := 174) hx hb dX8_goBuild_47 (by decide) ?_
  refine lv_iload_n hx hb dX8_goBuild_50 rfl (lv_at hl 2 rfl) ?_
  refine lv_iadd hx hb dX8_goBuild_51 ?_
  refine va_iald (cA := cs 0) (n := 414) (f := (upd (upd (upd r (294 + (r (2 : Int32).toNatClampNeg)).toNatClampNeg (r (198 + p1).toNatClampNeg)) (324 + (r (2 : Int32).toNatClampNeg)).toNatClampNeg ((upd r (294 + (r (2 : Int32).toNatClampNeg)).toNatClampNeg (r (198 + p1).toNatClampNeg)) (150 + p1).toNatClampNeg)) (354 + (r (2 : Int32).toNatClampNeg)).toNatClampNeg p2)) hx hb hK hP 0 0 rfl rfl (vp_off (K := 174) rfl (by assumption) (by decide) (by decide)) dX8_goBuild_52 ?_
  refine va_iast (cA := cs 0) (n := 414) (f := (upd (upd (upd r (294 + (r (2 : Int32).toNatClampNeg)).toNatClampNeg (r (198 + p1).toNatClampNeg)) (324 + (r (2 : Int32).toNatClampNeg)).toNatClampNeg ((upd r (294 + (r (2 : Int32).toNatClampNeg)).toNatClampNeg (r (198 + p1).toNatClampNeg)) (150 + p1).toNatClampNeg)) (354 + (r (2 : Int32).toNatClampNeg)).toNatClampNeg p2)) hx hb hK hP (row_D cs q (upd (upd (upd r (294 + (r (2 : Int32).toNatClampNeg)).toNatClampNeg (r (198 + p1).toNatClampNeg)) (324 + (r (2 : Int32).toNatClampNeg)).toNatClampNeg ((upd r (294 + (r (2 : Int32).toNatClampNeg)).toNatClampNeg (r (198 + p1).toNatClampNeg)) (150 + p1).toNatClampNeg)) (354 + (r (2 : Int32).toNatClampNeg)).toNatClampNeg p2)) hS 0 0 rfl rfl (vp_off (K := 384) rfl (by assumption) (by decide) (by decide)) dX8_goBuild_53 (fun H locs hP _ hS => ?_)
  have hP : va_P D vwC (rowW cs q (upd (upd (upd (upd r (294 + (r (2 : Int32).toNatClampNeg)).toNatClampNeg (r (198 + p1).toNatClampNeg)) (324 + (r (2 : Int32).toNatClampNeg)).toNatClampNeg ((upd r (294 + (r (2 : Int32).toNatClampNeg)).toNatClampNeg (r (198 + p1).toNatClampNeg)) (150 + p1).toNatClampNeg)) (354 + (r (2 : Int32).toNatClampNeg)).toNatClampNeg p2) (384 + (r (2 : Int32).toNatClampNeg)).toNatClampNeg ((upd (upd (upd r (294 + (r (2 : Int32).toNatClampNeg)).toNatClampNeg (r (198 + p1).toNatClampNeg)) (324 + (r (2 : Int32).toNatClampNeg)).toNatClampNeg ((upd r (294 + (r (2 : Int32).toNatClampNeg)).toNatClampNeg (r (198 + p1).toNatClampNeg)) (150 + p1).toNatClampNeg)) (354 + (r (2 : Int32).toNatClampNeg)).toNatClampNeg p2) (174 + p1).toNatClampNeg))) H := hP
  refine lv_aload_n hx hb dX8_goBuild_54 rfl (lv_at hl 1 rfl) ?_
  refine lv_iconst (v := 2) hx hb dX8_goBuild_55 (by decide) ?_
  refine lv_dup2_11 hx hb dX8_goBuild_56 rfl rfl ?_
  refine va_iald (cA := cs 0) (n := 414) (f := (upd (upd (upd (upd r (294 + (r (2 : Int32).toNatClampNeg)).toNatClampNeg (r (198 + p1).toNatClampNeg)) (324 + (r (2 : Int32).toNatClampNeg)).toNatClampNeg ((upd r (294 + (r (2 : Int32).toNatClampNeg)).toNatClampNeg (r (198 + p1).toNatClampNeg)) (150 + p1).toNatClampNeg)) (354 + (r (2 : Int32).toNatClampNeg)).toNatClampNeg p2) (384 + (r (2 : Int32).toNatClampNeg)).toNatClampNeg ((upd (upd (upd r (294 + (r (2 : Int32).toNatClampNeg)).toNatClampNeg (r (198 + p1).toNatClampNeg)) (324 + (r (2 : Int32).toNatClampNeg)).toNatClampNeg ((upd r (294 + (r (2 : Int32).toNatClampNeg)).toNatClampNeg (r (198 + p1).toNatClampNeg)) (150 + p1).toNatClampNeg)) (354 + (r (2 : Int32).toNatClampNeg)).toNatClampNeg p2) (174 + p1).toNatClampNeg))) hx hb hK hP 0 0 rfl rfl (by unfold vp_in; decide) dX8_goBuild_57 ?_
  refine lv_iconst (v := 1) hx hb dX8_goBuild_58 (by decide) ?_
  refine lv_iadd hx hb dX8_goBuild_59 ?_
  refine va_iast (cA := cs 0) (n := 414) (f := (upd (upd (upd (upd r (294 + (r (2 : Int32).toNatClampNeg)).toNatClampNeg (r (198 + p1).toNatClampNeg)) (324 + (r (2 : Int32).toNatClampNeg)).toNatClampNeg ((upd r (294 + (r (2 : Int32).toNatClampNeg)).toNatClampNeg (r (198 + p1).toNatClampNeg)) (150 + p1).toNatClampNeg)) (354 + (r (2 : Int32).toNatClampNeg)).toNatClampNeg p2) (384 + (r (2 : Int32).toNatClampNeg)).toNatClampNeg ((upd (upd (upd r (294 + (r (2 : Int32).toNatClampNeg)).toNatClampNeg (r (198 + p1).toNatClampNeg)) (324 + (r (2 : Int32).toNatClampNeg)).toNatClampNeg ((upd r (294 + (r (2 : Int32).toNatClampNeg)).toNatClampNeg (r (198 + p1).toNatClampNeg)) (150 + p1).toNatClampNeg)) (354 + (r (2 : Int32).toNatClampNeg)).toNatClampNeg p2) (174 + p1).toNatClampNeg))) hx hb hK hP (row_D cs q (upd (upd (upd (upd r (294 + (r (2 : Int32).toNatClampNeg)).toNatClampNeg (r (198 + p1).toNatClampNeg)) (324 + (r (2 : Int32).toNatClampNeg)).toNatClampNeg ((upd r (294 + (r (2 : Int32).toNatClampNeg)).toNatClampNeg (r (198 + p1).toNatClampNeg)) (150 + p1).toNatClampNeg)) (354 + (r (2 : Int32).toNatClampNeg)).toNatClampNeg p2) (384 + (r (2 : Int32).toNatClampNeg)).toNatClampNeg ((upd (upd (upd r (294 + (r (2 : Int32).toNatClampNeg)).toNatClampNeg (r (198 + p1).toNatClampNeg)) (324 + (r (2 : Int32).toNatClampNeg)).toNatClampNeg ((upd r (294 + (r (2 : Int32).toNatClampNeg)).toNatClampNeg (r (198 + p1).toNatClampNeg)) (150 + p1).toNatClampNeg)) (354 + (r (2 : Int32).toNatClampNeg)).toNatClampNeg p2) (174 + p1).toNatClampNeg))) hS 0 0 rfl rfl (by unfold vp_in; decide) dX8_goBuild_60 (fun H locs hP _ hS => ?_)
  have hP : va_P D vwC (rowW cs q (upd (upd (upd (upd (upd r (294 + (r (2 : Int32).toNatClampNeg)).toNatClampNeg (r (198 + p1).toNatClampNeg)) (324 + (r (2 : Int32).toNatClampNeg)).toNatClampNeg ((upd r (294 + (r (2 : Int32).toNatClampNeg)).toNatClampNeg (r (198 + p1).toNatClampNeg)) (150 + p1).toNatClampNeg)) (354 + (r (2 : Int32).toNatClampNeg)).toNatClampNeg p2) (384 + (r (2 : Int32).toNatClampNeg)).toNatClampNeg ((upd (upd (upd r (294 + (r (2 : Int32).toNatClampNeg)).toNatClampNeg (r (198 + p1).toNatClampNeg)) (324 + (r (2 : Int32).toNatClampNeg)).toNatClampNeg ((upd r (294 + (r (2 : Int32).toNatClampNeg)).toNatClampNeg (r (198 + p1).toNatClampNeg)) (150 + p1).toNatClampNeg)) (354 + (r (2 : Int32).toNatClampNeg)).toNatClampNeg p2) (174 + p1).toNatClampNeg)) (2 : Int32).toNatClampNeg (((upd (upd (upd (upd r (294 + (r (2 : Int32).toNatClampNeg)).toNatClampNeg (r (198 + p1).toNatClampNeg)) (324 + (r (2 : Int32).toNatClampNeg)).toNatClampNeg ((upd r (294 + (r (2 : Int32).toNatClampNeg)).toNatClampNeg (r (198 + p1).toNatClampNeg)) (150 + p1).toNatClampNeg)) (354 + (r (2 : Int32).toNatClampNeg)).toNatClampNeg p2) (384 + (r (2 : Int32).toNatClampNeg)).toNatClampNeg ((upd (upd (upd r (294 + (r (2 : Int32).toNatClampNeg)).toNatClampNeg (r (198 + p1).toNatClampNeg)) (324 + (r (2 : Int32).toNatClampNeg)).toNatClampNeg ((upd r (294 + (r (2 : Int32).toNatClampNeg)).toNatClampNeg (r (198 + p1).toNatClampNeg)) (150 + p1).toNatClampNeg)) (354 + (r (2 : Int32).toNatClampNeg)).toNatClampNeg p2) (174 + p1).toNatClampNeg)) (2 : Int32).toNatClampNeg) + 1))) H := hP
  refine lv_iload_n hx hb dX8_goBuild_61 rfl (lv_at hl 0 rfl) ?_
  exact W.iret (v := r (2 : Int32).toNatClampNeg) hx hb hr (fun t ht hW => ⟨⟨r (2 : Int32).toNatClampNeg, (upd (upd (upd (upd (upd r (294 + (r (2 : Int32).toNatClampNeg)).toNatClampNeg (r (198 + p1).toNatClampNeg)) (324 + (r (2 : Int32).toNatClampNeg)).toNatClampNeg ((upd r (294 + (r (2 : Int32).toNatClampNeg)).toNatClampNeg (r (198 + p1).toNatClampNeg)) (150 + p1).toNatClampNeg)) (354 + (r (2 : Int32).toNatClampNeg)).toNatClampNeg p2) (384 + (r (2 : Int32).toNatClampNeg)).toNatClampNeg ((upd (upd (upd r (294 + (r (2 : Int32).toNatClampNeg)).toNatClampNeg (r (198 + p1).toNatClampNeg)) (324 + (r (2 : Int32).toNatClampNeg)).toNatClampNeg ((upd r (294 + (r (2 : Int32).toNatClampNeg)).toNatClampNeg (r (198 + p1).toNatClampNeg)) (150 + p1).toNatClampNeg)) (354 + (r (2 : Int32).toNatClampNeg)).toNatClampNeg p2) (174 + p1).toNatClampNeg)) (2 : Int32).toNatClampNeg (((upd (upd (upd (upd r (294 + (r (2 : Int32).toNatClampNeg)).toNatClampNeg (r (198 + p1).toNatClampNeg)) (324 + (r (2 : Int32).toNatClampNeg)).toNatClampNeg ((upd r (294 + (r (2 : Int32).toNatClampNeg)).toNatClampNeg (r (198 + p1).toNatClampNeg)) (150 + p1).toNatClampNeg)) (354 + (r (2 : Int32).toNatClampNeg)).toNatClampNeg p2) (384 + (r (2 : Int32).toNatClampNeg)).toNatClampNeg ((upd (upd (upd r (294 + (r (2 : Int32).toNatClampNeg)).toNatClampNeg (r (198 + p1).toNatClampNeg)) (324 + (r (2 : Int32).toNatClampNeg)).toNatClampNeg ((upd r (294 + (r (2 : Int32).toNatClampNeg)).toNatClampNeg (r (198 + p1).toNatClampNeg)) (150 + p1).toNatClampNeg)) (354 + (r (2 : Int32).toNatClampNeg)).toNatClampNeg p2) (174 + p1).toNatClampNeg)) (2 : Int32).toNatClampNeg) + 1)), rfl, pair_eq hv, pw ht hP⟩, hS.F ht⟩) hS.2.2 dX8_goBuild_62 (hlocks := hlocks)
theorem hd_X8_goRun : yX8_goRun.cls ≠ "java/lang/invoke/MethodHandle" ∧ yX8_goRun.cls ≠ "java/lang/invoke/VarHandle" ∧ (parseMethodDescriptor yX8_goRun.desc).map (fun d => d.parameters.length) = some 2 := by decide +kernel
def LX8_goRun_4 (r : Nat → Int32) (p1 : Int32) : Nat → Int32 → Int32 → (Nat → Int32) → Int32 × (Nat → Int32)
  | 0 => fun _ _ _ => (0, r)
  | n + 1 => fun x2 x3 O9 => (if p1 ≤ x3 then (x2, (upd O9 (4 : Int32).toNatClampNeg ((O9 (4 : Int32).toNatClampNeg) + x2))) else (LX8_goRun_4 r p1 n (x2 + ((sX8_overdue (upd O9 (3 : Int32).toNatClampNeg ((O9 (3 : Int32).toNatClampNeg) + 1)) ((upd O9 (3 : Int32).toNatClampNeg ((O9 (3 : Int32).toNatClampNeg) + 1)) (3 : Int32).toNatClampNeg)) * ((upd O9 (3 : Int32).toNatClampNeg ((O9 (3 : Int32).toNatClampNeg) + 1)) (7 : Int32).toNatClampNeg))) (x3 + 1) (upd O9 (3 : Int32).toNatClampNeg ((O9 (3 : Int32).toNatClampNeg) + 1))))
theorem LX8_goRun_4_eq (r : Nat → Int32) (p1 : Int32) (n : Nat) (x2 : Int32) (x3 : Int32) (O9 : (Nat → Int32)) : LX8_goRun_4 r p1 (n + 1) x2 x3 O9 = (if p1 ≤ x3 then (x2, (upd O9 (4 : Int32).toNatClampNeg ((O9 (4 : Int32).toNatClampNeg) + x2))) else (LX8_goRun_4 r p1 n (x2 + ((sX8_overdue (upd O9 (3 : Int32).toNatClampNeg ((O9 (3 : Int32).toNatClampNeg) + 1)) ((upd O9 (3 : Int32).toNatClampNeg ((O9 (3 : Int32).toNatClampNeg) + 1)) (3 : Int32).toNatClampNeg)) * ((upd O9 (3 : Int32).toNatClampNeg ((O9 (3 : Int32).toNatClampNeg) + 1)) (7 : Int32).toNatClampNeg))) (x3 + 1) (upd O9 (3 : Int32).toNatClampNeg ((O9 (3 : Int32).toNatClampNeg) + 1)))) := rfl
def sX8_goRun (r : Nat → Int32) (p1 : Int32) : Int32 × (Nat → Int32) := (LX8_goRun_4 r p1 (upM p1 0 + 1) 0 0 r)
set_option maxHeartbeats 4000000 in
set_option maxRecDepth 100000 in
theorem c_X8_goRun (l : Launch) (D : va_G) (cs : Nat → ClassId) (q : Nat) (r : Nat → Int32) (p1 : Int32) (hv0 : (r 1).toInt ≤ 24) : Met l yX8_goRun (wc yX8_goRun cX8_goRun 4 (some .int)) ({ frames := 4, cells := 0, slots := 0, locals := 87 } : Room) (va_Pc [.ref q, .int p1] (PE D cs (rowW cs q r))) (va_Qi (fun (r9 : Int32) (u : (Nat → Int32)) => r9 = (sX8_goRun r p1).1 ∧ u = (sX8_goRun r p1).2) (fun u t => va_P D vwC (rowW cs q u) t.heap) (rA q)) 0 0 (rA q) := by
  obtain ⟨v, hv⟩ : ∃ v, sX8_goRun r p1 = v := ⟨_, rfl⟩
  rw [hv]
  refine met_o (lv := [(0, .ref q), (1, .int p1)]) (by decide) (Nat.le_of_ble_eq_true rfl) rfl ?_
  intro p e s m args below meth c ls hx hb hr hml hts hown hlocks hin hP hE hl
  have hown : s.vm.findClass RX8 = some m.cls := hown
  have hK := hE.1
  have hP : va_P D vwC (rowW cs q r) s.heap := hP
  have hS : va_S (rA q) s.heap s.heap [] := va_S.rf
  unfold sX8_goRun at hv
  refine lv_iconst (v := 0) hx hb dX8_goRun_0 (by decide) ?_
  refine lv_istore_n (lv' := [(2, .int 0), (0, .ref q), (1, .int p1)]) hx hb dX8_goRun_1 rfl hl (by decide) rfl (fun ls hl => ?_)
  refine lv_iconst (v := 0) hx hb dX8_goRun_2 (by decide) ?_
  refine lv_istore_n (lv' := [(3, .int 0), (2, .int 0), (0, .ref q), (1, .int p1)]) hx hb dX8_goRun_3 rfl hl (by decide) rfl (fun ls hl => ?_)
  have LOOP : ∀ (n : Nat) (x2 : Int32) (x3 : Int32) (O9 : (Nat → Int32)), upM p1 x3 < n → (O9 1 = r 1) → LX8_goRun_4 r p1 n x2 x3 O9 = v → ∀ (H : Heap) (locs : List Loc), va_P D vwC (rowW cs q O9) H → va_S (rA q) s.heap H locs → ∀ ls : Array Slot, lv_has ls 4 [(0, .ref q), (1, .int p1), (2, .int x2), (3, .int x3)] → W p l e ({ frames := 4, cells := 0, slots := 0, locals := 87 } : Room) s m args below meth c H locs 0 0 (MQ below (va_Qi (fun (r9 : Int32) (u : (Nat → Int32)) => r9 = v.1 ∧ u = v.2) (fun u t => va_P D vwC (rowW cs q u) t.heap) (rA q)) args s 0 0 (rA q)) (F0 m 4 ls []) := by
    clear hv
    intro n
    induction n with
    | zero => intro x2 x3 O9 hm; exact absurd hm (Nat.not_lt_zero _)
    | succ n ih =>
      intro x2 x3 O9 hm i0 hv H locs hP hS ls hl
      have hv := (LX8_goRun_4_eq r p1 n x2 x3 O9).symm.trans hv
      refine lv_iload_n hx hb dX8_goRun_4 rfl (lv_at hl 3 rfl) ?_
      refine lv_iload_n hx hb dX8_goRun_5 rfl (lv_at hl 1 rfl) ?_
      refine lv_icmp_ge (tgt := 37) hx hb dX8_goRun_6 (by decide) (fun c6 => ?_) (fun c6 => ?_)
      · have hv := (if_pos c6).symm.trans hv
        refine lv_aload_n hx hb dX8_goRun_37 rfl (lv_at hl 0 rfl) ?_
        refine lv_iconst (v := 4) hx hb dX8_goRun_38 (by decide) ?_
        refine lv_dup2_11 hx hb dX8_goRun_39 rfl rfl ?_
        refine va_iald (cA := cs 0) (n := 414) (f := O9) hx hb hK hP 0 0 rfl rfl (by unfold vp_in; decide) dX8_goRun_40 ?_
        refine lv_iload_n hx hb dX8_goRun_41 rfl (lv_at hl 2 rfl) ?_
        refine lv_iadd hx hb dX8_goRun_42 ?_
        refine va_iast (cA := cs 0) (n := 414) (f := O9) hx hb hK hP (row_D cs q O9) hS 0 0 rfl rfl (by unfold vp_in; decide) dX8_goRun_43 (fun H locs hP _ hS => ?_)
        have hP : va_P D vwC (rowW cs q (upd O9 (4 : Int32).toNatClampNeg ((O9 (4 : Int32).toNatClampNeg) + x2))) H := hP
        refine lv_iload_n hx hb dX8_goRun_44 rfl (lv_at hl 2 rfl) ?_
        exact W.iret (v := x2) hx hb hr (fun t ht hW => ⟨⟨x2, (upd O9 (4 : Int32).toNatClampNeg ((O9 (4 : Int32).toNatClampNeg) + x2)), rfl, pair_eq hv, pw ht hP⟩, hS.F ht⟩) hS.2.2 dX8_goRun_45 (hlocks := hlocks)
      · have hv := (if_neg c6).symm.trans hv
        refine lv_aload_n hx hb dX8_goRun_9 rfl (lv_at hl 0 rfl) ?_
        refine lv_iconst (v := 3) hx hb dX8_goRun_10 (by decide) ?_
        refine lv_dup2_11 hx hb dX8_goRun_11 rfl rfl ?_
        refine va_iald (cA := cs 0) (n := 414) (f := O9) hx hb hK hP 0 0 rfl rfl (by unfold vp_in; decide) dX8_goRun_12 ?_
        refine lv_iconst (v := 1) hx hb dX8_goRun_13 (by decide) ?_
        refine lv_iadd hx hb dX8_goRun_14 ?_
        refine va_iast (cA := cs 0) (n := 414) (f := O9) hx hb hK hP (row_D cs q O9) hS 0 0 rfl rfl (by unfold vp_in; decide) dX8_goRun_15 (fun H locs hP _ hS => ?_)
        have hP : va_P D vwC (rowW cs q (upd O9 (3 : Int32).toNatClampNeg ((O9 (3 : Int32).toNatClampNeg) + 1))) H := hP
        refine lv_iload_n hx hb dX8_goRun_16 rfl (lv_at hl 2 rfl) ?_
        refine lv_aload_n hx hb dX8_goRun_17 rfl (lv_at hl 0 rfl) ?_
        refine lv_aload_n hx hb dX8_goRun_18 rfl (lv_at hl 0 rfl) ?_
        refine lv_iconst (v := 3) hx hb dX8_goRun_19 (by decide) ?_
        refine va_iald (cA := cs 0) (n := 414) (f := (upd O9 (3 : Int32).toNatClampNeg ((O9 (3 : Int32).toNatClampNeg) + 1))) hx hb hK hP 0 0 rfl rfl (by unfold vp_in; decide) dX8_goRun_20 ?_
        refine ro_i (sX8_overdue (upd O9 (3 : Int32).toNatClampNeg ((O9 (3 : Int32).toNatClampNeg) + 1)) ((upd O9 (3 : Int32).toNatClampNeg ((O9 (3 : Int32).toNatClampNeg) + 1)) (3 : Int32).toNatClampNeg)) (run_c (va_runS (As := [.ref q, .int ((upd O9 (3 : Int32).toNatClampNeg ((O9 (3 : Int32).toNatClampNeg) + 1)) (3 : Int32).toNatClampNeg)]) (rest := [.int x2]) ⟨hx, hb, hml, hown, hts⟩ (c_X8_overdue l D cs q (upd O9 (3 : Int32).toNatClampNeg ((O9 (3 : Int32).toNatClampNeg) + 1)) ((upd O9 (3 : Int32).toNatClampNeg ((O9 (3 : Int32).toNatClampNeg) + 1)) (3 : Int32).toNatClampNeg) (by show (O9 1).toInt ≤ 24; rw [i0]; exact hv0)) (cwS 2 hts (good_S w_ml_X8_94 w_st_X8_overdue w_in_X8 w_co_X8_overdue) rfl rfl rfl ⟨rfl, hd_X8_overdue⟩ ⟨Nat.le_of_ble_eq_true rfl, Nat.le_of_ble_eq_true rfl⟩) (pe_S hP hE) rfl rfl hl.1 rfl (lv_room (Nat.le_of_ble_eq_true rfl)) dX8_goRun_21 ⟨Nat.zero_le _, Nat.zero_le _⟩)) ?_
        refine lv_aload_n hx hb dX8_goRun_24 rfl (lv_at hl 0 rfl) ?_
        refine lv_bipush (v := 7) hx hb dX8_goRun_25 (by decide) ?_
        refine va_iald (cA := cs 0) (n := 414) (f := (upd O9 (3 : Int32).toNatClampNeg ((O9 (3 : Int32).toNatClampNeg) + 1))) hx hb hK hP 0 0 rfl rfl (by unfold vp_in; decide) dX8_goRun_27 ?_
        refine lv_imul hx hb dX8_goRun_28 ?_
        refine lv_iadd hx hb dX8_goRun_29 ?_
        refine lv_istore_n (lv' := [(2, .int (x2 + ((sX8_overdue (upd O9 (3 : Int32).toNatClampNeg ((O9 (3 : Int32).toNatClampNeg) + 1)) ((upd O9 (3 : Int32).toNatClampNeg ((O9 (3 : Int32).toNatClampNeg) + 1)) (3 : Int32).toNatClampNeg)) * ((upd O9 (3 : Int32).toNatClampNeg ((O9 (3 : Int32).toNatClampNeg) + 1)) (7 : Int32).toNatClampNeg)))), (0, .ref q), (1, .int p1), (3, .int x3)]) hx hb dX8_goRun_30 rfl hl (by decide) rfl (fun ls hl => ?_)
        refine lv_iinc (v := x3 + 1) (lv' := [(3, .int (x3 + 1)), (2, .int (x2 + ((sX8_overdue (upd O9 (3 : Int32).toNatClampNeg ((O9 (3 : Int32).toNatClampNeg) + 1)) ((upd O9 (3 : Int32).toNatClampNeg ((O9 (3 : Int32).toNatClampNeg) + 1)) (3 : Int32).toNatClampNeg)) * ((upd O9 (3 : Int32).toNatClampNeg ((O9 (3 : Int32).toNatClampNeg) + 1)) (7 : Int32).toNatClampNeg)))), (0, .ref q), (1, .int p1)]) hx hb dX8_goRun_31 hl (k := 3) rfl rfl (by decide) rfl (fun ls hl => ?_)
        refine lv_goto (tgt := 4) hx hb dX8_goRun_34 (by decide) ?_
        exact ih (x2 + ((sX8_overdue (upd O9 (3 : Int32).toNatClampNeg ((O9 (3 : Int32).toNatClampNeg) + 1)) ((upd O9 (3 : Int32).toNatClampNeg ((O9 (3 : Int32).toNatClampNeg) + 1)) (3 : Int32).toNatClampNeg)) * ((upd O9 (3 : Int32).toNatClampNeg ((O9 (3 : Int32).toNatClampNeg) + 1)) (7 : Int32).toNatClampNeg))) (x3 + 1) (upd O9 (3 : Int32).toNatClampNeg ((O9 (3 : Int32).toNatClampNeg) + 1)) (upM_s c6 hm) i0 hv _ _ hP hS ls (lv_sub hl [2, 3, 1, 0] rfl)
  exact LOOP _ 0 0 r (Nat.lt_succ_self _) rfl hv _ _ hP hS ls (lv_sub hl [2, 3, 1, 0] rfl)
theorem hd_X8_out : yX8_out.cls ≠ "java/lang/invoke/MethodHandle" ∧ yX8_out.cls ≠ "java/lang/invoke/VarHandle" ∧ (parseMethodDescriptor yX8_out.desc).map (fun d => d.parameters.length) = some 2 := by decide +kernel
def LX8_out_4 (r : Nat → Int32) (p1 : Bool) : Nat → Int32 → Int32 → Int32
  | 0 => fun _ _ => 0
  | n + 1 => fun x2 x3 => (if (r (1 : Int32).toNatClampNeg) ≤ x3 then x2 else (LX8_out_4 r p1 n (x2 + (b2i (if (sX8_isOut r x3) = true then (if p1 = true then (if (sX8_isRecalled r x3) = true then true else false) else true) else false))) (x3 + 1)))
theorem LX8_out_4_eq (r : Nat → Int32) (p1 : Bool) (n : Nat) (x2 : Int32) (x3 : Int32) : LX8_out_4 r p1 (n + 1) x2 x3 = (if (r (1 : Int32).toNatClampNeg) ≤ x3 then x2 else (LX8_out_4 r p1 n (x2 + (b2i (if (sX8_isOut r x3) = true then (if p1 = true then (if (sX8_isRecalled r x3) = true then true else false) else true) else false))) (x3 + 1))) := rfl
def sX8_out (r : Nat → Int32) (p1 : Bool) : Int32 := (LX8_out_4 r p1 (upM (r (1 : Int32).toNatClampNeg) 0 + 1) 0 0)
set_option maxHeartbeats 4000000 in
set_option maxRecDepth 100000 in
theorem c_X8_out (l : Launch) (D : va_G) (cs : Nat → ClassId) (q : Nat) (r : Nat → Int32) (p1 : Bool) (hv0 : (r 1).toInt ≤ 24) : Met l yX8_out (wc yX8_out cX8_out 4 (some .int)) ({ frames := 2, cells := 0, slots := 0, locals := 42 } : Room) (va_Pc [.ref q, .int (b2i p1)] (PE D cs (rowW cs q r))) (vp_Si (fun r9 => r9 = (sX8_out r p1))) 0 0 (fun _ => False) := by
  obtain ⟨v, hv⟩ : ∃ v, sX8_out r p1 = v := ⟨_, rfl⟩
  rw [hv]
  refine met_o (lv := [(0, .ref q), (1, .int (b2i p1))]) (by decide) (Nat.le_of_ble_eq_true rfl) rfl ?_
  intro p e s m args below meth c ls hx hb hr hml hts hown hlocks hin hP hE hl
  have hown : s.vm.findClass RX8 = some m.cls := hown
  have hK := hE.1
  have hP : va_P D vwC (rowW cs q r) s.heap := hP
  unfold sX8_out at hv
  refine lv_iconst (v := 0) hx hb dX8_out_0 (by decide) ?_
  refine lv_istore_n (lv' := [(2, .int 0), (0, .ref q), (1, .int (b2i p1))]) hx hb dX8_out_1 rfl hl (by decide) rfl (fun ls hl => ?_)
  refine lv_iconst (v := 0) hx hb dX8_out_2 (by decide) ?_
  refine lv_istore_n (lv' := [(3, .int 0), (2, .int 0), (0, .ref q), (1, .int (b2i p1))]) hx hb dX8_out_3 rfl hl (by decide) rfl (fun ls hl => ?_)
  have LOOP : ∀ (n : Nat) (x2 : Int32) (x3 : Int32), upM (r (1 : Int32).toNatClampNeg) x3 < n → (¬ x3 < 0) → LX8_out_4 r p1 n x2 x3 = v → ∀ ls : Array Slot, lv_has ls 4 [(0, .ref q), (1, .int (b2i p1)), (2, .int x2), (3, .int x3)] → W p l e ({ frames := 2, cells := 0, slots := 0, locals := 42 } : Room) s m args below meth c s.heap [] 0 0 (MQ below (vp_Si (fun r9 => r9 = v)) args s 0 0 (fun _ => False)) (F0 m 4 ls []) := by
    clear hv
    intro n
    induction n with
    | zero => intro x2 x3 hm; exact absurd hm (Nat.not_lt_zero _)
    | succ n ih =>
      intro x2 x3 hm i0 hv ls hl
      have hv := (LX8_out_4_eq r p1 n x2 x3).symm.trans hv
      refine lv_iload_n hx hb dX8_out_4 rfl (lv_at hl 3 rfl) ?_
      refine lv_aload_n hx hb dX8_out_5 rfl (lv_at hl 0 rfl) ?_
      refine lv_iconst (v := 1) hx hb dX8_out_6 (by decide) ?_
      refine va_iald (cA := cs 0) (n := 414) (f := r) hx hb hK hP 0 0 rfl rfl (by unfold vp_in; decide) dX8_out_7 ?_
      refine lv_icmp_ge (tgt := 45) hx hb dX8_out_8 (by decide) (fun c8 => ?_) (fun c8 => ?_)
      · have hv := (if_pos c8).symm.trans hv
        refine lv_iload_n hx hb dX8_out_45 rfl (lv_at hl 2 rfl) ?_
        exact W.iret (v := x2) hx hb hr (fun t ht hW => ⟨x2, rfl, hv, ht⟩) (fun _ h => nomatch h) dX8_out_46 (hlocks := hlocks)
      · have hv := (if_neg c8).symm.trans hv
        refine lv_iload_n hx hb dX8_out_11 rfl (lv_at hl 2 rfl) ?_
        refine lv_aload_n hx hb dX8_out_12 rfl (lv_at hl 0 rfl) ?_
        refine lv_iload_n hx hb dX8_out_13 rfl (lv_at hl 3 rfl) ?_
        refine ro_i (b2i (sX8_isOut r x3)) (run_c (va_runS (As := [.ref q, .int x3]) (rest := [.int x2]) ⟨hx, hb, hml, hown, hts⟩ (c_X8_isOut l D cs q r x3) (cwS 2 hts (good_S w_ml_X8_70 w_st_X8_isOut w_in_X8 w_co_X8_isOut) rfl rfl rfl ⟨rfl, hd_X8_isOut⟩ ⟨Nat.le_of_ble_eq_true rfl, Nat.le_of_ble_eq_true rfl⟩) (pe_S hP hE) rfl rfl hl.1 rfl (lv_room (Nat.le_of_ble_eq_true rfl)) dX8_out_14 ⟨Nat.zero_le _, Nat.zero_le _⟩)) ?_
        refine join_i (J := 37) (ls := ls) (rest := [.int x2]) (b2i (if (sX8_isOut r x3) = true then (if p1 = true then (if (sX8_isRecalled r x3) = true then true else false) else true) else false)) ?_ (fun hJ => ?_)
        · refine lv_iadd hx hb dX8_out_37 ?_
          refine lv_istore_n (lv' := [(2, .int (x2 + (b2i (if (sX8_isOut r x3) = true then (if p1 = true then (if (sX8_isRecalled r x3) = true then true else false) else true) else false)))), (0, .ref q), (1, .int (b2i p1)), (3, .int x3)]) hx hb dX8_out_38 rfl hl (by decide) rfl (fun ls hl => ?_)
          refine lv_iinc (v := x3 + 1) (lv' := [(3, .int (x3 + 1)), (2, .int (x2 + (b2i (if (sX8_isOut r x3) = true then (if p1 = true then (if (sX8_isRecalled r x3) = true then true else false) else true) else false)))), (0, .ref q), (1, .int (b2i p1))]) hx hb dX8_out_39 hl (k := 3) rfl rfl (by decide) rfl (fun ls hl => ?_)
          refine lv_goto (tgt := 4) hx hb dX8_out_42 (by decide) ?_
          exact ih (x2 + (b2i (if (sX8_isOut r x3) = true then (if p1 = true then (if (sX8_isRecalled r x3) = true then true else false) else true) else false))) (x3 + 1) (upM_s c8 hm) (nn_inc i0 c8) hv ls (lv_sub hl [2, 3, 1, 0] rfl)
        · refine lv_if_eq (tgt := 36) hx hb dX8_out_17 (by decide) (fun c17 => ?_) (fun c17 => ?_)
          · have c17 := b2i_f c17
            refine lv_iconst (v := 0) hx hb dX8_out_36 (by decide) ?_
            exact hJ _ (congrArg b2i ((if_neg c17).trans rfl))
          · have c17 := b2i_t c17
            refine lv_iload_n hx hb dX8_out_20 rfl (lv_at hl 1 rfl) ?_
            refine lv_if_eq (tgt := 32) hx hb dX8_out_21 (by decide) (fun c21 => ?_) (fun c21 => ?_)
            · have c21 := b2i_f c21
              refine lv_iconst (v := 1) hx hb dX8_out_32 (by decide) ?_
              refine lv_goto (tgt := 37) hx hb dX8_out_33 (by decide) ?_
              exact hJ _ (congrArg b2i ((if_pos c17).trans ((if_neg c21).trans rfl)))
            · have c21 := b2i_t c21
              refine lv_aload_n hx hb dX8_out_24 rfl (lv_at hl 0 rfl) ?_
              refine lv_iload_n hx hb dX8_out_25 rfl (lv_at hl 3 rfl) ?_
              refine ro_i (b2i (sX8_isRecalled r x3)) (run_c (va_runS (As := [.ref q, .int x3]) (rest := [.int x2]) ⟨hx, hb, hml, hown, hts⟩ (c_X8_isRecalled l D cs q r x3 (cnt_in hv0 i0 c8)) (cwS 2 hts (good_S w_ml_X8_74 w_st_X8_isRecalled w_in_X8 w_co_X8_isRecalled) rfl rfl rfl ⟨rfl, hd_X8_isRecalled⟩ ⟨Nat.le_of_ble_eq_true rfl, Nat.le_of_ble_eq_true rfl⟩) (pe_S hP hE) rfl rfl hl.1 rfl (lv_room (Nat.le_of_ble_eq_true rfl)) dX8_out_26 ⟨Nat.zero_le _, Nat.zero_le _⟩)) ?_
              refine lv_if_eq (tgt := 36) hx hb dX8_out_29 (by decide) (fun c29 => ?_) (fun c29 => ?_)
              · have c29 := b2i_f c29
                refine lv_iconst (v := 0) hx hb dX8_out_36 (by decide) ?_
                exact hJ _ (congrArg b2i ((if_pos c17).trans ((if_pos c21).trans ((if_neg c29).trans rfl))))
              · have c29 := b2i_t c29
                refine lv_iconst (v := 1) hx hb dX8_out_32 (by decide) ?_
                refine lv_goto (tgt := 37) hx hb dX8_out_33 (by decide) ?_
                exact hJ _ (congrArg b2i ((if_pos c17).trans ((if_pos c21).trans ((if_pos c29).trans rfl))))
  exact LOOP _ 0 0 (Nat.lt_succ_self _) (by decide) hv ls (lv_sub hl [2, 3, 1, 0] rfl)
theorem hd_X8_outOf : yX8_outOf.cls ≠ "java/lang/invoke/MethodHandle" ∧ yX8_outOf.cls ≠ "java/lang/invoke/VarHandle" ∧ (parseMethodDescriptor yX8_outOf.desc).map (fun d => d.parameters.length) = some 2 := by decide +kernel
def LX8_outOf_4 (r : Nat → Int32) (p1 : Int32) : Nat → Int32 → Int32 → Int32
  | 0 => fun _ _ => 0
  | n + 1 => fun x2 x3 => (if (r (1 : Int32).toNatClampNeg) ≤ x3 then x2 else (LX8_outOf_4 r p1 n (x2 + (b2i (if (r (150 + x3).toNatClampNeg) = p1 then (if (sX8_isOut r x3) = true then true else false) else false))) (x3 + 1)))
theorem LX8_outOf_4_eq (r : Nat → Int32) (p1 : Int32) (n : Nat) (x2 : Int32) (x3 : Int32) : LX8_outOf_4 r p1 (n + 1) x2 x3 = (if (r (1 : Int32).toNatClampNeg) ≤ x3 then x2 else (LX8_outOf_4 r p1 n (x2 + (b2i (if (r (150 + x3).toNatClampNeg) = p1 then (if (sX8_isOut r x3) = true then true else false) else false))) (x3 + 1))) := rfl
def sX8_outOf (r : Nat → Int32) (p1 : Int32) : Int32 := (LX8_outOf_4 r p1 (upM (r (1 : Int32).toNatClampNeg) 0 + 1) 0 0)
set_option maxHeartbeats 4000000 in
set_option maxRecDepth 100000 in
theorem c_X8_outOf (l : Launch) (D : va_G) (cs : Nat → ClassId) (q : Nat) (r : Nat → Int32) (p1 : Int32) (hv0 : (r 1).toInt ≤ 24) : Met l yX8_outOf (wc yX8_outOf cX8_outOf 4 (some .int)) ({ frames := 2, cells := 0, slots := 0, locals := 42 } : Room) (va_Pc [.ref q, .int p1] (PE D cs (rowW cs q r))) (vp_Si (fun r9 => r9 = (sX8_outOf r p1))) 0 0 (fun _ => False) := by
  obtain ⟨v, hv⟩ : ∃ v, sX8_outOf r p1 = v := ⟨_, rfl⟩
  rw [hv]
  refine met_o (lv := [(0, .ref q), (1, .int p1)]) (by decide) (Nat.le_of_ble_eq_true rfl) rfl ?_
  intro p e s m args below meth c ls hx hb hr hml hts hown hlocks hin hP hE hl
  have hown : s.vm.findClass RX8 = some m.cls := hown
  have hK := hE.1
  have hP : va_P D vwC (rowW cs q r) s.heap := hP
  unfold sX8_outOf at hv
  refine lv_iconst (v := 0) hx hb dX8_outOf_0 (by decide) ?_
  refine lv_istore_n (lv' := [(2, .int 0), (0, .ref q), (1, .int p1)]) hx hb dX8_outOf_1 rfl hl (by decide) rfl (fun ls hl => ?_)
  refine lv_iconst (v := 0) hx hb dX8_outOf_2 (by decide) ?_
  refine lv_istore_n (lv' := [(3, .int 0), (2, .int 0), (0, .ref q), (1, .int p1)]) hx hb dX8_outOf_3 rfl hl (by decide) rfl (fun ls hl => ?_)
  have LOOP : ∀ (n : Nat) (x2 : Int32) (x3 : Int32), upM (r (1 : Int32).toNatClampNeg) x3 < n → (¬ x3 < 0) → LX8_outOf_4 r p1 n x2 x3 = v → ∀ ls : Array Slot, lv_has ls 4 [(0, .ref q), (1, .int p1), (2, .int x2), (3, .int x3)] → W p l e ({ frames := 2, cells := 0, slots := 0, locals := 42 } : Room) s m args below meth c s.heap [] 0 0 (MQ below (vp_Si (fun r9 => r9 = v)) args s 0 0 (fun _ => False)) (F0 m 4 ls []) := by
    clear hv
    intro n
    induction n with
    | zero => intro x2 x3 hm; exact absurd hm (Nat.not_lt_zero _)
    | succ n ih =>
      intro x2 x3 hm i0 hv ls hl
      have hv := (LX8_outOf_4_eq r p1 n x2 x3).symm.trans hv
      refine lv_iload_n hx hb dX8_outOf_4 rfl (lv_at hl 3 rfl) ?_
      refine lv_aload_n hx hb dX8_outOf_5 rfl (lv_at hl 0 rfl) ?_
      refine lv_iconst (v := 1) hx hb dX8_outOf_6 (by decide) ?_
      refine va_iald (cA := cs 0) (n := 414) (f := r) hx hb hK hP 0 0 rfl rfl (by unfold vp_in; decide) dX8_outOf_7 ?_
      refine lv_icmp_ge (tgt := 44) hx hb dX8_outOf_8 (by decide) (fun c8 => ?_) (fun c8 => ?_)
      · have hv := (if_pos c8).symm.trans hv
        refine lv_iload_n hx hb dX8_outOf_44 rfl (lv_at hl 2 rfl) ?_
        exact W.iret (v := x2) hx hb hr (fun t ht hW => ⟨x2, rfl, hv, ht⟩) (fun _ h => nomatch h) dX8_outOf_45 (hlocks := hlocks)
      · have hv := (if_neg c8).symm.trans hv
        have f1 := cnt_in hv0 i0 c8
        refine lv_iload_n hx hb dX8_outOf_11 rfl (lv_at hl 2 rfl) ?_
        refine lv_aload_n hx hb dX8_outOf_12 rfl (lv_at hl 0 rfl) ?_
        refine lv_sipush (v := 150) hx hb dX8_outOf_13 (by decide) ?_
        refine lv_iload_n hx hb dX8_outOf_16 rfl (lv_at hl 3 rfl) ?_
        refine lv_iadd hx hb dX8_outOf_17 ?_
        refine va_iald (cA := cs 0) (n := 414) (f := r) hx hb hK hP 0 0 rfl rfl (vp_off (K := 150) rfl (by assumption) (by decide) (by decide)) dX8_outOf_18 ?_
        refine lv_iload_n hx hb dX8_outOf_19 rfl (lv_at hl 1 rfl) ?_
        refine join_i (J := 36) (ls := ls) (rest := [.int x2]) (b2i (if (r (150 + x3).toNatClampNeg) = p1 then (if (sX8_isOut r x3) = true then true else false) else false)) ?_ (fun hJ => ?_)
        · refine lv_iadd hx hb dX8_outOf_36 ?_
          refine lv_istore_n (lv' := [(2, .int (x2 + (b2i (if (r (150 + x3).toNatClampNeg) = p1 then (if (sX8_isOut r x3) = true then true else false) else false)))), (0, .ref q), (1, .int p1), (3, .int x3)]) hx hb dX8_outOf_37 rfl hl (by decide) rfl (fun ls hl => ?_)
          refine lv_iinc (v := x3 + 1) (lv' := [(3, .int (x3 + 1)), (2, .int (x2 + (b2i (if (r (150 + x3).toNatClampNeg) = p1 then (if (sX8_isOut r x3) = true then true else false) else false)))), (0, .ref q), (1, .int p1)]) hx hb dX8_outOf_38 hl (k := 3) rfl rfl (by decide) rfl (fun ls hl => ?_)
          refine lv_goto (tgt := 4) hx hb dX8_outOf_41 (by decide) ?_
          exact ih (x2 + (b2i (if (r (150 + x3).toNatClampNeg) = p1 then (if (sX8_isOut r x3) = true then true else false) else false))) (x3 + 1) (upM_s c8 hm) (nn_inc i0 c8) hv ls (lv_sub hl [2, 3, 1, 0] rfl)
        · refine lv_icmp_ne (tgt := 35) hx hb dX8_outOf_20 (by decide) (fun c20 => ?_) (fun c20 => ?_)
          · refine lv_iconst (v := 0) hx hb dX8_outOf_35 (by decide) ?_
            exact hJ _ (congrArg b2i ((if_neg c20).trans rfl))
          · refine lv_aload_n hx hb dX8_outOf_23 rfl (lv_at hl 0 rfl) ?_
            refine lv_iload_n hx hb dX8_outOf_24 rfl (lv_at hl 3 rfl) ?_
            refine ro_i (b2i (sX8_isOut r x3)) (run_c (va_runS (As := [.ref q, .int x3]) (rest := [.int x2]) ⟨hx, hb, hml, hown, hts⟩ (c_X8_isOut l D cs q r x3) (cwS 2 hts (good_S w_ml_X8_70 w_st_X8_isOut w_in_X8 w_co_X8_isOut) rfl rfl rfl ⟨rfl, hd_X8_isOut⟩ ⟨Nat.le_of_ble_eq_true rfl, Nat.le_of_ble_eq_true rfl⟩) (pe_S hP hE) rfl rfl hl.1 rfl (lv_room (Nat.le_of_ble_eq_true rfl)) dX8_outOf_25 ⟨Nat.zero_le _, Nat.zero_le _⟩)) ?_
            refine lv_if_eq (tgt := 35) hx hb dX8_outOf_28 (by decide) (fun c28 => ?_) (fun c28 => ?_)
            · have c28 := b2i_f c28
              refine lv_iconst (v := 0) hx hb dX8_outOf_35 (by decide) ?_
              exact hJ _ (congrArg b2i ((if_pos c20).trans ((if_neg c28).trans rfl)))
            · have c28 := b2i_t c28
              refine lv_iconst (v := 1) hx hb dX8_outOf_31 (by decide) ?_
              refine lv_goto (tgt := 36) hx hb dX8_outOf_32 (by decide) ?_
              exact hJ _ (congrArg b2i ((if_pos c20).trans ((if_pos c28).trans rfl)))
  exact LOOP _ 0 0 (Nat.lt_succ_self _) (by decide) hv ls (lv_sub hl [2, 3, 1, 0] rfl)
theorem hd_X8_wrongOf : yX8_wrongOf.cls ≠ "java/lang/invoke/MethodHandle" ∧ yX8_wrongOf.cls ≠ "java/lang/invoke/VarHandle" ∧ (parseMethodDescriptor yX8_wrongOf.desc).map (fun d => d.parameters.length) = some 2 := by decide +kernel
def LX8_wrongOf_4 (r : Nat → Int32) (p1 : Int32) : Nat → Int32 → Int32 → Int32
  | 0 => fun _ _ => 0
  | n + 1 => fun x2 x3 => (if (r (2 : Int32).toNatClampNeg) ≤ x3 then x2 else (LX8_wrongOf_4 r p1 n (x2 + (b2i (if (r (324 + x3).toNatClampNeg) = p1 then (if (sX8_isWrong r x3) = true then true else false) else false))) (x3 + 1)))
theorem LX8_wrongOf_4_eq (r : Nat → Int32) (p1 : Int32) (n : Nat) (x2 : Int32) (x3 : Int32) : LX8_wrongOf_4 r p1 (n + 1) x2 x3 = (if (r (2 : Int32).toNatClampNeg) ≤ x3 then x2 else (LX8_wrongOf_4 r p1 n (x2 + (b2i (if (r (324 + x3).toNatClampNeg) = p1 then (if (sX8_isWrong r x3) = true then true else false) else false))) (x3 + 1))) := rfl
def sX8_wrongOf (r : Nat → Int32) (p1 : Int32) : Int32 := (LX8_wrongOf_4 r p1 (upM (r (2 : Int32).toNatClampNeg) 0 + 1) 0 0)
set_option maxHeartbeats 4000000 in
set_option maxRecDepth 100000 in
theorem c_X8_wrongOf (l : Launch) (D : va_G) (cs : Nat → ClassId) (q : Nat) (r : Nat → Int32) (p1 : Int32) (hv0 : MV r) : Met l yX8_wrongOf (wc yX8_wrongOf cX8_wrongOf 4 (some .int)) ({ frames := 1, cells := 0, slots := 0, locals := 21 } : Room) (va_Pc [.ref q, .int p1] (PE D cs (rowW cs q r))) (vp_Si (fun r9 => r9 = (sX8_wrongOf r p1))) 0 0 (fun _ => False) := by
  obtain ⟨v, hv⟩ : ∃ v, sX8_wrongOf r p1 = v := ⟨_, rfl⟩
  rw [hv]
  refine met_o (lv := [(0, .ref q), (1, .int p1)]) (by decide) (Nat.le_of_ble_eq_true rfl) rfl ?_
  intro p e s m args below meth c ls hx hb hr hml hts hown hlocks hin hP hE hl
  have hown : s.vm.findClass RX8 = some m.cls := hown
  have hK := hE.1
  have hP : va_P D vwC (rowW cs q r) s.heap := hP
  unfold sX8_wrongOf at hv
  refine lv_iconst (v := 0) hx hb dX8_wrongOf_0 (by decide) ?_
  refine lv_istore_n (lv' := [(2, .int 0), (0, .ref q), (1, .int p1)]) hx hb dX8_wrongOf_1 rfl hl (by decide) rfl (fun ls hl => ?_)
  refine lv_iconst (v := 0) hx hb dX8_wrongOf_2 (by decide) ?_
  refine lv_istore_n (lv' := [(3, .int 0), (2, .int 0), (0, .ref q), (1, .int p1)]) hx hb dX8_wrongOf_3 rfl hl (by decide) rfl (fun ls hl => ?_)
  have LOOP : ∀ (n : Nat) (x2 : Int32) (x3 : Int32), upM (r (2 : Int32).toNatClampNeg) x3 < n → (¬ x3 < 0) → LX8_wrongOf_4 r p1 n x2 x3 = v → ∀ ls : Array Slot, lv_has ls 4 [(0, .ref q), (1, .int p1), (2, .int x2), (3, .int x3)] → W p l e ({ frames := 1, cells := 0, slots := 0, locals := 21 } : Room) s m args below meth c s.heap [] 0 0 (MQ below (vp_Si (fun r9 => r9 = v)) args s 0 0 (fun _ => False)) (F0 m 4 ls []) := by
    clear hv
    intro n
    induction n with
    | zero => intro x2 x3 hm; exact absurd hm (Nat.not_lt_zero _)
    | succ n ih =>
      intro x2 x3 hm i0 hv ls hl
      have hv := (LX8_wrongOf_4_eq r p1 n x2 x3).symm.trans hv
      refine lv_iload_n hx hb dX8_wrongOf_4 rfl (lv_at hl 3 rfl) ?_
      refine lv_aload_n hx hb dX8_wrongOf_5 rfl (lv_at hl 0 rfl) ?_
      refine lv_iconst (v := 2) hx hb dX8_wrongOf_6 (by decide) ?_
      refine va_iald (cA := cs 0) (n := 414) (f := r) hx hb hK hP 0 0 rfl rfl (by unfold vp_in; decide) dX8_wrongOf_7 ?_
      refine lv_icmp_ge (tgt := 44) hx hb dX8_wrongOf_8 (by decide) (fun c8 => ?_) (fun c8 => ?_)
      · have hv := (if_pos c8).symm.trans hv
        refine lv_iload_n hx hb dX8_wrongOf_44 rfl (lv_at hl 2 rfl) ?_
        exact W.iret (v := x2) hx hb hr (fun t ht hW => ⟨x2, rfl, hv, ht⟩) (fun _ h => nomatch h) dX8_wrongOf_45 (hlocks := hlocks)
      · have hv := (if_neg c8).symm.trans hv
        have f1 := inW.v (r := r) hv0 (inX.of i0 c8)
        refine lv_iload_n hx hb dX8_wrongOf_11 rfl (lv_at hl 2 rfl) ?_
        refine lv_aload_n hx hb dX8_wrongOf_12 rfl (lv_at hl 0 rfl) ?_
        refine lv_sipush (v := 324) hx hb dX8_wrongOf_13 (by decide) ?_
        refine lv_iload_n hx hb dX8_wrongOf_16 rfl (lv_at hl 3 rfl) ?_
        refine lv_iadd hx hb dX8_wrongOf_17 ?_
        refine va_iald (cA := cs 0) (n := 414) (f := r) hx hb hK hP 0 0 rfl rfl (vp_off (K := 324) rfl (by assumption) (by decide) (by decide)) dX8_wrongOf_18 ?_
        refine lv_iload_n hx hb dX8_wrongOf_19 rfl (lv_at hl 1 rfl) ?_
        refine join_i (J := 36) (ls := ls) (rest := [.int x2]) (b2i (if (r (324 + x3).toNatClampNeg) = p1 then (if (sX8_isWrong r x3) = true then true else false) else false)) ?_ (fun hJ => ?_)
        · refine lv_iadd hx hb dX8_wrongOf_36 ?_
          refine lv_istore_n (lv' := [(2, .int (x2 + (b2i (if (r (324 + x3).toNatClampNeg) = p1 then (if (sX8_isWrong r x3) = true then true else false) else false)))), (0, .ref q), (1, .int p1), (3, .int x3)]) hx hb dX8_wrongOf_37 rfl hl (by decide) rfl (fun ls hl => ?_)
          refine lv_iinc (v := x3 + 1) (lv' := [(3, .int (x3 + 1)), (2, .int (x2 + (b2i (if (r (324 + x3).toNatClampNeg) = p1 then (if (sX8_isWrong r x3) = true then true else false) else false)))), (0, .ref q), (1, .int p1)]) hx hb dX8_wrongOf_38 hl (k := 3) rfl rfl (by decide) rfl (fun ls hl => ?_)
          refine lv_goto (tgt := 4) hx hb dX8_wrongOf_41 (by decide) ?_
          exact ih (x2 + (b2i (if (r (324 + x3).toNatClampNeg) = p1 then (if (sX8_isWrong r x3) = true then true else false) else false))) (x3 + 1) (upM_s c8 hm) (nn_inc i0 c8) hv ls (lv_sub hl [2, 3, 1, 0] rfl)
        · refine lv_icmp_ne (tgt := 35) hx hb dX8_wrongOf_20 (by decide) (fun c20 => ?_) (fun c20 => ?_)
          · refine lv_iconst (v := 0) hx hb dX8_wrongOf_35 (by decide) ?_
            exact hJ _ (congrArg b2i ((if_neg c20).trans rfl))
          · refine lv_aload_n hx hb dX8_wrongOf_23 rfl (lv_at hl 0 rfl) ?_
            refine lv_iload_n hx hb dX8_wrongOf_24 rfl (lv_at hl 3 rfl) ?_
            refine ro_i (b2i (sX8_isWrong r x3)) (run_c (va_runS (As := [.ref q, .int x3]) (rest := [.int x2]) ⟨hx, hb, hml, hown, hts⟩ (c_X8_isWrong l D cs q r x3 hv0 (inX.of i0 c8)) (cwS 2 hts (good_S w_ml_X8_81 w_st_X8_isWrong w_in_X8 w_co_X8_isWrong) rfl rfl rfl ⟨rfl, hd_X8_isWrong⟩ ⟨Nat.le_of_ble_eq_true rfl, Nat.le_of_ble_eq_true rfl⟩) (pe_S hP hE) rfl rfl hl.1 rfl (lv_room (Nat.le_of_ble_eq_true rfl)) dX8_wrongOf_25 ⟨Nat.zero_le _, Nat.zero_le _⟩)) ?_
            refine lv_if_eq (tgt := 35) hx hb dX8_wrongOf_28 (by decide) (fun c28 => ?_) (fun c28 => ?_)
            · have c28 := b2i_f c28
              refine lv_iconst (v := 0) hx hb dX8_wrongOf_35 (by decide) ?_
              exact hJ _ (congrArg b2i ((if_pos c20).trans ((if_neg c28).trans rfl)))
            · have c28 := b2i_t c28
              refine lv_iconst (v := 1) hx hb dX8_wrongOf_31 (by decide) ?_
              refine lv_goto (tgt := 36) hx hb dX8_wrongOf_32 (by decide) ?_
              exact hJ _ (congrArg b2i ((if_pos c20).trans ((if_pos c28).trans rfl)))
  exact LOOP _ 0 0 (Nat.lt_succ_self _) (by decide) hv ls (lv_sub hl [2, 3, 1, 0] rfl)
theorem hd_X8_first : yX8_first.cls ≠ "java/lang/invoke/MethodHandle" ∧ yX8_first.cls ≠ "java/lang/invoke/VarHandle" ∧ (parseMethodDescriptor yX8_first.desc).map (fun d => d.parameters.length) = some 3 := by decide +kernel
def LX8_first_9 (r : Nat → Int32) (p1 : Int32) (p2 : Int32) : Nat → Int32 → Int32 → Int32
  | 0 => fun _ _ => 0
  | n + 1 => fun x3 x4 => (if x4 < 0 then x3 else (LX8_first_9 r p1 p2 n (if (r (198 + x4).toNatClampNeg) = p1 then (if (r (150 + x4).toNatClampNeg) = p2 then (if (sX8_mayBuild r x4) = true then x4 else x3) else x3) else x3) (x4 + (-1))))
theorem LX8_first_9_eq (r : Nat → Int32) (p1 : Int32) (p2 : Int32) (n : Nat) (x3 : Int32) (x4 : Int32) : LX8_first_9 r p1 p2 (n + 1) x3 x4 = (if x4 < 0 then x3 else (LX8_first_9 r p1 p2 n (if (r (198 + x4).toNatClampNeg) = p1 then (if (r (150 + x4).toNatClampNeg) = p2 then (if (sX8_mayBuild r x4) = true then x4 else x3) else x3) else x3) (x4 + (-1)))) := rfl
def sX8_first (r : Nat → Int32) (p1 : Int32) (p2 : Int32) : Int32 := (LX8_first_9 r p1 p2 (dnM ((r (1 : Int32).toNatClampNeg) - 1) + 1) (-1) ((r (1 : Int32).toNatClampNeg) - 1))
set_option maxHeartbeats 4000000 in
set_option maxRecDepth 100000 in
theorem c_X8_first (l : Launch) (D : va_G) (cs : Nat → ClassId) (q : Nat) (r : Nat → Int32) (p1 : Int32) (p2 : Int32) (hv0 : 0 ≤ (r 1).toInt ∧ (r 1).toInt ≤ 24) : Met l yX8_first (wc yX8_first cX8_first 5 (some .int)) ({ frames := 3, cells := 0, slots := 0, locals := 63 } : Room) (va_Pc [.ref q, .int p1, .int p2] (PE D cs (rowW cs q r))) (vp_Si (fun r9 => r9 = (sX8_first r p1 p2))) 0 0 (fun _ => False) := by
  obtain ⟨v, hv⟩ : ∃ v, sX8_first r p1 p2 = v := ⟨_, rfl⟩
  rw [hv]
  refine met_o (lv := [(0, .ref q), (1, .int p1), (2, .int p2)]) (by decide) (Nat.le_of_ble_eq_true rfl) rfl ?_
  intro p e s m args below meth c ls hx hb hr hml hts hown hlocks hin hP hE hl
  have hown : s.vm.findClass RX8 = some m.cls := hown
  have hK := hE.1
  have hP : va_P D vwC (rowW cs q r) s.heap := hP
  unfold sX8_first at hv
  refine lv_iconst (v := (-1)) hx hb dX8_first_0 (by decide) ?_
  refine lv_istore_n (lv' := [(3, .int (-1)), (0, .ref q), (1, .int p1), (2, .int p2)]) hx hb dX8_first_1 rfl hl (by decide) rfl (fun ls hl => ?_)
  refine lv_aload_n hx hb dX8_first_2 rfl (lv_at hl 1 rfl) ?_
  refine lv_iconst (v := 1) hx hb dX8_first_3 (by decide) ?_
  refine va_iald (cA := cs 0) (n := 414) (f := r) hx hb hK hP 0 0 rfl rfl (by unfold vp_in; decide) dX8_first_4 ?_
  refine lv_iconst (v := 1) hx hb dX8_first_5 (by decide) ?_
  refine lv_isub hx hb dX8_first_6 ?_
  refine lv_istore (lv' := [(4, .int ((r (1 : Int32).toNatClampNeg) - 1)), (3, .int (-1)), (0, .ref q), (1, .int p1), (2, .int p2)]) hx hb dX8_first_7 hl (by decide) rfl (fun ls hl => ?_)
  have LOOP : ∀ (n : Nat) (x3 : Int32) (x4 : Int32), dnM x4 < n → (x4.toInt < 24) → LX8_first_9 r p1 p2 n x3 x4 = v → ∀ ls : Array Slot, lv_has ls 5 [(0, .ref q), (1, .int p1), (2, .int p2), (3, .int x3), (4, .int x4)] → W p l e ({ frames := 3, cells := 0, slots := 0, locals := 63 } : Room) s m args below meth c s.heap [] 0 0 (MQ below (vp_Si (fun r9 => r9 = v)) args s 0 0 (fun _ => False)) (F0 m 9 ls []) := by
    clear hv
    intro n
    induction n with
    | zero => intro x3 x4 hm; exact absurd hm (Nat.not_lt_zero _)
    | succ n ih =>
      intro x3 x4 hm i0 hv ls hl
      have hv := (LX8_first_9_eq r p1 p2 n x3 x4).symm.trans hv
      refine lv_iload hx hb dX8_first_9 (lv_at hl 4 rfl) ?_
      refine lv_if_lt (tgt := 60) hx hb dX8_first_11 (by decide) (fun c11 => ?_) (fun c11 => ?_)
      · have hv := (if_pos c11).symm.trans hv
        refine lv_iload_n hx hb dX8_first_60 rfl (lv_at hl 3 rfl) ?_
        exact W.iret (v := x3) hx hb hr (fun t ht hW => ⟨x3, rfl, hv, ht⟩) (fun _ h => nomatch h) dX8_first_61 (hlocks := hlocks)
      · have hv := (if_neg c11).symm.trans hv
        have f1 := first_2 c11 i0
        refine lv_aload_n hx hb dX8_first_14 rfl (lv_at hl 0 rfl) ?_
        refine lv_sipush (v := 198) hx hb dX8_first_15 (by decide) ?_
        refine lv_iload hx hb dX8_first_18 (lv_at hl 4 rfl) ?_
        refine lv_iadd hx hb dX8_first_20 ?_
        refine va_iald (cA := cs 0) (n := 414) (f := r) hx hb hK hP 0 0 rfl rfl (vp_off (K := 198) rfl (by assumption) (by decide) (by decide)) dX8_first_21 ?_
        refine lv_iload_n hx hb dX8_first_22 rfl (lv_at hl 1 rfl) ?_
        refine join_i (J := 53) (ls := ls) (rest := []) ((if (r (198 + x4).toNatClampNeg) = p1 then (if (r (150 + x4).toNatClampNeg) = p2 then (if (sX8_mayBuild r x4) = true then x4 else x3) else x3) else x3)) ?_ (fun hJ => ?_)
        · refine lv_istore_n (lv' := [(3, .int (if (r (198 + x4).toNatClampNeg) = p1 then (if (r (150 + x4).toNatClampNeg) = p2 then (if (sX8_mayBuild r x4) = true then x4 else x3) else x3) else x3)), (0, .ref q), (1, .int p1), (2, .int p2), (4, .int x4)]) hx hb dX8_first_53 rfl hl (by decide) rfl (fun ls hl => ?_)
          refine lv_iinc (v := x4 + (-1)) (lv' := [(4, .int (x4 + (-1))), (3, .int (if (r (198 + x4).toNatClampNeg) = p1 then (if (r (150 + x4).toNatClampNeg) = p2 then (if (sX8_mayBuild r x4) = true then x4 else x3) else x3) else x3)), (0, .ref q), (1, .int p1), (2, .int p2)]) hx hb dX8_first_54 hl (k := 4) rfl rfl (by decide) rfl (fun ls hl => ?_)
          refine lv_goto (tgt := 9) hx hb dX8_first_57 (by decide) ?_
          exact ih (if (r (198 + x4).toNatClampNeg) = p1 then (if (r (150 + x4).toNatClampNeg) = p2 then (if (sX8_mayBuild r x4) = true then x4 else x3) else x3) else x3) (x4 + (-1)) (dnM_s c11 hm) (first_1 c11 i0) hv ls (lv_sub hl [2, 3, 4, 1, 0] rfl)
        · refine lv_icmp_ne (tgt := 52) hx hb dX8_first_23 (by decide) (fun c23 => ?_) (fun c23 => ?_)
          · refine lv_iload_n hx hb dX8_first_52 rfl (lv_at hl 3 rfl) ?_
            exact hJ _ ((if_neg c23).trans rfl)
          · refine lv_aload_n hx hb dX8_first_26 rfl (lv_at hl 0 rfl) ?_
            refine lv_sipush (v := 150) hx hb dX8_first_27 (by decide) ?_
            refine lv_iload hx hb dX8_first_30 (lv_at hl 4 rfl) ?_
            refine lv_iadd hx hb dX8_first_32 ?_
            refine va_iald (cA := cs 0) (n := 414) (f := r) hx hb hK hP 0 0 rfl rfl (vp_off (K := 150) rfl (by assumption) (by decide) (by decide)) dX8_first_33 ?_
            refine lv_iload_n hx hb dX8_first_34 rfl (lv_at hl 2 rfl) ?_
            refine lv_icmp_ne (tgt := 52) hx hb dX8_first_35 (by decide) (fun c35 => ?_) (fun c35 => ?_)
            · refine lv_iload_n hx hb dX8_first_52 rfl (lv_at hl 3 rfl) ?_
              exact hJ _ ((if_pos c23).trans ((if_neg c35).trans rfl))
            · refine lv_aload_n hx hb dX8_first_38 rfl (lv_at hl 0 rfl) ?_
              refine lv_iload hx hb dX8_first_39 (lv_at hl 4 rfl) ?_
              refine ro_i (b2i (sX8_mayBuild r x4)) (run_c (va_runS (As := [.ref q, .int x4]) (rest := []) ⟨hx, hb, hml, hown, hts⟩ (c_X8_mayBuild l D cs q r x4 f1) (cwS 2 hts (good_S w_ml_X8_87 w_st_X8_mayBuild w_in_X8 w_co_X8_mayBuild) rfl rfl rfl ⟨rfl, hd_X8_mayBuild⟩ ⟨Nat.le_of_ble_eq_true rfl, Nat.le_of_ble_eq_true rfl⟩) (pe_S hP hE) rfl rfl hl.1 rfl (lv_room (Nat.le_of_ble_eq_true rfl)) dX8_first_41 ⟨Nat.zero_le _, Nat.zero_le _⟩)) ?_
              refine lv_if_eq (tgt := 52) hx hb dX8_first_44 (by decide) (fun c44 => ?_) (fun c44 => ?_)
              · have c44 := b2i_f c44
                refine lv_iload_n hx hb dX8_first_52 rfl (lv_at hl 3 rfl) ?_
                exact hJ _ ((if_pos c23).trans ((if_pos c35).trans ((if_neg c44).trans rfl)))
              · have c44 := b2i_t c44
                refine lv_iload hx hb dX8_first_47 (lv_at hl 4 rfl) ?_
                refine lv_goto (tgt := 53) hx hb dX8_first_49 (by decide) ?_
                exact hJ _ ((if_pos c23).trans ((if_pos c35).trans ((if_pos c44).trans rfl)))
  exact LOOP _ (-1) ((r (1 : Int32).toNatClampNeg) - 1) (Nat.lt_succ_self _) (first_0 hv0) hv ls (lv_sub hl [2, 3, 4, 1, 0] rfl)
