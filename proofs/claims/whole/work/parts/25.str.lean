/-! the five words of the text's grammar, as String constants; String.length, String.charAt of them -/
def wlen : List Nat := [4, 3, 5, 5, 3]
def wbyt : List (List Int32) := [[100, 114, 97, 119], [114, 101, 118], [112, 114, 105, 110, 116], [115, 116, 97, 109, 112], [114, 117, 110]]
def wtx : Nat → String := fun i => match i with
  | 0 => "draw"
  | 1 => "rev"
  | 2 => "print"
  | 3 => "stamp"
  | _ => "run"
def SE (A : Nat → Prop) (adK adV : Nat → Nat) (U : State) : Prop := vk_S 5 wlen wbyt adK adV A U U.heap ∧ va_Z "java/lang/String" "COMPACT_STRINGS" "Z" (.int 1) A U U.heap ∧ va_Zq "jdk/internal/util/Preconditions" "SIOOBE_FORMATTER" "Ljava/util/function/BiFunction;" A U U.heap ∧ ∀ i, i < 5 → vk_R RX2 (70 + 2 * i) (wtx i) (adK i) U
theorem SE.at {A : Nat → Prop} {adK adV : Nat → Nat} {s : State} {H : Heap} {locs : List Loc} (h : SE A adK adV s) (hS : va_S A s.heap H locs) : ∀ U : State, U.heap = H → s.WarmedH U.vm → SE A adK adV U := by
  intro U hU hW
  refine ⟨?_, ?_, ?_, fun i hi => (h.2.2.2 i hi).warm hW⟩
  · rw [hU]; exact (h.1.kept hS.2.1).moved hW.alike
  · rw [hU]; exact (h.2.1.kept hS.2.1).moved hW.alike
  · rw [hU]; exact (h.2.2.1.kept hS.2.1).moved hW.alike
theorem SE.blind (A : Nat → Prop) (adK adV : Nat → Nat) (U : State) (g : JFrame) (mk : MethodId) (a : Array Value) (h : SE A adK adV U) : SE A adK adV (U.calling g mk a) :=
  ⟨vk_S.moved (u := U) (U := U.calling g mk a) (Vm.Alike.refl U.vm) h.1, va_Z.moved (u := U) (U := U.calling g mk a) (Vm.Alike.refl U.vm) h.2.1, va_Zq.moved (u := U) (U := U.calling g mk a) (Vm.Alike.refl U.vm) h.2.2.1, fun i hi => vk_R.same (u := U) (U := U.calling g mk a) rfl (h.2.2.2 i hi)⟩
theorem SE.narrow {A B : Nat → Prop} {adK adV : Nat → Nat} {U : State} (h : SE A adK adV U) (hAB : ∀ q, B q → A q) : SE B adK adV U := ⟨h.1.narrow hAB, h.2.1.narrow hAB, h.2.2.1.narrow hAB, h.2.2.2⟩
/-- a method's start, any world -/
theorem met_g {l : Launch} {y : MethodName} {rm : Room} {cc : ByteArray} {n : Nat} {ret : Option FieldType} {av : List Value} {B : State → Prop} {Qc : Array Value → State → Outcome → State → Prop} {mc ms : Nat} {free : Addr → Prop} {lv : List (Nat × Value)}
    (hy : plainName y.cls = true) (hsl : (lg_sl av).length ≤ n) (hlv : lv_args 0 av = lv)
    (body : ∀ (p : Program) (e : Env) (s : State) (m : MethodId) (args : Array Value) (below : List Frame) (meth : Method) (c : Code) (ls : Array Slot), p.tables.exec = Jvm.exec → c.code = cc → meth.sig.returnType = ret → c.maxLocals = n → (∀ w ∈ GL, w.before args s = true) → s.vm.findClass y.cls = some m.cls → meth.locks = false → meth.name = y.name → B s → lv_has ls n lv → W p l e rm s m args below meth c s.heap [] 0 0 (MQ below Qc args s mc ms free) (F0 m 0 ls [])) :
    Met l y (wc y cc n ret) rm (va_Pc av B) Qc mc ms free := by
  refine Met.ofW (cc := cc) (maxL := n) (ret := ret) hy rfl ?_
  intro p e s m args below meth c s₁ Bd hml hv
  obtain ⟨rfl, hB⟩ := hv
  have hown : s.vm.findClass y.cls = some m.cls := findClass_of_methodNamed Bd.named
  have hin : meth.name = y.name := (name_of_methodNamed Bd.named Bd.method).1
  have hl := lv_entry av (n := n) hsl
  rw [lg_entry_eq]
  rw [hlv] at hl
  exact body p e s m av.toArray below meth c _ Bd.exec Bd.bytes Bd.returns hml (fun w hw => atoms_spec (ws := wc y cc n ret) Bd.pre w (List.mem_cons_of_mem _ hw)) hown Bd.notSynchronized hin hB hl
theorem se_V {A : Nat → Prop} {adK adV : Nat → Nat} {s : State} {H : Heap} {locs : List Loc} {As : List Value} {i : Nat} (h : SE A adK adV s) (hS : va_S A s.heap H locs) (hi : i < 5) : PreV s H RJ0 (adK i) (va_Pc (.ref (adK i) :: As) (SE A adK adV)) As :=
  ⟨fun a U g mk q => ⟨q.1, SE.blind A adK adV U g mk a q.2⟩, vk_recv h.1 hi hS, fun U hU hW => ⟨rfl, h.at hS U hU hW⟩⟩
theorem se_S {A : Nat → Prop} {adK adV : Nat → Nat} {s : State} {H : Heap} {locs : List Loc} {av : List Value} (h : SE A adK adV s) (hS : va_S A s.heap H locs) : PreS s H (va_Pc av (SE A adK adV)) av :=
  ⟨fun a U g mk q => ⟨q.1, SE.blind A adK adV U g mk a q.2⟩, fun U hU hW => ⟨rfl, h.at hS U hU hW⟩⟩
theorem any_S {s : State} {H : Heap} {av : List Value} : PreS s H (va_Pc av (fun _ => True)) av := ⟨fun _ _ _ _ q => q, fun _ _ _ => ⟨rfl, trivial⟩⟩
theorem hd_J3_ci : yJ3_checkIndex_8e157.cls ≠ "java/lang/invoke/MethodHandle" ∧ yJ3_checkIndex_8e157.cls ≠ "java/lang/invoke/VarHandle" ∧ (parseMethodDescriptor yJ3_checkIndex_8e157.desc).map (fun d => d.parameters.length) = some 3 := by decide +kernel
theorem hd_J0_ci : yJ0_checkIndex_df160.cls ≠ "java/lang/invoke/MethodHandle" ∧ yJ0_checkIndex_df160.cls ≠ "java/lang/invoke/VarHandle" ∧ (parseMethodDescriptor yJ0_checkIndex_df160.desc).map (fun d => d.parameters.length) = some 2 := by decide +kernel
theorem hd_J1_ca : yJ1_charAt_3b067.cls ≠ "java/lang/invoke/MethodHandle" ∧ yJ1_charAt_3b067.cls ≠ "java/lang/invoke/VarHandle" ∧ (parseMethodDescriptor yJ1_charAt_3b067.desc).map (fun d => d.parameters.length) = some 2 := by decide +kernel
theorem hd_J0_coder : yJ0_coder_7d493.cls ≠ "java/lang/invoke/MethodHandle" ∧ yJ0_coder_7d493.cls ≠ "java/lang/invoke/VarHandle" ∧ (parseMethodDescriptor yJ0_coder_7d493.desc).map (fun d => d.parameters.length) = some 0 := by decide +kernel
theorem hd_J0_latin : yJ0_isLatin1_aae02.cls ≠ "java/lang/invoke/MethodHandle" ∧ yJ0_isLatin1_aae02.cls ≠ "java/lang/invoke/VarHandle" ∧ (parseMethodDescriptor yJ0_isLatin1_aae02.desc).map (fun d => d.parameters.length) = some 0 := by decide +kernel
theorem hd_J0_length : yJ0_length_8abf5.cls ≠ "java/lang/invoke/MethodHandle" ∧ yJ0_length_8abf5.cls ≠ "java/lang/invoke/VarHandle" ∧ (parseMethodDescriptor yJ0_length_8abf5.desc).map (fun d => d.parameters.length) = some 0 := by decide +kernel
theorem hd_J0_charAt : yJ0_charAt_5068e.cls ≠ "java/lang/invoke/MethodHandle" ∧ yJ0_charAt_5068e.cls ≠ "java/lang/invoke/VarHandle" ∧ (parseMethodDescriptor yJ0_charAt_5068e.desc).map (fun d => d.parameters.length) = some 1 := by decide +kernel
set_option maxHeartbeats 4000000 in
set_option maxRecDepth 100000 in
theorem c_J3_ci_n (l : Launch) (p1 p2 : Int32) (h1 : ¬ p1 < 0) (h2 : p1 < p2) : Met l yJ3_checkIndex_8e157 (wc yJ3_checkIndex_8e157 cJ3_checkIndex_8e157 3 (some .int)) ({ frames := 0, cells := 0, slots := 0, locals := 0 } : Room) (va_Pc [.int p1, .int p2, .null] (fun _ => True)) (vp_Si (fun r9 => r9 = p1)) 0 0 (fun _ => False) := by
  refine met_g (lv := [(0, .int p1), (1, .int p2), (2, .null)]) (by decide) (Nat.le_of_ble_eq_true rfl) rfl ?_
  intro p e s m args below meth c ls hx hb hr hml hts hown hlocks hin hB hl
  refine lv_iload_n hx hb dJ3_checkIndex_8e157_0 rfl (lv_at hl 0 rfl) ?_
  refine lv_if_lt (tgt := 9) hx hb dJ3_checkIndex_8e157_1 (by decide) (fun c1 => absurd c1 h1) (fun c1 => ?_)
  refine lv_iload_n hx hb dJ3_checkIndex_8e157_4 rfl (lv_at hl 0 rfl) ?_
  refine lv_iload_n hx hb dJ3_checkIndex_8e157_5 rfl (lv_at hl 1 rfl) ?_
  refine lv_icmp_lt (tgt := 16) hx hb dJ3_checkIndex_8e157_6 (by decide) (fun c6 => ?_) (fun c6 => absurd h2 c6)
  refine lv_iload_n hx hb dJ3_checkIndex_8e157_16 rfl (lv_at hl 0 rfl) ?_
  exact W.iret (v := p1) hx hb hr (fun t ht hW => ⟨p1, rfl, rfl, ht⟩) (fun _ h => nomatch h) dJ3_checkIndex_8e157_17 (hlocks := hlocks)
set_option maxHeartbeats 4000000 in
set_option maxRecDepth 100000 in
theorem c_J3_ci_r (l : Launch) (p1 p2 : Int32) (z : Nat) (h1 : ¬ p1 < 0) (h2 : p1 < p2) : Met l yJ3_checkIndex_8e157 (wc yJ3_checkIndex_8e157 cJ3_checkIndex_8e157 3 (some .int)) ({ frames := 0, cells := 0, slots := 0, locals := 0 } : Room) (va_Pc [.int p1, .int p2, .ref z] (fun _ => True)) (vp_Si (fun r9 => r9 = p1)) 0 0 (fun _ => False) := by
  refine met_g (lv := [(0, .int p1), (1, .int p2), (2, .ref z)]) (by decide) (Nat.le_of_ble_eq_true rfl) rfl ?_
  intro p e s m args below meth c ls hx hb hr hml hts hown hlocks hin hB hl
  refine lv_iload_n hx hb dJ3_checkIndex_8e157_0 rfl (lv_at hl 0 rfl) ?_
  refine lv_if_lt (tgt := 9) hx hb dJ3_checkIndex_8e157_1 (by decide) (fun c1 => absurd c1 h1) (fun c1 => ?_)
  refine lv_iload_n hx hb dJ3_checkIndex_8e157_4 rfl (lv_at hl 0 rfl) ?_
  refine lv_iload_n hx hb dJ3_checkIndex_8e157_5 rfl (lv_at hl 1 rfl) ?_
  refine lv_icmp_lt (tgt := 16) hx hb dJ3_checkIndex_8e157_6 (by decide) (fun c6 => ?_) (fun c6 => absurd h2 c6)
  refine lv_iload_n hx hb dJ3_checkIndex_8e157_16 rfl (lv_at hl 0 rfl) ?_
  exact W.iret (v := p1) hx hb hr (fun t ht hW => ⟨p1, rfl, rfl, ht⟩) (fun _ h => nomatch h) dJ3_checkIndex_8e157_17 (hlocks := hlocks)
set_option maxHeartbeats 4000000 in
set_option maxRecDepth 100000 in
theorem c_J0_ci (l : Launch) (A : Nat → Prop) (adK adV : Nat → Nat) (p1 p2 : Int32) (h1 : ¬ p1 < 0) (h2 : p1 < p2) : Met l yJ0_checkIndex_df160 (wc yJ0_checkIndex_df160 cJ0_checkIndex_df160 2 none) ({ frames := 1, cells := 0, slots := 0, locals := 22 } : Room) (va_Pc [.int p1, .int p2] (SE A adK adV)) (va_Sv (fun _ => True)) 0 0 (fun _ => False) := by
  refine met_g (lv := [(0, .int p1), (1, .int p2)]) (by decide) (Nat.le_of_ble_eq_true rfl) rfl ?_
  intro p e s m args below meth c ls hx hb hr hml hts hown hlocks hin hB hl
  have hown : s.vm.findClass RJ0 = some m.cls := hown
  have hS : va_S A s.heap s.heap [] := va_S.rf
  refine lv_iload_n hx hb dJ0_checkIndex_df160_0 rfl (lv_at hl 0 rfl) ?_
  refine lv_iload_n hx hb dJ0_checkIndex_df160_1 rfl (lv_at hl 1 rfl) ?_
  rcases hB.2.2.1 with hz | ⟨z, hz⟩
  · refine va_gets hx hb hz hS hown (hts _ w_fl_J0_1053) (fun _ h9 => h9) dJ0_checkIndex_df160_2 ?_
    refine vp_callSi (run_c (va_runS (As := [.int p1, .int p2, .null]) (rest := []) ⟨hx, hb, hml, hown, hts⟩ (c_J3_ci_n l p1 p2 h1 h2) (va_cwS 3 hts (good_T w_ml_J0_1059 w_st_J3_checkIndex_8e157 w_in_J3 w_co_J3_checkIndex_8e157) rfl rfl rfl hd_J3_ci ⟨Nat.le_of_ble_eq_true rfl, Nat.le_of_ble_eq_true rfl⟩) any_S rfl rfl hl.1 rfl (lv_room (Nat.le_of_ble_eq_true rfl)) dJ0_checkIndex_df160_5 ⟨Nat.zero_le _, Nat.zero_le _⟩)) (fun r9 hr9 => ?_)
    refine lv_pop hx hb dJ0_checkIndex_df160_8 rfl ?_
    exact W.vret hx hb hr (fun t ht hW => ⟨rfl, trivial, ht⟩) (fun _ h => nomatch h) dJ0_checkIndex_df160_9 (hlocks := hlocks)
  · refine va_gets hx hb hz hS hown (hts _ w_fl_J0_1053) (fun _ h9 => h9) dJ0_checkIndex_df160_2 ?_
    refine vp_callSi (run_c (va_runS (As := [.int p1, .int p2, .ref z]) (rest := []) ⟨hx, hb, hml, hown, hts⟩ (c_J3_ci_r l p1 p2 z h1 h2) (va_cwS 3 hts (good_T w_ml_J0_1059 w_st_J3_checkIndex_8e157 w_in_J3 w_co_J3_checkIndex_8e157) rfl rfl rfl hd_J3_ci ⟨Nat.le_of_ble_eq_true rfl, Nat.le_of_ble_eq_true rfl⟩) any_S rfl rfl hl.1 rfl (lv_room (Nat.le_of_ble_eq_true rfl)) dJ0_checkIndex_df160_5 ⟨Nat.zero_le _, Nat.zero_le _⟩)) (fun r9 hr9 => ?_)
    refine lv_pop hx hb dJ0_checkIndex_df160_8 rfl ?_
    exact W.vret hx hb hr (fun t ht hW => ⟨rfl, trivial, ht⟩) (fun _ h => nomatch h) dJ0_checkIndex_df160_9 (hlocks := hlocks)
/-- the char at a place of the i-th word -/
def wch (i : Nat) (x : Int32) : Int32 := (((wbyt.getD i []).getD x.toNatClampNeg 0 &&& 255).toUInt32 % 65536).toInt32
theorem wl_lt : ∀ i, i < 5 → wlen.getD i 0 < 2 ^ 31 := by decide +kernel
theorem vp_lt {x : Int32} {n : Nat} (h : vp_in x n) (hn : n < 2 ^ 31) : ¬ x < 0 ∧ x < nI n := by
  obtain ⟨j, hj, rfl⟩ := vp_in_of h hn
  exact ⟨nI_pos (by omega), nI_lt hj hn⟩
set_option maxHeartbeats 4000000 in
set_option maxRecDepth 100000 in
theorem c_J1_ca (l : Launch) (A : Nat → Prop) (adK adV : Nat → Nat) (i : Nat) (hi : i < 5) (p1 : Int32) (h1 : vp_in p1 (wlen.getD i 0)) : Met l yJ1_charAt_3b067 (wc yJ1_charAt_3b067 cJ1_charAt_3b067 2 (some .char)) ({ frames := 2, cells := 0, slots := 0, locals := 43 } : Room) (va_Pc [.ref (adV i), .int p1] (SE A adK adV)) (vp_Si (fun r9 => r9 = wch i p1)) 0 0 (fun _ => False) := by
  refine met_g (lv := [(0, .ref (adV i)), (1, .int p1)]) (by decide) (Nat.le_of_ble_eq_true rfl) rfl ?_
  intro p e s m args below meth c ls hx hb hr hml hts hown hlocks hin hB hl
  have hown : s.vm.findClass RJ1 = some m.cls := hown
  have hS : va_S A s.heap s.heap [] := va_S.rf
  obtain ⟨g1, g2⟩ := vp_lt h1 (wl_lt i hi)
  refine lv_iload_n hx hb dJ1_charAt_3b067_0 rfl (lv_at hl 1 rfl) ?_
  refine lv_aload_n hx hb dJ1_charAt_3b067_1 rfl (lv_at hl 0 rfl) ?_
  refine va_tlen hx hb (hB.1.1 i hi).2.2.2 hS (v := nI (wlen.getD i 0)) rfl dJ1_charAt_3b067_2 ?_
  refine va_csv (run_c (va_runS (As := [.int p1, .int (nI (wlen.getD i 0))]) (rest := []) ⟨hx, hb, hml, hown, hts⟩ (c_J0_ci l A adK adV p1 (nI (wlen.getD i 0)) g1 g2) (va_cwS 2 hts (good_T w_ml_J1_9 w_st_J0_checkIndex_df160 w_in_J0 w_co_J0_checkIndex_df160) rfl rfl rfl hd_J0_ci ⟨Nat.le_of_ble_eq_true rfl, Nat.le_of_ble_eq_true rfl⟩) (se_S hB hS) rfl rfl hl.1 rfl (lv_room (Nat.le_of_ble_eq_true rfl)) dJ1_charAt_3b067_3 ⟨Nat.zero_le _, Nat.zero_le _⟩)) (fun _ => ?_)
  refine lv_aload_n hx hb dJ1_charAt_3b067_6 rfl (lv_at hl 0 rfl) ?_
  refine lv_iload_n hx hb dJ1_charAt_3b067_7 rfl (lv_at hl 1 rfl) ?_
  refine va_tb hx hb (hB.1.1 i hi).2.2.2 hS h1 rfl dJ1_charAt_3b067_8 ?_
  refine lv_sipush (v := 255) hx hb dJ1_charAt_3b067_9 (by decide) ?_
  refine lv_iand hx hb dJ1_charAt_3b067_12 ?_
  refine lv_i2c hx hb dJ1_charAt_3b067_13 rfl ?_
  exact W.zret (ty := .char) (v := wch i p1) hx hb hr (pk_nc _) (fun t ht hW => ⟨wch i p1, rfl, rfl, ht⟩) (fun _ h => nomatch h) dJ1_charAt_3b067_14 (hlocks := hlocks)
set_option maxHeartbeats 4000000 in
set_option maxRecDepth 100000 in
theorem c_J0_coder (l : Launch) (A : Nat → Prop) (adK adV : Nat → Nat) (i : Nat) (hi : i < 5) : Met l yJ0_coder_7d493 (wc yJ0_coder_7d493 cJ0_coder_7d493 1 (some .byte)) ({ frames := 0, cells := 0, slots := 0, locals := 0 } : Room) (va_Pc [.ref (adK i)] (SE A adK adV)) (vp_Si (fun r9 => r9 = 0)) 0 0 (fun _ => False) := by
  refine met_g (lv := [(0, .ref (adK i))]) (by decide) (Nat.le_of_ble_eq_true rfl) rfl ?_
  intro p e s m args below meth c ls hx hb hr hml hts hown hlocks hin hB hl
  have hown : s.vm.findClass RJ0 = some m.cls := hown
  have hS : va_S A s.heap s.heap [] := va_S.rf
  refine va_gets hx hb hB.2.1 hS hown (hts _ w_fl_J0_38) (fun _ h9 => h9) dJ0_coder_7d493_0 ?_
  refine lv_if_eq (tgt := 13) hx hb dJ0_coder_7d493_3 (by decide) (fun c1 => absurd c1 (by decide)) (fun c1 => ?_)
  refine lv_aload_n hx hb dJ0_coder_7d493_6 rfl (lv_at hl 0 rfl) ?_
  refine vk_getf hx hb (hB.1.1 i hi).2.1 hS hown (hts _ w_fl_J0_15) (fun _ h9 => h9) dJ0_coder_7d493_7 ?_
  refine lv_goto (tgt := 14) hx hb dJ0_coder_7d493_10 (by decide) ?_
  exact W.zret (ty := .byte) (v := 0) hx hb hr rfl (fun t ht hW => ⟨0, rfl, rfl, ht⟩) (fun _ h => nomatch h) dJ0_coder_7d493_14 (hlocks := hlocks)
set_option maxHeartbeats 4000000 in
set_option maxRecDepth 100000 in
theorem c_J0_latin (l : Launch) (A : Nat → Prop) (adK adV : Nat → Nat) (i : Nat) (hi : i < 5) : Met l yJ0_isLatin1_aae02 (wc yJ0_isLatin1_aae02 cJ0_isLatin1_aae02 1 (some .boolean)) ({ frames := 0, cells := 0, slots := 0, locals := 0 } : Room) (va_Pc [.ref (adK i)] (SE A adK adV)) (vp_Si (fun r9 => r9 = 1)) 0 0 (fun _ => False) := by
  refine met_g (lv := [(0, .ref (adK i))]) (by decide) (Nat.le_of_ble_eq_true rfl) rfl ?_
  intro p e s m args below meth c ls hx hb hr hml hts hown hlocks hin hB hl
  have hown : s.vm.findClass RJ0 = some m.cls := hown
  have hS : va_S A s.heap s.heap [] := va_S.rf
  refine va_gets hx hb hB.2.1 hS hown (hts _ w_fl_J0_38) (fun _ h9 => h9) dJ0_isLatin1_aae02_0 ?_
  refine lv_if_eq (tgt := 17) hx hb dJ0_isLatin1_aae02_3 (by decide) (fun c1 => absurd c1 (by decide)) (fun c1 => ?_)
  refine lv_aload_n hx hb dJ0_isLatin1_aae02_6 rfl (lv_at hl 0 rfl) ?_
  refine vk_getf hx hb (hB.1.1 i hi).2.1 hS hown (hts _ w_fl_J0_15) (fun _ h9 => h9) dJ0_isLatin1_aae02_7 ?_
  refine lv_if_ne (tgt := 17) hx hb dJ0_isLatin1_aae02_10 (by decide) (fun c1 => absurd rfl c1) (fun c1 => ?_)
  refine lv_iconst (v := 1) hx hb dJ0_isLatin1_aae02_13 (by decide) ?_
  refine lv_goto (tgt := 18) hx hb dJ0_isLatin1_aae02_14 (by decide) ?_
  exact W.zret (ty := .boolean) (v := 1) hx hb hr rfl (fun t ht hW => ⟨1, rfl, rfl, ht⟩) (fun _ h => nomatch h) dJ0_isLatin1_aae02_18 (hlocks := hlocks)
theorem wl_shr : ∀ i, i < 5 → nI (wlen.getD i 0) >>> ((0 : Int32) &&& 31) = nI (wlen.getD i 0) := by decide +kernel
set_option maxHeartbeats 4000000 in
set_option maxRecDepth 100000 in
theorem c_J0_length (l : Launch) (A : Nat → Prop) (adK adV : Nat → Nat) (i : Nat) (hi : i < 5) : Met l yJ0_length_8abf5 (wc yJ0_length_8abf5 cJ0_length_8abf5 1 (some .int)) ({ frames := 1, cells := 0, slots := 0, locals := 20 } : Room) (va_Pc [.ref (adK i)] (SE A adK adV)) (vp_Si (fun r9 => r9 = nI (wlen.getD i 0))) 0 0 (fun _ => False) := by
  refine met_g (lv := [(0, .ref (adK i))]) (by decide) (Nat.le_of_ble_eq_true rfl) rfl ?_
  intro p e s m args below meth c ls hx hb hr hml hts hown hlocks hin hB hl
  have hown : s.vm.findClass RJ0 = some m.cls := hown
  have hS : va_S A s.heap s.heap [] := va_S.rf
  refine lv_aload_n hx hb dJ0_length_8abf5_0 rfl (lv_at hl 0 rfl) ?_
  refine vk_getf hx hb (hB.1.1 i hi).2.2.1 hS hown (hts _ w_fl_J0_9) (fun _ h9 => h9) dJ0_length_8abf5_1 ?_
  refine va_tlen hx hb (hB.1.1 i hi).2.2.2 hS (v := nI (wlen.getD i 0)) rfl dJ0_length_8abf5_4 ?_
  refine lv_aload_n hx hb dJ0_length_8abf5_5 rfl (lv_at hl 0 rfl) ?_
  refine vp_callSi (run_c (va_runV (As := []) (rest := [.int (nI (wlen.getD i 0))]) ⟨hx, hb, hml, hown, hts⟩ (c_J0_coder l A adK adV i hi) (cwV 0 hts (good_V w_ml_J0_335 w_im_J0_coder_7d493 w_se_J0_coder_7d493 w_in_J0 w_co_J0_coder_7d493) rfl rfl rfl ⟨rfl, hd_J0_coder⟩ ⟨Nat.le_of_ble_eq_true rfl, Nat.le_of_ble_eq_true rfl⟩) (se_V hB hS hi) rfl rfl hl.1 rfl (lv_room (Nat.le_of_ble_eq_true rfl)) dJ0_length_8abf5_6 ⟨Nat.zero_le _, Nat.zero_le _⟩)) (fun r9 hr9 => ?_)
  obtain rfl : r9 = 0 := hr9
  refine lv_ishr hx hb dJ0_length_8abf5_9 ?_
  exact W.iret (v := nI (wlen.getD i 0) >>> ((0 : Int32) &&& 31)) hx hb hr (fun t ht hW => ⟨_, rfl, wl_shr i hi, ht⟩) (fun _ h => nomatch h) dJ0_length_8abf5_10 (hlocks := hlocks)
set_option maxHeartbeats 4000000 in
set_option maxRecDepth 100000 in
theorem c_J0_charAt (l : Launch) (A : Nat → Prop) (adK adV : Nat → Nat) (i : Nat) (hi : i < 5) (p1 : Int32) (h1 : vp_in p1 (wlen.getD i 0)) : Met l yJ0_charAt_5068e (wc yJ0_charAt_5068e cJ0_charAt_5068e 2 (some .char)) ({ frames := 3, cells := 0, slots := 0, locals := 64 } : Room) (va_Pc [.ref (adK i), .int p1] (SE A adK adV)) (vp_Si (fun r9 => r9 = wch i p1)) 0 0 (fun _ => False) := by
  refine met_g (lv := [(0, .ref (adK i)), (1, .int p1)]) (by decide) (Nat.le_of_ble_eq_true rfl) rfl ?_
  intro p e s m args below meth c ls hx hb hr hml hts hown hlocks hin hB hl
  have hown : s.vm.findClass RJ0 = some m.cls := hown
  have hS : va_S A s.heap s.heap [] := va_S.rf
  refine lv_aload_n hx hb dJ0_charAt_5068e_0 rfl (lv_at hl 0 rfl) ?_
  refine vp_callSi (run_c (va_runV (As := []) (rest := []) ⟨hx, hb, hml, hown, hts⟩ (c_J0_latin l A adK adV i hi) (cwV 0 hts (good_V w_ml_J0_492 w_im_J0_isLatin1_aae02 w_se_J0_isLatin1_aae02 w_in_J0 w_co_J0_isLatin1_aae02) rfl rfl rfl ⟨rfl, hd_J0_latin⟩ ⟨Nat.le_of_ble_eq_true rfl, Nat.le_of_ble_eq_true rfl⟩) (se_V hB hS hi) rfl rfl hl.1 rfl (lv_room (Nat.le_of_ble_eq_true rfl)) dJ0_charAt_5068e_1 ⟨Nat.zero_le _, Nat.zero_le _⟩)) (fun r9 hr9 => ?_)
  obtain rfl : r9 = 1 := hr9
  refine lv_if_eq (tgt := 16) hx hb dJ0_charAt_5068e_4 (by decide) (fun c1 => absurd c1 (by decide)) (fun c1 => ?_)
  refine lv_aload_n hx hb dJ0_charAt_5068e_7 rfl (lv_at hl 0 rfl) ?_
  refine vk_getf hx hb (hB.1.1 i hi).2.2.1 hS hown (hts _ w_fl_J0_9) (fun _ h9 => h9) dJ0_charAt_5068e_8 ?_
  refine lv_iload_n hx hb dJ0_charAt_5068e_11 rfl (lv_at hl 1 rfl) ?_
  refine vp_callSi (run_c (va_runS (As := [.ref (adV i), .int p1]) (rest := []) ⟨hx, hb, hml, hown, hts⟩ (c_J1_ca l A adK adV i hi p1 h1) (va_cwS 2 hts (good_T w_ml_J0_495 w_st_J1_charAt_3b067 w_in_J1 w_co_J1_charAt_3b067) rfl rfl rfl hd_J1_ca ⟨Nat.le_of_ble_eq_true rfl, Nat.le_of_ble_eq_true rfl⟩) (se_S hB hS) rfl rfl hl.1 rfl (lv_room (Nat.le_of_ble_eq_true rfl)) dJ0_charAt_5068e_12 ⟨Nat.zero_le _, Nat.zero_le _⟩)) (fun r9 hr9 => ?_)
  obtain rfl : r9 = wch i p1 := hr9
  exact W.zret (ty := .char) (v := wch i p1) hx hb hr (pk_nc _) (fun t ht hW => ⟨_, rfl, rfl, ht⟩) (fun _ h => nomatch h) dJ0_charAt_5068e_15 (hlocks := hlocks)
