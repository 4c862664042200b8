/-! the class's own methods: what they stand in (strings, statics of Throwable), their throws, their calls -/
def msgW : List (Nat × String) := [(42, "a character code is 0 to 255"), (53, "the text has 120 characters"), (67, "the text is not an office"), (81, "what is 0 to 9"), (90, "what is 0 to 7"), (102, "no such field"), (117, "the sheet has had no such revision"), (132, "no such print"), (134, "what is 0 to 8"), (146, "no such work"), (148, "what is 0 to 4"), (156, "no such setting"), (201, "no state is remembered"), (210, "no such site"), (218, "fields are 1 to 4095, what is 0 to 3"), (220, "the revision of the sheet is 99"), (237, "the days are 1 to 30"), (242, "k is 0 or more"), (253, "a script has 1 to 3 commands"), (259, "a script has at most six digits a command"), (270, "the turns are 1 to 80"), (295, "no such save slot"), (307, "nothing has been saved in this slot"), (313, "no such sheet"), (315, "no such sheet, field, print, work, site or hand"), (317, "an argument is out of its range"), (319, "this can't be done now")]
theorem w_xi_1 : (.initialized "java/lang/IllegalArgumentException" : Cond) ∈ GL := gl (tb1 (List.mem_of_getElem? (i := 13) (by decide +kernel))) (by decide +kernel)
theorem w_xi_2 : (.initialized "java/lang/IllegalStateException" : Cond) ∈ GL := gl (tb1 (List.mem_of_getElem? (i := 14) (by decide +kernel))) (by decide +kernel)
theorem w_xi_3 : (.initialized "java/lang/IndexOutOfBoundsException" : Cond) ∈ GL := gl (tb1 (List.mem_of_getElem? (i := 21) (by decide +kernel))) (by decide +kernel)
theorem xo_1 : ∀ w ∈ Cond.classLink RX7 40 "java/lang/IllegalArgumentException" :: Cond.initialized "java/lang/IllegalArgumentException" :: vx_atS RX7 44 "java/lang/IllegalArgumentException" xup, vx_ot w = true := by decide +kernel
theorem xo_2 : ∀ w ∈ Cond.classLink RX7 51 "java/lang/IllegalStateException" :: Cond.initialized "java/lang/IllegalStateException" :: vx_atS RX7 55 "java/lang/IllegalStateException" xup, vx_ot w = true := by decide +kernel
theorem xo_3 : ∀ w ∈ Cond.classLink RX7 100 "java/lang/IndexOutOfBoundsException" :: Cond.initialized "java/lang/IndexOutOfBoundsException" :: vx_atS RX7 104 "java/lang/IndexOutOfBoundsException" xup, vx_ot w = true := by decide +kernel
def XE (z : Nat → Nat) (A : Nat → Nat → Nat) (adK adV : Nat → Nat) (U : State) : Prop := SE (tA z A) adK adV U ∧ (∀ w ∈ exW, va_Nw w U) ∧ vx_Zq Bundle.tN "UNASSIGNED_STACK" Bundle.steD (tA z A) U U.heap ∧ vx_Zq Bundle.tN "SUPPRESSED_SENTINEL" Bundle.listD (tA z A) U U.heap ∧ ∀ q ∈ msgW, ∃ a, vk_R RX7 q.1 q.2 a U
theorem exW_warm {s U : State} (hW : s.WarmedH U.vm) (h : ∀ w ∈ exW, va_Nw w s) : ∀ w ∈ exW, va_Nw w U := by
  intro w hw
  have h1 := h w hw
  simp only [exW, List.mem_cons, List.not_mem_nil, or_false] at hw
  rcases hw with rfl | rfl | rfl | rfl | rfl | rfl
  · exact h1.warmD hW
  · exact h1.warmD hW
  · exact h1.warmD hW
  · exact h1.warmC hW
  · exact h1.warmC hW
  · exact h1.warmC hW
theorem exW_same {s U : State} (hW : s.vm = U.vm) (h : ∀ w ∈ exW, va_Nw w s) : ∀ w ∈ exW, va_Nw w U := by
  intro w hw
  have h1 := h w hw
  simp only [exW, List.mem_cons, List.not_mem_nil, or_false] at hw
  rcases hw with rfl | rfl | rfl | rfl | rfl | rfl <;> exact h1.same rfl hW
theorem XE.at {z : Nat → Nat} {A : Nat → Nat → Nat} {adK adV : Nat → Nat} {s : State} {H : Heap} {locs : List Loc} (h : XE z A adK adV s) (hS : va_S (tA z A) s.heap H locs) : ∀ U : State, U.heap = H → s.WarmedH U.vm → XE z A adK adV U := by
  intro U hU hW
  refine ⟨h.1.at hS U hU hW, exW_warm hW h.2.1, ?_, ?_, fun q hq => ?_⟩
  · rw [hU]; exact (h.2.2.1.kept hS.2.1).moved hW.alike
  · rw [hU]; exact (h.2.2.2.1.kept hS.2.1).moved hW.alike
  · obtain ⟨a, ha⟩ := h.2.2.2.2 q hq
    exact ⟨a, ha.warm hW⟩
theorem XE.blind {z : Nat → Nat} {A : Nat → Nat → Nat} {adK adV : Nat → Nat} (U : State) (g : JFrame) (mk : MethodId) (a : Array Value) (h : XE z A adK adV U) : XE z A adK adV (U.calling g mk a) :=
  ⟨SE.blind _ _ _ U g mk a h.1, exW_same (s := U) (U := U.calling g mk a) rfl h.2.1, vx_Zq.moved (u := U) (U := U.calling g mk a) (Vm.Alike.refl U.vm) h.2.2.1, vx_Zq.moved (u := U) (U := U.calling g mk a) (Vm.Alike.refl U.vm) h.2.2.2.1, fun q hq => (h.2.2.2.2 q hq).elim fun b hb => ⟨b, vk_R.same (u := U) (U := U.calling g mk a) rfl hb⟩⟩
/-- what a method of the class finds -/
def TE (D : va_G) (cs : Nat → ClassId) (z : Nat → Nat) (A : Nat → Nat → Nat) (adK adV : Nat → Nat) (Os : Nat → OF) (T : OF) : State → Prop := fun U => (tsP D cs z A Os T U.heap ∧ EV D cs U) ∧ XE z A adK adV U
theorem te_V {D : va_G} {cs : Nat → ClassId} {z : Nat → Nat} {A : Nat → Nat → Nat} {adK adV : Nat → Nat} {Os : Nat → OF} {T : OF} {s : State} {H : Heap} {locs : List Loc} {As : List Value} {b : Addr} {q0 ci : Nat} {C : String} {T9 : u_T} {N : Nat} {fs : List Value} (hT : tsP D cs z A Os T H) (hE : EV D cs s) (hXE : XE z A adK adV s) (hS : va_S (tA z A) s.heap H locs) (hc : vwC[ci]? = some (C, T9, N)) (he : (zW cs z A T)[q0]? = some (b, .inr (ci, fs))) : PreV s H C b (va_Pc (.ref b :: As) (TE D cs z A adK adV Os T)) As :=
  ⟨fun a U g mk q => ⟨q.1, ⟨q.2.1.1, ((pe_blind D cs (zW cs z A T) (.ref b :: As) a U g mk ⟨q.1, q.2.1.1.1, q.2.1.2⟩).2).2⟩, XE.blind U g mk a q.2.2⟩, (pe_V (As := As) hT.1 hE hc he).2.1, fun U hU hW => ⟨rfl, ⟨by rw [hU]; exact hT, hE.warm hW⟩, hXE.at hS U hU hW⟩⟩
theorem zsx_V {D : va_G} {cs : Nat → ClassId} {z : Nat → Nat} {A : Nat → Nat → Nat} {T : OF} {adK adV : Nat → Nat} {s : State} {H : Heap} {locs : List Loc} {As : List Value} {b : Addr} {q0 ci : Nat} {C : String} {T9 : u_T} {N : Nat} {fs : List Value} (hP : va_P D vwC (zW cs z A T) H) (hE : EV D cs s) (hXE : XE z A adK adV s) (hS : va_S (tA z A) s.heap H locs) (hc : vwC[ci]? = some (C, T9, N)) (he : (zW cs z A T)[q0]? = some (b, .inr (ci, fs))) : PreV s H C b (va_Pc (.ref b :: As) (ZS D cs z A T adK adV)) As :=
  ⟨fun a U g mk q => ⟨q.1, (pe_blind D cs (zW cs z A T) (.ref b :: As) a U g mk ⟨q.1, q.2.1⟩).2, SE.blind _ _ _ U g mk a q.2.2⟩, (pe_V (As := As) hP hE hc he).2.1, fun U hU hW => ⟨rfl, (pe_at (.ref b :: As) hP hE U hU hW).2, (hXE.1.at hS U hU hW).narrow (fun _ h => Or.inl h)⟩⟩
theorem ts_ext {D : va_G} {cs : Nat → ClassId} {z : Nat → Nat} {A : Nat → Nat → Nat} {Os : Nat → OF} {T : OF} {H H1 : Heap} (h : tsP D cs z A Os T H) (hF : ∀ q : Nat, q < H.size → H1[q]? = H[q]?) : tsP D cs z A Os T H1 :=
  ⟨p_keep (X := fun _ => False) h.1 (fun _ _ _ => fun h => h) (fun q h1 _ => hF q h1), fun k hk => p_keep (X := fun _ => False) (h.2 k hk) (fun _ _ _ => fun h => h) (fun q h1 _ => hF q h1)⟩
theorem F_ext {X : Nat → Prop} {s t : State} {H : Heap} {locs : List Loc} (hS : va_S X s.heap H locs) (h1 : H.size ≤ t.heap.size) (hF : ∀ q : Nat, q < H.size → t.heap[q]? = H[q]?) : va_F X s t := ⟨Nat.le_trans hS.1 h1, fun q h2 h3 => (hF q (Nat.lt_of_lt_of_le h2 hS.1)).trans (hS.2.1 q h2 h3)⟩
/-- ends of methods that may throw: v.1 = 0: it returns v.2 -/
abbrev xrQ (D : va_G) (cs : Nat → ClassId) (z : Nat → Nat) (A : Nat → Nat → Nat) (Os : Nat → OF) (T : OF) (v : Nat × Int32) : Array Value → State → Outcome → State → Prop := va_Qi (fun (r9 : Int32) (_ : Unit) => v.1 = 0 ∧ r9 = v.2) (fun _ t => tsP D cs z A Os T t.heap) (tA z A)
abbrev xrX (D : va_G) (cs : Nat → ClassId) (z : Nat → Nat) (A : Nat → Nat → Nat) (Os : Nat → OF) (T : OF) (v : Nat × Int32) : String → State → State → Prop := vx_X (fun _ : Unit => ¬ v.1 = 0) (fun E _ t => E = exN v.1 ∧ tsP D cs z A Os T t.heap) (tA z A)
abbrev xwQ (D : va_G) (cs : Nat → ClassId) (z : Nat → Nat) (A : Nat → Nat → Nat) (v : Nat × Int32 × TSt) : Array Value → State → Outcome → State → Prop := va_Qi (fun (r9 : Int32) (u : TSt) => v.1 = 0 ∧ r9 = v.2.1 ∧ u = v.2.2) (fun u t => tsP D cs z A u.1 u.2 t.heap) (tA z A)
abbrev xwX (D : va_G) (cs : Nat → ClassId) (z : Nat → Nat) (A : Nat → Nat → Nat) (v : Nat × Int32 × TSt) : String → State → State → Prop := vx_X (fun u : TSt => ¬ v.1 = 0 ∧ u = v.2.2) (fun E u t => E = exN v.1 ∧ tsP D cs z A u.1 u.2 t.heap) (tA z A)
abbrev xnQ (D : va_G) (cs : Nat → ClassId) (z : Nat → Nat) (A : Nat → Nat → Nat) (Os : Nat → OF) (T : OF) (v : Nat) : Array Value → State → Outcome → State → Prop := va_Qv (fun (_ : Unit) => v = 0) (fun _ t => tsP D cs z A Os T t.heap) (tA z A)
abbrev xnX (D : va_G) (cs : Nat → ClassId) (z : Nat → Nat) (A : Nat → Nat → Nat) (Os : Nat → OF) (T : OF) (v : Nat) : String → State → State → Prop := vx_X (fun _ : Unit => ¬ v = 0) (fun E _ t => E = exN v ∧ tsP D cs z A Os T t.heap) (tA z A)
theorem xc_r {D : va_G} {cs : Nat → ClassId} {z : Nat → Nat} {A : Nat → Nat → Nat} {Os : Nat → OF} {T : OF} {v : Nat × Int32} {k : Nat} {x : Int32} {s : State} {H : Heap} {locs : List Loc} (hk : ¬ k = 0) (hv : (k, x) = v) (hT : tsP D cs z A Os T H) (hS : va_S (tA z A) s.heap H locs) : ∀ t : State, s.vm.Alike t.vm → H.size ≤ t.heap.size → (∀ q : Nat, q < H.size → t.heap[q]? = H[q]?) → xrX D cs z A Os T v (exN k) s t := by
  intro t _ h1 h2
  subst hv
  exact ⟨(), hk, ⟨rfl, ts_ext hT h2⟩, F_ext hS h1 h2⟩
theorem xc_n {D : va_G} {cs : Nat → ClassId} {z : Nat → Nat} {A : Nat → Nat → Nat} {Os : Nat → OF} {T : OF} {v : Nat} {k : Nat} {s : State} {H : Heap} {locs : List Loc} (hk : ¬ k = 0) (hv : k = v) (hT : tsP D cs z A Os T H) (hS : va_S (tA z A) s.heap H locs) : ∀ t : State, s.vm.Alike t.vm → H.size ≤ t.heap.size → (∀ q : Nat, q < H.size → t.heap[q]? = H[q]?) → xnX D cs z A Os T v (exN k) s t := by
  intro t _ h1 h2
  subst hv
  exact ⟨(), hk, ⟨rfl, ts_ext hT h2⟩, F_ext hS h1 h2⟩
theorem xc_w {D : va_G} {cs : Nat → ClassId} {z : Nat → Nat} {A : Nat → Nat → Nat} {Os : Nat → OF} {T : OF} {v : Nat × Int32 × TSt} {k : Nat} {x : Int32} {s : State} {H : Heap} {locs : List Loc} (hk : ¬ k = 0) (hv : (k, x, (Os, T)) = v) (hT : tsP D cs z A Os T H) (hS : va_S (tA z A) s.heap H locs) : ∀ t : State, s.vm.Alike t.vm → H.size ≤ t.heap.size → (∀ q : Nat, q < H.size → t.heap[q]? = H[q]?) → xwX D cs z A v (exN k) s t := by
  intro t _ h1 h2
  subst hv
  exact ⟨(Os, T), ⟨hk, rfl⟩, ⟨rfl, ts_ext hT h2⟩, F_ext hS h1 h2⟩
/-- a start of a method that may throw -/
theorem met_x {l : Launch} {y : MethodName} {rm : Room} {cc : ByteArray} {n : Nat} {ret : Option FieldType} {av : List Value} {B : State → Prop} {Qc : Array Value → State → Outcome → State → Prop} {XC : String → State → State → Prop} {mc ms : Nat} {free : Addr → Prop} {lv : List (Nat × Value)}
    (hy : plainName y.cls = true) (hsl : (lg_sl av).length ≤ n) (hlv : lv_args 0 av = lv)
    (body : ∀ (p : Program) (e : Env) (s : State) (m : MethodId) (args : Array Value) (below : List Frame) (meth : Method) (c : Code) (ls : Array Slot), p.tables.exec = Jvm.exec → c.code = cc → meth.sig.returnType = ret → c.maxLocals = n → (∀ w ∈ GL, w.before args s = true) → s.vm.findClass y.cls = some m.cls → meth.locks = false → (∀ x ∈ c.exceptionTable.toList, False) → B s → lv_has ls n lv → W p l e rm s m args below meth c s.heap [] 0 0 (vx_MQ below Qc XC args s mc ms free) (F0 m 0 ls [])) :
    vx_Met l y (wc y cc n ret) rm (va_Pc av B) Qc XC mc ms free := by
  refine vx_ofW (cc := cc) (maxL := n) (ret := ret) hy rfl ?_
  intro p e s m args below meth c s₁ Bd hml ht hv
  obtain ⟨rfl, hB⟩ := hv
  have hown : s.vm.findClass y.cls = some m.cls := findClass_of_methodNamed Bd.named
  have hl := lv_entry av (n := n) hsl
  rw [lg_entry_eq]
  rw [hlv] at hl
  exact body p e s m av.toArray below meth c _ Bd.exec Bd.bytes Bd.returns hml (fun w hw => atoms_spec (ws := wc y cc n ret) Bd.pre w (List.mem_cons_of_mem _ hw)) hown Bd.notSynchronized ht hB hl
section XROWS
variable {p : Program} {l : Launch} {e : Env} {R : Room} {s : State} {m : MethodId} {args : Array Value} {below : List Frame} {meth : Method} {c : Code} {H : Heap} {locs : List Loc} {cells slots : Nat} {Q : State → Prop}
variable {pc : Nat} {ls : Array Slot} {rest st0 : List Value} {a : Array Value} {A0 : Nat → Prop} {H0 : Heap} {free : Addr → Prop} {mc ms : Nat} {D : va_G} {cs : Nat → ClassId} {z : Nat → Nat} {A : Nat → Nat → Nat} {Os : Nat → OF} {T : OF} {adK adV : Nat → Nat} {Qc : Array Value → State → Outcome → State → Prop} {XC : String → State → State → Prop}
/-- calls of methods that may throw -/
theorem x_r (v : Nat × Int32) (hr : vx_Run p l e R s m args below meth c H locs cells slots mc ms (F0 m pc ls st0) rest (xrQ D cs z A Os T v a) (xrX D cs z A Os T v) free) (hS : va_S A0 H0 H locs) (hA : ∀ q, q < H.size → tA z A q → A0 q) (hf : ∀ q, free q → A0 q)
    (kx : ¬ v.1 = 0 → ∀ (ce : Cell) (q9 : Addr) (t : State) (locs1 : List Loc), tsP D cs z A Os T t.heap → H.size ≤ t.heap.size → (∀ q : Nat, q < H.size → ¬ tA z A q → t.heap[q]? = H[q]?) → va_S A0 H0 t.heap locs1 → t.heap[q9]? = some ce → ce.vm = .none → s.vm.findClass (exN v.1) = some ce.cls → vx_W p l e R s m args below meth c t.heap locs1 (cells + mc) (slots + ms) Q (F0 m pc ls rest) q9)
    (kk : v.1 = 0 → ∀ (t : State) (locs1 : List Loc), tsP D cs z A Os T t.heap → H.size ≤ t.heap.size → (∀ q : Nat, q < H.size → ¬ tA z A q → t.heap[q]? = H[q]?) → va_S A0 H0 t.heap locs1 → W p l e R s m args below meth c t.heap locs1 (cells + mc) (slots + ms) Q (F0 m (pc + 3) ls (.int v.2 :: rest))) : W p l e R s m args below meth c H locs cells slots Q (F0 m pc ls st0) := by
  refine vx_calli hr hS hA hf hA (fun E ce q9 u t H1 locs1 ht _ hp hB hz hk hS1 h1 h2 h3 => ?_) (fun r u t H1 locs1 ht _ hp hB hz hk hS1 => ?_)
  · obtain ⟨rfl, hB⟩ := hB
    subst ht
    exact kx hp ce q9 t locs1 hB hz hk hS1 h1 h2 h3
  · obtain ⟨h0, rfl⟩ := hp
    subst ht
    exact kk h0 t locs1 hB hz hk hS1
theorem x_n (v : Nat) (hr : vx_Run p l e R s m args below meth c H locs cells slots mc ms (F0 m pc ls st0) rest (xnQ D cs z A Os T v a) (xnX D cs z A Os T v) free) (hS : va_S A0 H0 H locs) (hA : ∀ q, q < H.size → tA z A q → A0 q) (hf : ∀ q, free q → A0 q)
    (kx : ¬ v = 0 → ∀ (ce : Cell) (q9 : Addr) (t : State) (locs1 : List Loc), tsP D cs z A Os T t.heap → H.size ≤ t.heap.size → (∀ q : Nat, q < H.size → ¬ tA z A q → t.heap[q]? = H[q]?) → va_S A0 H0 t.heap locs1 → t.heap[q9]? = some ce → ce.vm = .none → s.vm.findClass (exN v) = some ce.cls → vx_W p l e R s m args below meth c t.heap locs1 (cells + mc) (slots + ms) Q (F0 m pc ls rest) q9)
    (kk : v = 0 → ∀ (t : State) (locs1 : List Loc), tsP D cs z A Os T t.heap → H.size ≤ t.heap.size → (∀ q : Nat, q < H.size → ¬ tA z A q → t.heap[q]? = H[q]?) → va_S A0 H0 t.heap locs1 → W p l e R s m args below meth c t.heap locs1 (cells + mc) (slots + ms) Q (F0 m (pc + 3) ls rest)) : W p l e R s m args below meth c H locs cells slots Q (F0 m pc ls st0) := by
  refine vx_callv hr hS hA hf hA (fun E ce q9 u t H1 locs1 ht _ hp hB hz hk hS1 h1 h2 h3 => ?_) (fun u t H1 locs1 ht _ hp hB hz hk hS1 => ?_)
  · obtain ⟨rfl, hB⟩ := hB
    subst ht
    exact kx hp ce q9 t locs1 hB hz hk hS1 h1 h2 h3
  · subst ht
    exact kk hp t locs1 hB hz hk hS1
theorem x_w (v : Nat × Int32 × TSt) (hr : vx_Run p l e R s m args below meth c H locs cells slots mc ms (F0 m pc ls st0) rest (xwQ D cs z A v a) (xwX D cs z A v) free) (hS : va_S A0 H0 H locs) (hA : ∀ q, q < H.size → tA z A q → A0 q) (hf : ∀ q, free q → A0 q)
    (kx : ¬ v.1 = 0 → ∀ (ce : Cell) (q9 : Addr) (t : State) (locs1 : List Loc), tsP D cs z A v.2.2.1 v.2.2.2 t.heap → H.size ≤ t.heap.size → (∀ q : Nat, q < H.size → ¬ tA z A q → t.heap[q]? = H[q]?) → va_S A0 H0 t.heap locs1 → t.heap[q9]? = some ce → ce.vm = .none → s.vm.findClass (exN v.1) = some ce.cls → vx_W p l e R s m args below meth c t.heap locs1 (cells + mc) (slots + ms) Q (F0 m pc ls rest) q9)
    (kk : v.1 = 0 → ∀ (t : State) (locs1 : List Loc), tsP D cs z A v.2.2.1 v.2.2.2 t.heap → H.size ≤ t.heap.size → (∀ q : Nat, q < H.size → ¬ tA z A q → t.heap[q]? = H[q]?) → va_S A0 H0 t.heap locs1 → W p l e R s m args below meth c t.heap locs1 (cells + mc) (slots + ms) Q (F0 m (pc + 3) ls (.int v.2.1 :: rest))) : W p l e R s m args below meth c H locs cells slots Q (F0 m pc ls st0) := by
  refine vx_calli hr hS hA hf hA (fun E ce q9 u t H1 locs1 ht _ hp hB hz hk hS1 h1 h2 h3 => ?_) (fun r u t H1 locs1 ht _ hp hB hz hk hS1 => ?_)
  · obtain ⟨rfl, hB⟩ := hB
    obtain ⟨h0, rfl⟩ := hp
    subst ht
    exact kx h0 ce q9 t locs1 hB hz hk hS1 h1 h2 h3
  · obtain ⟨h0, rfl, rfl⟩ := hp
    subst ht
    exact kk h0 t locs1 hB hz hk hS1
/-- a throw that goes on to the caller -/
theorem x_out {E : String} {ce : Cell} {q : Addr} (hout : ∀ x ∈ c.exceptionTable.toList, False) (hlocks : meth.locks = false) (hcell : H[q]? = some ce) (hv : ce.vm = .none) (hcl : s.vm.findClass E = some ce.cls)
    (hx : ∀ t : State, s.vm.Alike t.vm → H.size ≤ t.heap.size → (∀ q : Nat, q < H.size → t.heap[q]? = H[q]?) → XC E s t) (hf : ∀ z ∈ locs, free z.base) (hc : cells ≤ mc) (hs : slots ≤ ms) :
    vx_W p l e R s m args below meth c H locs cells slots (vx_MQ below Qc XC args s mc ms free) (F0 m pc ls rest) q :=
  vx_out (fun x h => (hout x h).elim) hlocks hcell hv hcl (fun t ht hA => hx t hA (Nat.le_of_eq (by rw [ht])) (fun q _ => by rw [ht])) hf hc hs
theorem thr_1 {cc : ByteArray} {text : String} {is sa : Nat} (hexec : p.tables.exec = Jvm.exec) (hb : c.code = cc) (hl : l.stackTraces = false) (hown : s.vm.findClass RX7 = some m.cls) (hts : ∀ w ∈ GL, w.before args s = true) (hXE : XE z A adK adV s) (hstr : vk_R RX7 is text sa s) (hS : va_S (tA z A) s.heap H locs) (hsize : ls.size = c.maxLocals)
    (d0 : decode cc pc = .ok (.new 40, 3)) (d3 : decode cc (pc + 3) = .ok (.dup, 1)) (d4 : decode cc (pc + 4) = .ok (.ldc is, 2)) (d6 : decode cc (pc + 6) = .ok (.invokespecial 44, 3)) (d9 : decode cc (pc + 9) = .ok (.athrow, 1)) (hout : ∀ x ∈ c.exceptionTable.toList, False) (hRframes : 5 < R.frames) (hRlocals : (rest.map fun v => v.category).sum + 82 ≤ R.locals) (hRcells : cells + 1 ≤ R.cells) (hRslots : slots + 6 ≤ R.slots) (hlocks : meth.locks = false)
    (hx : ∀ t : State, s.vm.Alike t.vm → H.size ≤ t.heap.size → (∀ q : Nat, q < H.size → t.heap[q]? = H[q]?) → XC "java/lang/IllegalArgumentException" s t) (hf : ∀ z ∈ locs, free z.base) (hc : cells + 1 ≤ mc) (hs : slots + 6 ≤ ms) :
    W p l e R s m args below meth c H locs cells slots (vx_MQ below Qc XC args s mc ms free) (F0 m pc ls rest) :=
  vx_throwS (names := xup) hexec hb hl hown (by decide +kernel) (by decide +kernel) (hts _ w_cl_X7_40) (hts _ w_xi_1) hstr (vx_hat (fun w hw => hts w (gl (xg_1 w hw) (List.mem_filter.mp hw).2)) xb_1 (fun w hw => va_Nw.use (by simp only [exW, List.mem_cons, List.not_mem_nil, or_false] at hw; rcases hw with rfl | rfl | rfl | rfl | rfl | rfl <;> rfl) (hXE.2.1 w hw))) xo_1 hXE.2.2.1 hXE.2.2.2.1 hS hsize d0 d3 d4 d6 d9 (fun x h => (hout x h).elim) hRframes hRlocals hRcells hRslots hlocks hx hf hc hs
theorem thr_1w {cc : ByteArray} {text : String} {is sa : Nat} (hexec : p.tables.exec = Jvm.exec) (hb : c.code = cc) (hl : l.stackTraces = false) (hown : s.vm.findClass RX7 = some m.cls) (hts : ∀ w ∈ GL, w.before args s = true) (hXE : XE z A adK adV s) (hstr : vk_R RX7 is text sa s) (hS : va_S (tA z A) s.heap H locs) (hsize : ls.size = c.maxLocals)
    (d0 : decode cc pc = .ok (.new 40, 3)) (d3 : decode cc (pc + 3) = .ok (.dup, 1)) (d4 : decode cc (pc + 4) = .ok (.ldc_w is, 3)) (d6 : decode cc (pc + 7) = .ok (.invokespecial 44, 3)) (d9 : decode cc (pc + 10) = .ok (.athrow, 1)) (hout : ∀ x ∈ c.exceptionTable.toList, False) (hRframes : 5 < R.frames) (hRlocals : (rest.map fun v => v.category).sum + 82 ≤ R.locals) (hRcells : cells + 1 ≤ R.cells) (hRslots : slots + 6 ≤ R.slots) (hlocks : meth.locks = false)
    (hx : ∀ t : State, s.vm.Alike t.vm → H.size ≤ t.heap.size → (∀ q : Nat, q < H.size → t.heap[q]? = H[q]?) → XC "java/lang/IllegalArgumentException" s t) (hf : ∀ z ∈ locs, free z.base) (hc : cells + 1 ≤ mc) (hs : slots + 6 ≤ ms) :
    W p l e R s m args below meth c H locs cells slots (vx_MQ below Qc XC args s mc ms free) (F0 m pc ls rest) :=
  vx_throwSW (names := xup) hexec hb hl hown (by decide +kernel) (by decide +kernel) (hts _ w_cl_X7_40) (hts _ w_xi_1) hstr (vx_hat (fun w hw => hts w (gl (xg_1 w hw) (List.mem_filter.mp hw).2)) xb_1 (fun w hw => va_Nw.use (by simp only [exW, List.mem_cons, List.not_mem_nil, or_false] at hw; rcases hw with rfl | rfl | rfl | rfl | rfl | rfl <;> rfl) (hXE.2.1 w hw))) xo_1 hXE.2.2.1 hXE.2.2.2.1 hS hsize d0 d3 d4 d6 d9 (fun x h => (hout x h).elim) hRframes hRlocals hRcells hRslots hlocks hx hf hc hs
theorem thr_2 {cc : ByteArray} {text : String} {is sa : Nat} (hexec : p.tables.exec = Jvm.exec) (hb : c.code = cc) (hl : l.stackTraces = false) (hown : s.vm.findClass RX7 = some m.cls) (hts : ∀ w ∈ GL, w.before args s = true) (hXE : XE z A adK adV s) (hstr : vk_R RX7 is text sa s) (hS : va_S (tA z A) s.heap H locs) (hsize : ls.size = c.maxLocals)
    (d0 : decode cc pc = .ok (.new 51, 3)) (d3 : decode cc (pc + 3) = .ok (.dup, 1)) (d4 : decode cc (pc + 4) = .ok (.ldc is, 2)) (d6 : decode cc (pc + 6) = .ok (.invokespecial 55, 3)) (d9 : decode cc (pc + 9) = .ok (.athrow, 1)) (hout : ∀ x ∈ c.exceptionTable.toList, False) (hRframes : 5 < R.frames) (hRlocals : (rest.map fun v => v.category).sum + 82 ≤ R.locals) (hRcells : cells + 1 ≤ R.cells) (hRslots : slots + 6 ≤ R.slots) (hlocks : meth.locks = false)
    (hx : ∀ t : State, s.vm.Alike t.vm → H.size ≤ t.heap.size → (∀ q : Nat, q < H.size → t.heap[q]? = H[q]?) → XC "java/lang/IllegalStateException" s t) (hf : ∀ z ∈ locs, free z.base) (hc : cells + 1 ≤ mc) (hs : slots + 6 ≤ ms) :
    W p l e R s m args below meth c H locs cells slots (vx_MQ below Qc XC args s mc ms free) (F0 m pc ls rest) :=
  vx_throwS (names := xup) hexec hb hl hown (by decide +kernel) (by decide +kernel) (hts _ w_cl_X7_51) (hts _ w_xi_2) hstr (vx_hat (fun w hw => hts w (gl (xg_2 w hw) (List.mem_filter.mp hw).2)) xb_2 (fun w hw => va_Nw.use (by simp only [exW, List.mem_cons, List.not_mem_nil, or_false] at hw; rcases hw with rfl | rfl | rfl | rfl | rfl | rfl <;> rfl) (hXE.2.1 w hw))) xo_2 hXE.2.2.1 hXE.2.2.2.1 hS hsize d0 d3 d4 d6 d9 (fun x h => (hout x h).elim) hRframes hRlocals hRcells hRslots hlocks hx hf hc hs
theorem thr_2w {cc : ByteArray} {text : String} {is sa : Nat} (hexec : p.tables.exec = Jvm.exec) (hb : c.code = cc) (hl : l.stackTraces = false) (hown : s.vm.findClass RX7 = some m.cls) (hts : ∀ w ∈ GL, w.before args s = true) (hXE : XE z A adK adV s) (hstr : vk_R RX7 is text sa s) (hS : va_S (tA z A) s.heap H locs) (hsize : ls.size = c.maxLocals)
    (d0 : decode cc pc = .ok (.new 51, 3)) (d3 : decode cc (pc + 3) = .ok (.dup, 1)) (d4 : decode cc (pc + 4) = .ok (.ldc_w is, 3)) (d6 : decode cc (pc + 7) = .ok (.invokespecial 55, 3)) (d9 : decode cc (pc + 10) = .ok (.athrow, 1)) (hout : ∀ x ∈ c.exceptionTable.toList, False) (hRframes : 5 < R.frames) (hRlocals : (rest.map fun v => v.category).sum + 82 ≤ R.locals) (hRcells : cells + 1 ≤ R.cells) (hRslots : slots + 6 ≤ R.slots) (hlocks : meth.locks = false)
    (hx : ∀ t : State, s.vm.Alike t.vm → H.size ≤ t.heap.size → (∀ q : Nat, q < H.size → t.heap[q]? = H[q]?) → XC "java/lang/IllegalStateException" s t) (hf : ∀ z ∈ locs, free z.base) (hc : cells + 1 ≤ mc) (hs : slots + 6 ≤ ms) :
    W p l e R s m args below meth c H locs cells slots (vx_MQ below Qc XC args s mc ms free) (F0 m pc ls rest) :=
  vx_throwSW (names := xup) hexec hb hl hown (by decide +kernel) (by decide +kernel) (hts _ w_cl_X7_51) (hts _ w_xi_2) hstr (vx_hat (fun w hw => hts w (gl (xg_2 w hw) (List.mem_filter.mp hw).2)) xb_2 (fun w hw => va_Nw.use (by simp only [exW, List.mem_cons, List.not_mem_nil, or_false] at hw; rcases hw with rfl | rfl | rfl | rfl | rfl | rfl <;> rfl) (hXE.2.1 w hw))) xo_2 hXE.2.2.1 hXE.2.2.2.1 hS hsize d0 d3 d4 d6 d9 (fun x h => (hout x h).elim) hRframes hRlocals hRcells hRslots hlocks hx hf hc hs
theorem thr_3 {cc : ByteArray} {text : String} {is sa : Nat} (hexec : p.tables.exec = Jvm.exec) (hb : c.code = cc) (hl : l.stackTraces = false) (hown : s.vm.findClass RX7 = some m.cls) (hts : ∀ w ∈ GL, w.before args s = true) (hXE : XE z A adK adV s) (hstr : vk_R RX7 is text sa s) (hS : va_S (tA z A) s.heap H locs) (hsize : ls.size = c.maxLocals)
    (d0 : decode cc pc = .ok (.new 100, 3)) (d3 : decode cc (pc + 3) = .ok (.dup, 1)) (d4 : decode cc (pc + 4) = .ok (.ldc is, 2)) (d6 : decode cc (pc + 6) = .ok (.invokespecial 104, 3)) (d9 : decode cc (pc + 9) = .ok (.athrow, 1)) (hout : ∀ x ∈ c.exceptionTable.toList, False) (hRframes : 5 < R.frames) (hRlocals : (rest.map fun v => v.category).sum + 82 ≤ R.locals) (hRcells : cells + 1 ≤ R.cells) (hRslots : slots + 6 ≤ R.slots) (hlocks : meth.locks = false)
    (hx : ∀ t : State, s.vm.Alike t.vm → H.size ≤ t.heap.size → (∀ q : Nat, q < H.size → t.heap[q]? = H[q]?) → XC "java/lang/IndexOutOfBoundsException" s t) (hf : ∀ z ∈ locs, free z.base) (hc : cells + 1 ≤ mc) (hs : slots + 6 ≤ ms) :
    W p l e R s m args below meth c H locs cells slots (vx_MQ below Qc XC args s mc ms free) (F0 m pc ls rest) :=
  vx_throwS (names := xup) hexec hb hl hown (by decide +kernel) (by decide +kernel) (hts _ w_cl_X7_100) (hts _ w_xi_3) hstr (vx_hat (fun w hw => hts w (gl (xg_3 w hw) (List.mem_filter.mp hw).2)) xb_3 (fun w hw => va_Nw.use (by simp only [exW, List.mem_cons, List.not_mem_nil, or_false] at hw; rcases hw with rfl | rfl | rfl | rfl | rfl | rfl <;> rfl) (hXE.2.1 w hw))) xo_3 hXE.2.2.1 hXE.2.2.2.1 hS hsize d0 d3 d4 d6 d9 (fun x h => (hout x h).elim) hRframes hRlocals hRcells hRslots hlocks hx hf hc hs
theorem thr_3w {cc : ByteArray} {text : String} {is sa : Nat} (hexec : p.tables.exec = Jvm.exec) (hb : c.code = cc) (hl : l.stackTraces = false) (hown : s.vm.findClass RX7 = some m.cls) (hts : ∀ w ∈ GL, w.before args s = true) (hXE : XE z A adK adV s) (hstr : vk_R RX7 is text sa s) (hS : va_S (tA z A) s.heap H locs) (hsize : ls.size = c.maxLocals)
    (d0 : decode cc pc = .ok (.new 100, 3)) (d3 : decode cc (pc + 3) = .ok (.dup, 1)) (d4 : decode cc (pc + 4) = .ok (.ldc_w is, 3)) (d6 : decode cc (pc + 7) = .ok (.invokespecial 104, 3)) (d9 : decode cc (pc + 10) = .ok (.athrow, 1)) (hout : ∀ x ∈ c.exceptionTable.toList, False) (hRframes : 5 < R.frames) (hRlocals : (rest.map fun v => v.category).sum + 82 ≤ R.locals) (hRcells : cells + 1 ≤ R.cells) (hRslots : slots + 6 ≤ R.slots) (hlocks : meth.locks = false)
    (hx : ∀ t : State, s.vm.Alike t.vm → H.size ≤ t.heap.size → (∀ q : Nat, q < H.size → t.heap[q]? = H[q]?) → XC "java/lang/IndexOutOfBoundsException" s t) (hf : ∀ z ∈ locs, free z.base) (hc : cells + 1 ≤ mc) (hs : slots + 6 ≤ ms) :
    W p l e R s m args below meth c H locs cells slots (vx_MQ below Qc XC args s mc ms free) (F0 m pc ls rest) :=
  vx_throwSW (names := xup) hexec hb hl hown (by decide +kernel) (by decide +kernel) (hts _ w_cl_X7_100) (hts _ w_xi_3) hstr (vx_hat (fun w hw => hts w (gl (xg_3 w hw) (List.mem_filter.mp hw).2)) xb_3 (fun w hw => va_Nw.use (by simp only [exW, List.mem_cons, List.not_mem_nil, or_false] at hw; rcases hw with rfl | rfl | rfl | rfl | rfl | rfl <;> rfl) (hXE.2.1 w hw))) xo_3 hXE.2.2.1 hXE.2.2.2.1 hS hsize d0 d3 d4 d6 d9 (fun x h => (hout x h).elim) hRframes hRlocals hRcells hRslots hlocks hx hf hc hs
end XROWS
