/-! constructors: cells that are made one behind another -/
theorem w_oi_im : (.instanceMethod objectInit : Cond) ∈ GL := gl (tb1 (List.mem_of_getElem? (i := 29) (by decide +kernel))) (by decide +kernel)
theorem w_oi_co : (.code objectInit ⟨#[0xb1]⟩ 1 none : Cond) ∈ GL := gl (tb1 (List.mem_of_getElem? (i := 30) (by decide +kernel))) (by decide +kernel)
theorem w_oi_X7 : (.methodLink RX7 3 objectInit : Cond) ∈ GL := gl (tb1 (List.mem_of_getElem? (i := 28) (by decide +kernel))) (by decide +kernel)
theorem w_oi_X2 : (.methodLink RX2 3 objectInit : Cond) ∈ GL := gl (tb1 (List.mem_of_getElem? (i := 36) (by decide +kernel))) (by decide +kernel)
theorem w_oi_X1 : (.methodLink RX1 3 objectInit : Cond) ∈ GL := gl (tb1 (List.mem_of_getElem? (i := 66) (by decide +kernel))) (by decide +kernel)
theorem w_oi_X4 : (.methodLink RX4 3 objectInit : Cond) ∈ GL := gl (tb1 (List.mem_of_getElem? (i := 72) (by decide +kernel))) (by decide +kernel)
theorem w_oi_X3 : (.methodLink RX3 3 objectInit : Cond) ∈ GL := gl (tb1 (List.mem_of_getElem? (i := 94) (by decide +kernel))) (by decide +kernel)
theorem w_oi_X6 : (.methodLink RX6 3 objectInit : Cond) ∈ GL := gl (tb1 (List.mem_of_getElem? (i := 125) (by decide +kernel))) (by decide +kernel)
theorem w_oi_X0 : (.methodLink RX0 3 objectInit : Cond) ∈ GL := gl (tb1 (List.mem_of_getElem? (i := 187) (by decide +kernel))) (by decide +kernel)
theorem w_oi_X5 : (.methodLink RX5 3 objectInit : Cond) ∈ GL := gl (tb1 (List.mem_of_getElem? (i := 206) (by decide +kernel))) (by decide +kernel)
theorem w_oi_X8 : (.methodLink RX8 1 objectInit : Cond) ∈ GL := gl (tb5 (List.mem_of_getElem? (i := 201) (by decide +kernel))) (by decide +kernel)
theorem w_ao_tbl : (.arrayOver (.object "TrueSheets$Office") : Cond) ∈ lw_tbl := tb1 (List.mem_of_getElem? (i := 189) (by decide +kernel))
/-- what a constructor finds -/
def CE (D : va_G) (cs : Nat → ClassId) (U : State) : Prop := EV D cs U ∧ va_AO "TrueSheets$Office" U
theorem CE.warm {D : va_G} {cs : Nat → ClassId} {s U : State} (hW : s.WarmedH U.vm) (h : CE D cs s) : CE D cs U := ⟨h.1.warm hW, va_AO.moved hW.alike h.2⟩
def CP (D : va_G) (cs : Nat → ClassId) (h0 ci : Nat) (fs : List Value) : State → Prop := fun U => (U.heap.size = h0 + 1 ∧ va_P D vwC [(h0, .inr (ci, fs))] U.heap) ∧ CE D cs U
theorem cp_S {D : va_G} {cs : Nat → ClassId} {h0 ci : Nat} {fs : List Value} {s : State} {H : Heap} (hz : H.size = h0 + 1) (hP : va_P D vwC [(h0, .inr (ci, fs))] H) (hE : CE D cs s) : PreS s H (va_Pc [.ref h0] (CP D cs h0 ci fs)) [.ref h0] :=
  ⟨fun a U g mk q => by
    obtain ⟨q0, q1, ⟨q2, q3⟩, q4⟩ := q
    exact ⟨q0, q1, ⟨va_K.moved (u := U) (U := U.calling g mk a) (Vm.Alike.refl U.vm) q2, q3.same rfl⟩, va_AO.moved (u := U) (U := U.calling g mk a) (Vm.Alike.refl U.vm) q4⟩, fun U hU hW => ⟨rfl, by rw [hU]; exact ⟨hz, hP⟩, hE.warm hW⟩⟩
theorem k_one {D : va_G} {q : Nat × va_E} {H : Heap} (h : va_at D vwC q H) : va_P D vwC [q] H := by
  intro k x hx
  match k, hx with
  | 0, hx => cases hx; exact h
  | k + 1, hx => simp at hx
theorem k_oneD {A : Nat → Prop} {q : Nat × va_E} (h : A q.1) : va_D A [q] := by
  refine ⟨fun i j x y hx hy _ => ?_, fun k x hx => ?_⟩
  · match i, j, hx, hy with
    | 0, 0, _, _ => rfl
    | 0, j + 1, _, hy => simp at hy
    | i + 1, _, hx, _ => simp at hx
  · match k, hx with
    | 0, hx => cases hx; exact h
    | k + 1, hx => simp at hx
theorem k_join {ws W : va_W} {h1 : Nat} {A : Nat → Prop} (hD : va_D A ws) (hlt : ∀ (k : Nat) (q : Nat × va_E), ws[k]? = some q → q.1 < h1) (hD1 : va_D (fun q => h1 ≤ q) W) (hA : ∀ q, h1 ≤ q → A q) : va_D A (ws ++ W) :=
  hD.app (hD1.weaken (fun _ _ _ h => hA _ h)) (fun i j p q hp hq e => by have h1 := hlt i p hp; have h2 := hD1.2 j q hq; omega)
theorem p_lt {D : va_G} {ws : va_W} {H : Heap} {h : Nat} (hP : va_P D vwC ws H) (hz : H.size = h) : ∀ (k : Nat) (q : Nat × va_E), ws[k]? = some q → q.1 < h := fun k q hq => by have h1 := (hP k q hq).lt; omega
theorem p_l {D : va_G} {w1 w2 : va_W} {H : Heap} (h : va_P D vwC (w1 ++ w2) H) : va_P D vwC w1 H := fun k q hq => h k q (by rw [List.getElem?_append_left (List.getElem?_eq_some_iff.mp hq).1]; exact hq)
theorem p_r {D : va_G} {w1 w2 : va_W} {H : Heap} (h : va_P D vwC (w1 ++ w2) H) : va_P D vwC w2 H := fun k q hq => h (w1.length + k) q (by rw [List.getElem?_append_right (by omega), show w1.length + k - w1.length = k by omega]; exact hq)
section KROWS
variable {p : Program} {l : Launch} {e : Env} {R : Room} {s : State} {m : MethodId} {args : Array Value} {below : List Frame} {meth : Method} {c : Code} {H : Heap} {locs : List Loc} {cells slots : Nat} {Q : State → Prop}
variable {cc : ByteArray} {pc : Nat} {ls : Array Slot} {rest st0 : List Value} {a : Array Value} {A : Nat → Prop} {H0 : Heap} {D : va_G} {cs : Nat → ClassId} {ws : va_W}
theorem k_new {own C : String} {T : u_T} {N ci index : Nat} (hexec : p.tables.exec = Jvm.exec) (hb : c.code = cc) (hts : ∀ w ∈ GL, w.before args s = true) (hin : ∀ w ∈ u_ws C T N, w ∈ GL) (ty : Nat → FieldType) (hty : ∀ k, k < N → parseFieldDescriptor (T k).2.2.1 = some (ty k)) (hown : s.vm.findClass own = some m.cls) (hcl : (Cond.classLink own index C).before args s = true) (hinst : (Cond.instantiable C N).before args s = true) (hini : (Cond.initialized C).before args s = true)
    (hK : va_K D vwC (atys cs) s) (hP : va_P D vwC ws H) (hS : va_S A H0 H locs) (hc : vwC[ci]? = some (C, T, N)) {fs : List Value} (hfs : ∀ j, j < N → defaultValue (ty j) = vp_V fs j) {h : Nat} (hz : H.size = h) (hcells : cells + 1 ≤ R.cells) (hslots : slots + N ≤ R.slots) (hdg : decode cc pc = .ok (.new index, 3))
    (kk : ∀ H1 : Heap, H1.size = h + 1 → va_P D vwC ws H1 → va_P D vwC [(h, .inr (ci, fs))] H1 → va_S A H0 H1 locs → W p l e R s m args below meth c H1 locs (cells + 1) (slots + N) Q (F0 m (pc + 3) ls (.ref h :: rest))) : W p l e R s m args below meth c H locs cells slots Q (F0 m pc ls rest) := by
  have hKn := hK.1 ci _ hc
  refine W.newcK hexec hb hown hcl hinst hini rfl hdg hcells hslots hKn.2.1 hz fun H1 kC hkC e1 z1 o1 => ?_
  have hlt := p_lt hP hz
  refine kk H1 z1 (hP.kept (fun k x hx => o1 x.1 (hlt k x hx))) (k_one ⟨_, hc, (u_born ty hts hin hKn hkC e1 hty).to hfs⟩) ⟨?_, fun x h1 h2 => (o1 x ?_).trans (hS.2.1 x h1 h2), hS.2.2⟩
  · have := hS.1; omega
  · have := hS.1; omega
theorem k_newa (hexec : p.tables.exec = Jvm.exec) (hb : c.code = cc) {atype : ArrayType} (harr : (Cond.arrayClass (newarray.typeOf atype)).before args s = true) {cA : ClassId} (hcA : s.vm.findClass ("[" ++ (newarray.typeOf atype).toString) = some cA) (hP : va_P D vwC ws H) (hD : va_D A ws) (hS : va_S A H0 H locs)
    {n : Int32} {N' : Nat} {a0 : vp_A} (ha : vp_cell cA a0 = arrV cA N' (fun _ => defaultValue (newarray.typeOf atype))) (hn : ¬ n < 0) (hN : n.toNatClampNeg = N') (hbytes : N' * componentBytes (newarray.typeOf atype) ≤ 536870912) {h : Nat} (hz : H.size = h) (hA : A h) (hcells : cells + 1 ≤ R.cells) (hslots : slots + N' ≤ R.slots) (hdg : decode cc pc = .ok (.newarray atype, 2))
    (kk : ∀ H1 : Heap, H1.size = h + 1 → va_P D vwC (ws ++ [(h, .inl (cA, a0))]) H1 → va_D A (ws ++ [(h, .inl (cA, a0))]) → va_S A H0 H1 locs → W p l e R s m args below meth c H1 locs (cells + 1) (slots + N') Q (F0 m (pc + 2) ls (.ref h :: rest))) : W p l e R s m args below meth c H locs cells slots Q (F0 m pc ls (.int n :: rest)) := by
  refine va_newaK hexec hb harr rfl hdg rfl hn hN hbytes hcells hslots hz fun H1 cB e1 z1 o1 _ hNm => ?_
  obtain rfl : cB = cA := Option.some.inj (hNm.symm.trans hcA)
  have hlt := p_lt hP hz
  refine kk H1 z1 ((hP.kept (fun k x hx => o1 x.1 (hlt k x hx))).app (k_one ?_)) (hD.push hP hz.symm hA) ⟨?_, fun x h1 h2 => (o1 x ?_).trans (hS.2.1 x h1 h2), hS.2.2⟩
  · show H1[h]? = some (vp_cell _ _)
    rw [ha]; exact e1
  · have := hS.1; omega
  · have := hS.1; omega
theorem k_newq (hexec : p.tables.exec = Jvm.exec) (hb : c.code = cc) {own C : String} {index : Nat} (hown : s.vm.findClass own = some m.cls) (hclink : (Cond.classLink own index C).before args s = true) (hover : va_AO C s) {cA : ClassId} (hcA : s.vm.findClass ("[" ++ (FieldType.object C).toString) = some cA) (hP : va_P D vwC ws H) (hD : va_D A ws) (hS : va_S A H0 H locs)
    {n : Int32} {N' : Nat} (hn : ¬ n < 0) (hN : n.toNatClampNeg = N') (hbytes : N' * 4 ≤ 536870912) {h : Nat} (hz : H.size = h) (hA : A h) (hcells : cells + 1 ≤ R.cells) (hslots : slots + N' ≤ R.slots) (hdg : decode cc pc = .ok (.anewarray index, 3))
    (kk : ∀ H1 : Heap, H1.size = h + 1 → va_P D vwC (ws ++ [(h, .inl (cA, N', .inr (.inr (.inr (.inr (fun _ => none))))))]) H1 → va_D A (ws ++ [(h, .inl (cA, N', .inr (.inr (.inr (.inr (fun _ => none))))))]) → va_S A H0 H1 locs → W p l e R s m args below meth c H1 locs (cells + 1) (slots + N') Q (F0 m (pc + 3) ls (.ref h :: rest))) : W p l e R s m args below meth c H locs cells slots Q (F0 m pc ls (.int n :: rest)) := by
  subst hN
  refine W.anew hexec hb hown hclink (va_AO.use hover) rfl hdg rfl hn hbytes hcells hslots fun cB kA comp f1 f2 f3 f4 => ?_
  obtain rfl : cB = cA := Option.some.inj (f1.symm.trans hcA)
  generalize hH1 : H.push ({ cls := cB, slots := Array.replicate n.toNatClampNeg .null, vm := .none } : Cell) = H1
  have z1 : H1.size = h + 1 := by rw [← hH1, Array.size_push, hz]
  have e1 : H1[h]? = some (arrV cB n.toNatClampNeg (fun _ => .null)) := by rw [← hz, ← hH1, Array.getElem?_push_size, ← arrV_new]
  have o1 : ∀ q : Nat, q < h → H1[q]? = H[q]? := fun q hq => by rw [← hH1, Array.getElem?_push, if_neg (by omega)]
  have hlt := p_lt hP hz
  rw [hz]
  refine kk H1 z1 ((hP.kept (fun k x hx => o1 x.1 (hlt k x hx))).app (k_one ?_)) (hD.push hP hz.symm hA) ⟨?_, fun x h1 h2 => (o1 x ?_).trans (hS.2.1 x h1 h2), hS.2.2⟩
  · show H1[h]? = some (vp_cell _ _)
    rw [vp_cell_q]; exact e1
  · have := hS.1; omega
  · have := hS.1; omega
theorem k_call {S : Type} {post : S → Prop} {B : S → State → Prop} {mc ms h1 : Nat} (hr : va_Run p l e R s m args below meth c H locs cells slots mc ms (F0 m pc ls st0) rest (va_Qv post B (fun q => h1 ≤ q) a) (fun q => h1 ≤ q)) (hS : va_S A H0 H locs) (hA : ∀ q, h1 ≤ q → A q) (hP : va_P D vwC ws H) (hlt : ∀ (k : Nat) (q : Nat × va_E), ws[k]? = some q → q.1 < h1)
    (kk : ∀ (u : S) (t : State) (locs1 : List Loc), post u → B u t → va_P D vwC ws t.heap → H.size ≤ t.heap.size → va_S A H0 t.heap locs1 → W p l e R s m args below meth c t.heap locs1 (cells + mc) (slots + ms) Q (F0 m (pc + 3) ls rest)) : W p l e R s m args below meth c H locs cells slots Q (F0 m pc ls st0) := by
  refine va_callv hr hS (fun q _ h => hA q h) hA (fun u t H1 locs1 ht _ hp hB hz hk hS1 => ?_)
  subst ht
  exact kk u t locs1 hp hB (p_keep hP (fun k q h => Nat.not_le.mpr (hlt k q h)) hk) hz hS1
end KROWS
theorem ac_int {D : va_G} {cs : Nat → ClassId} {s : State} (h : va_K D vwC (atys cs) s) : s.vm.findClass ("[" ++ (newarray.typeOf .int).toString) = some (cs 0) := (h.2 0 _ rfl).2
theorem ac_char {D : va_G} {cs : Nat → ClassId} {s : State} (h : va_K D vwC (atys cs) s) : s.vm.findClass ("[" ++ (newarray.typeOf .char).toString) = some (cs 1) := (h.2 1 _ rfl).2
theorem ac_boolean {D : va_G} {cs : Nat → ClassId} {s : State} (h : va_K D vwC (atys cs) s) : s.vm.findClass ("[" ++ (newarray.typeOf .boolean).toString) = some (cs 2) := (h.2 2 _ rfl).2
theorem ac_off {D : va_G} {cs : Nat → ClassId} {s : State} (h : va_K D vwC (atys cs) s) : s.vm.findClass ("[" ++ (FieldType.object "TrueSheets$Office").toString) = some (cs 3) := by
  obtain ⟨kA, comp, h1, h2, h3, h4⟩ := (h.2 3 _ rfl).2
  exact h4
theorem hd_X2_init : yX2_init.cls ≠ "java/lang/invoke/MethodHandle" ∧ yX2_init.cls ≠ "java/lang/invoke/VarHandle" ∧ (parseMethodDescriptor yX2_init.desc).map (fun d => d.parameters.length) = some 0 := by decide +kernel
def kX2 (cs : Nat → ClassId) (h0 q1 q2 q3 q4 : Nat) : va_W := [(h0, .inr (2, [.ref q1, .int 0, .int 0, .ref q2, .ref q3, .ref q4, .int 0])), (q1, .inl (cs 1, 120, .inl (fun _ => 0))), (q2, .inl (cs 0, 24, .inl (fun _ => 0))), (q3, .inl (cs 0, 24, .inl (fun _ => 0))), (q4, .inl (cs 0, 24, .inl (fun _ => 0)))]
set_option maxHeartbeats 4000000 in
set_option maxRecDepth 100000 in
theorem c_X2_init (l : Launch) (D : va_G) (cs : Nat → ClassId) (h0 : Nat) : Met l yX2_init (wc yX2_init cX2_init 1 none) ({ frames := 1, cells := 4, slots := 192, locals := 40 } : Room) (va_Pc [.ref h0] (CP D cs h0 2 [.null, .int 0, .int 0, .null, .null, .null, .int 0])) (va_Qv (fun _ : Unit => True) (fun _ t => ∃ q1 q2 q3 q4, va_P D vwC (kX2 cs h0 q1 q2 q3 q4) t.heap ∧ va_D (fun q => h0 ≤ q) (kX2 cs h0 q1 q2 q3 q4)) (fun q => h0 ≤ q)) 4 192 (fun q => h0 ≤ q) := by
  refine met_g (lv := [(0, .ref h0)]) (by decide) (Nat.le_of_ble_eq_true rfl) rfl ?_
  intro p e s m args below meth c ls hx hb hr hml hts hown hlocks hin hB0 hl
  obtain ⟨⟨hz, hP⟩, hE⟩ := hB0
  have hown : s.vm.findClass RX2 = some m.cls := hown
  have hK := hE.1.1
  have hA : ∀ q : Nat, h0 ≤ q → (fun q : Nat => h0 ≤ q) q := fun _ h => h
  have hS : va_S (fun q : Nat => h0 ≤ q) s.heap s.heap [] := va_S.rf
  have hD : va_D (fun q : Nat => h0 ≤ q) [((h0, .inr (2, [.null, .int 0, .int 0, .null, .null, .null, .int 0])) : Nat × va_E)] := k_oneD (Nat.le_refl _)
  refine lv_aload_n hx hb dX2_init_0 rfl (lv_at hl 0 rfl) ?_
  refine W.objInit hx hb hown (hts _ w_oi_X2) (hts _ w_oi_im) (hts _ w_oi_co) rfl (by rw [hml]; exact hl.1) rfl dX2_init_1 (Nat.le_of_ble_eq_true rfl) (Nat.le_of_ble_eq_true rfl) ?_
  refine W.eq (g2 := F0 m 4 ls []) rfl ?_
  refine lv_aload_n hx hb dX2_init_4 rfl (lv_at hl 0 rfl) ?_
  refine lv_bipush (v := 120) hx hb dX2_init_5 (by decide) ?_
  obtain ⟨q1, hq1⟩ : ∃ q, s.heap.size = q := ⟨_, rfl⟩
  have hh1 : h0 ≤ q1 := by have := hP 0 _ rfl; have := this.lt; omega
  refine k_newa (atype := .char) (cA := cs 1) (N' := 120) (a0 := (120, .inl (fun _ => 0))) (h := q1) hx hb (hts _ w_ac_char) (ac_char hK) hP hD hS rfl (by decide) (by decide) (Nat.le_of_ble_eq_true rfl) hq1 hh1 (Nat.le_of_ble_eq_true rfl) (Nat.le_of_ble_eq_true rfl) dX2_init_7 (fun H _ hP hD hS => ?_)
  refine W.widen (k := 1) (n := 120) (Nat.le_of_ble_eq_true rfl) (Nat.le_of_ble_eq_true rfl) ?_
  have hP : va_P D vwC [(h0, .inr (2, [.null, .int 0, .int 0, .null, .null, .null, .int 0])), (q1, .inl (cs 1, 120, .inl (fun _ => 0)))] H := hP
  have hD : va_D (fun q : Nat => h0 ≤ q) [(h0, .inr (2, [.null, .int 0, .int 0, .null, .null, .null, .int 0])), (q1, .inl (cs 1, 120, .inl (fun _ => 0)))] := hD
  refine va_putF (D := D) (ci := 2) (v := .ref q1) (ty := .array .char) (C := RX2) (T := TX2) (N := 7) hx hb hts iw_X2 tyX2 tyX2_ok nmX2 hown hK hP hD hS 0 rfl rfl 0 (by decide) (hts _ w_fl_X2_9) (fun _ h9 => h9) rfl hin rfl (by decide +kernel) rfl rfl (Nat.le_of_ble_eq_true rfl) dX2_init_9 (fun H locs hP hD hS => ?_)
  have hP : va_P D vwC [(h0, .inr (2, [.ref q1, .int 0, .int 0, .null, .null, .null, .int 0])), (q1, .inl (cs 1, 120, .inl (fun _ => 0)))] H := hP
  have hD : va_D (fun q : Nat => h0 ≤ q) [(h0, .inr (2, [.ref q1, .int 0, .int 0, .null, .null, .null, .int 0])), (q1, .inl (cs 1, 120, .inl (fun _ => 0)))] := hD
  refine lv_aload_n hx hb dX2_init_12 rfl (lv_at hl 0 rfl) ?_
  refine lv_bipush (v := 24) hx hb dX2_init_13 (by decide) ?_
  obtain ⟨q2, hq2⟩ : ∃ q, H.size = q := ⟨_, rfl⟩
  have hh2 : h0 ≤ q2 := by have := hP 0 _ rfl; have := this.lt; omega
  refine k_newa (atype := .int) (cA := cs 0) (N' := 24) (a0 := (24, .inl (fun _ => 0))) (h := q2) hx hb (hts _ w_ac_int) (ac_int hK) hP hD hS rfl (by decide) (by decide) (Nat.le_of_ble_eq_true rfl) hq2 hh2 (Nat.le_of_ble_eq_true rfl) (Nat.le_of_ble_eq_true rfl) dX2_init_15 (fun H _ hP hD hS => ?_)
  refine W.widen (k := 2) (n := 144) (Nat.le_of_ble_eq_true rfl) (Nat.le_of_ble_eq_true rfl) ?_
  have hP : va_P D vwC [(h0, .inr (2, [.ref q1, .int 0, .int 0, .null, .null, .null, .int 0])), (q1, .inl (cs 1, 120, .inl (fun _ => 0))), (q2, .inl (cs 0, 24, .inl (fun _ => 0)))] H := hP
  have hD : va_D (fun q : Nat => h0 ≤ q) [(h0, .inr (2, [.ref q1, .int 0, .int 0, .null, .null, .null, .int 0])), (q1, .inl (cs 1, 120, .inl (fun _ => 0))), (q2, .inl (cs 0, 24, .inl (fun _ => 0)))] := hD
  refine va_putF (D := D) (ci := 2) (v := .ref q2) (ty := .array .int) (C := RX2) (T := TX2) (N := 7) hx hb hts iw_X2 tyX2 tyX2_ok nmX2 hown hK hP hD hS 0 rfl rfl 3 (by decide) (hts _ w_fl_X2_15) (fun _ h9 => h9) rfl hin rfl (by decide +kernel) rfl rfl (Nat.le_of_ble_eq_true rfl) dX2_init_17 (fun H locs hP hD hS => ?_)
  have hP : va_P D vwC [(h0, .inr (2, [.ref q1, .int 0, .int 0, .ref q2, .null, .null, .int 0])), (q1, .inl (cs 1, 120, .inl (fun _ => 0))), (q2, .inl (cs 0, 24, .inl (fun _ => 0)))] H := hP
  have hD : va_D (fun q : Nat => h0 ≤ q) [(h0, .inr (2, [.ref q1, .int 0, .int 0, .ref q2, .null, .null, .int 0])), (q1, .inl (cs 1, 120, .inl (fun _ => 0))), (q2, .inl (cs 0, 24, .inl (fun _ => 0)))] := hD
  refine lv_aload_n hx hb dX2_init_20 rfl (lv_at hl 0 rfl) ?_
  refine lv_bipush (v := 24) hx hb dX2_init_21 (by decide) ?_
  obtain ⟨q3, hq3⟩ : ∃ q, H.size = q := ⟨_, rfl⟩
  have hh3 : h0 ≤ q3 := by have := hP 0 _ rfl; have := this.lt; omega
  refine k_newa (atype := .int) (cA := cs 0) (N' := 24) (a0 := (24, .inl (fun _ => 0))) (h := q3) hx hb (hts _ w_ac_int) (ac_int hK) hP hD hS rfl (by decide) (by decide) (Nat.le_of_ble_eq_true rfl) hq3 hh3 (Nat.le_of_ble_eq_true rfl) (Nat.le_of_ble_eq_true rfl) dX2_init_23 (fun H _ hP hD hS => ?_)
  refine W.widen (k := 3) (n := 168) (Nat.le_of_ble_eq_true rfl) (Nat.le_of_ble_eq_true rfl) ?_
  have hP : va_P D vwC [(h0, .inr (2, [.ref q1, .int 0, .int 0, .ref q2, .null, .null, .int 0])), (q1, .inl (cs 1, 120, .inl (fun _ => 0))), (q2, .inl (cs 0, 24, .inl (fun _ => 0))), (q3, .inl (cs 0, 24, .inl (fun _ => 0)))] H := hP
  have hD : va_D (fun q : Nat => h0 ≤ q) [(h0, .inr (2, [.ref q1, .int 0, .int 0, .ref q2, .null, .null, .int 0])), (q1, .inl (cs 1, 120, .inl (fun _ => 0))), (q2, .inl (cs 0, 24, .inl (fun _ => 0))), (q3, .inl (cs 0, 24, .inl (fun _ => 0)))] := hD
  refine va_putF (D := D) (ci := 2) (v := .ref q3) (ty := .array .int) (C := RX2) (T := TX2) (N := 7) hx hb hts iw_X2 tyX2 tyX2_ok nmX2 hown hK hP hD hS 0 rfl rfl 4 (by decide) (hts _ w_fl_X2_19) (fun _ h9 => h9) rfl hin rfl (by decide +kernel) rfl rfl (Nat.le_of_ble_eq_true rfl) dX2_init_25 (fun H locs hP hD hS => ?_)
  have hP : va_P D vwC [(h0, .inr (2, [.ref q1, .int 0, .int 0, .ref q2, .ref q3, .null, .int 0])), (q1, .inl (cs 1, 120, .inl (fun _ => 0))), (q2, .inl (cs 0, 24, .inl (fun _ => 0))), (q3, .inl (cs 0, 24, .inl (fun _ => 0)))] H := hP
  have hD : va_D (fun q : Nat => h0 ≤ q) [(h0, .inr (2, [.ref q1, .int 0, .int 0, .ref q2, .ref q3, .null, .int 0])), (q1, .inl (cs 1, 120, .inl (fun _ => 0))), (q2, .inl (cs 0, 24, .inl (fun _ => 0))), (q3, .inl (cs 0, 24, .inl (fun _ => 0)))] := hD
  refine lv_aload_n hx hb dX2_init_28 rfl (lv_at hl 0 rfl) ?_
  refine lv_bipush (v := 24) hx hb dX2_init_29 (by decide) ?_
  obtain ⟨q4, hq4⟩ : ∃ q, H.size = q := ⟨_, rfl⟩
  have hh4 : h0 ≤ q4 := by have := hP 0 _ rfl; have := this.lt; omega
  refine k_newa (atype := .int) (cA := cs 0) (N' := 24) (a0 := (24, .inl (fun _ => 0))) (h := q4) hx hb (hts _ w_ac_int) (ac_int hK) hP hD hS rfl (by decide) (by decide) (Nat.le_of_ble_eq_true rfl) hq4 hh4 (Nat.le_of_ble_eq_true rfl) (Nat.le_of_ble_eq_true rfl) dX2_init_31 (fun H _ hP hD hS => ?_)
  refine W.widen (k := 4) (n := 192) (Nat.le_of_ble_eq_true rfl) (Nat.le_of_ble_eq_true rfl) ?_
  have hP : va_P D vwC [(h0, .inr (2, [.ref q1, .int 0, .int 0, .ref q2, .ref q3, .null, .int 0])), (q1, .inl (cs 1, 120, .inl (fun _ => 0))), (q2, .inl (cs 0, 24, .inl (fun _ => 0))), (q3, .inl (cs 0, 24, .inl (fun _ => 0))), (q4, .inl (cs 0, 24, .inl (fun _ => 0)))] H := hP
  have hD : va_D (fun q : Nat => h0 ≤ q) [(h0, .inr (2, [.ref q1, .int 0, .int 0, .ref q2, .ref q3, .null, .int 0])), (q1, .inl (cs 1, 120, .inl (fun _ => 0))), (q2, .inl (cs 0, 24, .inl (fun _ => 0))), (q3, .inl (cs 0, 24, .inl (fun _ => 0))), (q4, .inl (cs 0, 24, .inl (fun _ => 0)))] := hD
  refine va_putF (D := D) (ci := 2) (v := .ref q4) (ty := .array .int) (C := RX2) (T := TX2) (N := 7) hx hb hts iw_X2 tyX2 tyX2_ok nmX2 hown hK hP hD hS 0 rfl rfl 5 (by decide) (hts _ w_fl_X2_22) (fun _ h9 => h9) rfl hin rfl (by decide +kernel) rfl rfl (Nat.le_of_ble_eq_true rfl) dX2_init_33 (fun H locs hP hD hS => ?_)
  have hP : va_P D vwC [(h0, .inr (2, [.ref q1, .int 0, .int 0, .ref q2, .ref q3, .ref q4, .int 0])), (q1, .inl (cs 1, 120, .inl (fun _ => 0))), (q2, .inl (cs 0, 24, .inl (fun _ => 0))), (q3, .inl (cs 0, 24, .inl (fun _ => 0))), (q4, .inl (cs 0, 24, .inl (fun _ => 0)))] H := hP
  have hD : va_D (fun q : Nat => h0 ≤ q) [(h0, .inr (2, [.ref q1, .int 0, .int 0, .ref q2, .ref q3, .ref q4, .int 0])), (q1, .inl (cs 1, 120, .inl (fun _ => 0))), (q2, .inl (cs 0, 24, .inl (fun _ => 0))), (q3, .inl (cs 0, 24, .inl (fun _ => 0))), (q4, .inl (cs 0, 24, .inl (fun _ => 0)))] := hD
  exact W.vret hx hb hr (fun t ht hW => ⟨⟨(), rfl, trivial, q1, q2, q3, q4, pw ht hP, hD⟩, hS.F ht⟩) hS.2.2 dX2_init_36 (hlocks := hlocks)
theorem hd_X3_init : yX3_init.cls ≠ "java/lang/invoke/MethodHandle" ∧ yX3_init.cls ≠ "java/lang/invoke/VarHandle" ∧ (parseMethodDescriptor yX3_init.desc).map (fun d => d.parameters.length) = some 0 := by decide +kernel
def kX3 (cs : Nat → ClassId) (h0 q1 q2 q3 q4 q5 q6 : Nat) : va_W := [(h0, .inr (3, [.int 0, .int 0, .ref q1, .ref q2, .ref q3, .ref q4, .ref q5, .ref q6])), (q1, .inl (cs 0, 24, .inl (fun _ => 0))), (q2, .inl (cs 0, 24, .inl (fun _ => 0))), (q3, .inl (cs 0, 24, .inl (fun _ => 0))), (q4, .inl (cs 0, 24, .inl (fun _ => 0))), (q5, .inl (cs 0, 24, .inl (fun _ => 0))), (q6, .inl (cs 0, 24, .inl (fun _ => 0)))]
set_option maxHeartbeats 4000000 in
set_option maxRecDepth 100000 in
theorem c_X3_init (l : Launch) (D : va_G) (cs : Nat → ClassId) (h0 : Nat) : Met l yX3_init (wc yX3_init cX3_init 1 none) ({ frames := 1, cells := 6, slots := 144, locals := 40 } : Room) (va_Pc [.ref h0] (CP D cs h0 3 [.int 0, .int 0, .null, .null, .null, .null, .null, .null])) (va_Qv (fun _ : Unit => True) (fun _ t => ∃ q1 q2 q3 q4 q5 q6, va_P D vwC (kX3 cs h0 q1 q2 q3 q4 q5 q6) t.heap ∧ va_D (fun q => h0 ≤ q) (kX3 cs h0 q1 q2 q3 q4 q5 q6)) (fun q => h0 ≤ q)) 6 144 (fun q => h0 ≤ q) := by
  refine met_g (lv := [(0, .ref h0)]) (by decide) (Nat.le_of_ble_eq_true rfl) rfl ?_
  intro p e s m args below meth c ls hx hb hr hml hts hown hlocks hin hB0 hl
  obtain ⟨⟨hz, hP⟩, hE⟩ := hB0
  have hown : s.vm.findClass RX3 = some m.cls := hown
  have hK := hE.1.1
  have hA : ∀ q : Nat, h0 ≤ q → (fun q : Nat => h0 ≤ q) q := fun _ h => h
  have hS : va_S (fun q : Nat => h0 ≤ q) s.heap s.heap [] := va_S.rf
  have hD : va_D (fun q : Nat => h0 ≤ q) [((h0, .inr (3, [.int 0, .int 0, .null, .null, .null, .null, .null, .null])) : Nat × va_E)] := k_oneD (Nat.le_refl _)
  refine lv_aload_n hx hb dX3_init_0 rfl (lv_at hl 0 rfl) ?_
  refine W.objInit hx hb hown (hts _ w_oi_X3) (hts _ w_oi_im) (hts _ w_oi_co) rfl (by rw [hml]; exact hl.1) rfl dX3_init_1 (Nat.le_of_ble_eq_true rfl) (Nat.le_of_ble_eq_true rfl) ?_
  refine W.eq (g2 := F0 m 4 ls []) rfl ?_
  refine lv_aload_n hx hb dX3_init_4 rfl (lv_at hl 0 rfl) ?_
  refine lv_bipush (v := 24) hx hb dX3_init_5 (by decide) ?_
  obtain ⟨q1, hq1⟩ : ∃ q, s.heap.size = q := ⟨_, rfl⟩
  have hh1 : h0 ≤ q1 := by have := hP 0 _ rfl; have := this.lt; omega
  refine k_newa (atype := .int) (cA := cs 0) (N' := 24) (a0 := (24, .inl (fun _ => 0))) (h := q1) hx hb (hts _ w_ac_int) (ac_int hK) hP hD hS rfl (by decide) (by decide) (Nat.le_of_ble_eq_true rfl) hq1 hh1 (Nat.le_of_ble_eq_true rfl) (Nat.le_of_ble_eq_true rfl) dX3_init_7 (fun H _ hP hD hS => ?_)
  refine W.widen (k := 1) (n := 24) (Nat.le_of_ble_eq_true rfl) (Nat.le_of_ble_eq_true rfl) ?_
  have hP : va_P D vwC [(h0, .inr (3, [.int 0, .int 0, .null, .null, .null, .null, .null, .null])), (q1, .inl (cs 0, 24, .inl (fun _ => 0)))] H := hP
  have hD : va_D (fun q : Nat => h0 ≤ q) [(h0, .inr (3, [.int 0, .int 0, .null, .null, .null, .null, .null, .null])), (q1, .inl (cs 0, 24, .inl (fun _ => 0)))] := hD
  refine va_putF (D := D) (ci := 3) (v := .ref q1) (ty := .array .int) (C := RX3) (T := TX3) (N := 8) hx hb hts iw_X3 tyX3 tyX3_ok nmX3 hown hK hP hD hS 0 rfl rfl 2 (by decide) (hts _ w_fl_X3_9) (fun _ h9 => h9) rfl hin rfl (by decide +kernel) rfl rfl (Nat.le_of_ble_eq_true rfl) dX3_init_9 (fun H locs hP hD hS => ?_)
  have hP : va_P D vwC [(h0, .inr (3, [.int 0, .int 0, .ref q1, .null, .null, .null, .null, .null])), (q1, .inl (cs 0, 24, .inl (fun _ => 0)))] H := hP
  have hD : va_D (fun q : Nat => h0 ≤ q) [(h0, .inr (3, [.int 0, .int 0, .ref q1, .null, .null, .null, .null, .null])), (q1, .inl (cs 0, 24, .inl (fun _ => 0)))] := hD
  refine lv_aload_n hx hb dX3_init_12 rfl (lv_at hl 0 rfl) ?_
  refine lv_bipush (v := 24) hx hb dX3_init_13 (by decide) ?_
  obtain ⟨q2, hq2⟩ : ∃ q, H.size = q := ⟨_, rfl⟩
  have hh2 : h0 ≤ q2 := by have := hP 0 _ rfl; have := this.lt; omega
  refine k_newa (atype := .int) (cA := cs 0) (N' := 24) (a0 := (24, .inl (fun _ => 0))) (h := q2) hx hb (hts _ w_ac_int) (ac_int hK) hP hD hS rfl (by decide) (by decide) (Nat.le_of_ble_eq_true rfl) hq2 hh2 (Nat.le_of_ble_eq_true rfl) (Nat.le_of_ble_eq_true rfl) dX3_init_15 (fun H _ hP hD hS => ?_)
  refine W.widen (k := 2) (n := 48) (Nat.le_of_ble_eq_true rfl) (Nat.le_of_ble_eq_true rfl) ?_
  have hP : va_P D vwC [(h0, .inr (3, [.int 0, .int 0, .ref q1, .null, .null, .null, .null, .null])), (q1, .inl (cs 0, 24, .inl (fun _ => 0))), (q2, .inl (cs 0, 24, .inl (fun _ => 0)))] H := hP
  have hD : va_D (fun q : Nat => h0 ≤ q) [(h0, .inr (3, [.int 0, .int 0, .ref q1, .null, .null, .null, .null, .null])), (q1, .inl (cs 0, 24, .inl (fun _ => 0))), (q2, .inl (cs 0, 24, .inl (fun _ => 0)))] := hD
  refine va_putF (D := D) (ci := 3) (v := .ref q2) (ty := .array .int) (C := RX3) (T := TX3) (N := 8) hx hb hts iw_X3 tyX3 tyX3_ok nmX3 hown hK hP hD hS 0 rfl rfl 3 (by decide) (hts _ w_fl_X3_15) (fun _ h9 => h9) rfl hin rfl (by decide +kernel) rfl rfl (Nat.le_of_ble_eq_true rfl) dX3_init_17 (fun H locs hP hD hS => ?_)
  have hP : va_P D vwC [(h0, .inr (3, [.int 0, .int 0, .ref q1, .ref q2, .null, .null, .null, .null])), (q1, .inl (cs 0, 24, .inl (fun _ => 0))), (q2, .inl (cs 0, 24, .inl (fun _ => 0)))] H := hP
  have hD : va_D (fun q : Nat => h0 ≤ q) [(h0, .inr (3, [.int 0, .int 0, .ref q1, .ref q2, .null, .null, .null, .null])), (q1, .inl (cs 0, 24, .inl (fun _ => 0))), (q2, .inl (cs 0, 24, .inl (fun _ => 0)))] := hD
  refine lv_aload_n hx hb dX3_init_20 rfl (lv_at hl 0 rfl) ?_
  refine lv_bipush (v := 24) hx hb dX3_init_21 (by decide) ?_
  obtain ⟨q3, hq3⟩ : ∃ q, H.size = q := ⟨_, rfl⟩
  have hh3 : h0 ≤ q3 := by have := hP 0 _ rfl; have := this.lt; omega
  refine k_newa (atype := .int) (cA := cs 0) (N' := 24) (a0 := (24, .inl (fun _ => 0))) (h := q3) hx hb (hts _ w_ac_int) (ac_int hK) hP hD hS rfl (by decide) (by decide) (Nat.le_of_ble_eq_true rfl) hq3 hh3 (Nat.le_of_ble_eq_true rfl) (Nat.le_of_ble_eq_true rfl) dX3_init_23 (fun H _ hP hD hS => ?_)
  refine W.widen (k := 3) (n := 72) (Nat.le_of_ble_eq_true rfl) (Nat.le_of_ble_eq_true rfl) ?_
  have hP : va_P D vwC [(h0, .inr (3, [.int 0, .int 0, .ref q1, .ref q2, .null, .null, .null, .null])), (q1, .inl (cs 0, 24, .inl (fun _ => 0))), (q2, .inl (cs 0, 24, .inl (fun _ => 0))), (q3, .inl (cs 0, 24, .inl (fun _ => 0)))] H := hP
  have hD : va_D (fun q : Nat => h0 ≤ q) [(h0, .inr (3, [.int 0, .int 0, .ref q1, .ref q2, .null, .null, .null, .null])), (q1, .inl (cs 0, 24, .inl (fun _ => 0))), (q2, .inl (cs 0, 24, .inl (fun _ => 0))), (q3, .inl (cs 0, 24, .inl (fun _ => 0)))] := hD
  refine va_putF (D := D) (ci := 3) (v := .ref q3) (ty := .array .int) (C := RX3) (T := TX3) (N := 8) hx hb hts iw_X3 tyX3 tyX3_ok nmX3 hown hK hP hD hS 0 rfl rfl 4 (by decide) (hts _ w_fl_X3_18) (fun _ h9 => h9) rfl hin rfl (by decide +kernel) rfl rfl (Nat.le_of_ble_eq_true rfl) dX3_init_25 (fun H locs hP hD hS => ?_)
  have hP : va_P D vwC [(h0, .inr (3, [.int 0, .int 0, .ref q1, .ref q2, .ref q3, .null, .null, .null])), (q1, .inl (cs 0, 24, .inl (fun _ => 0))), (q2, .inl (cs 0, 24, .inl (fun _ => 0))), (q3, .inl (cs 0, 24, .inl (fun _ => 0)))] H := hP
  have hD : va_D (fun q : Nat => h0 ≤ q) [(h0, .inr (3, [.int 0, .int 0, .ref q1, .ref q2, .ref q3, .null, .null, .null])), (q1, .inl (cs 0, 24, .inl (fun _ => 0))), (q2, .inl (cs 0, 24, .inl (fun _ => 0))), (q3, .inl (cs 0, 24, .inl (fun _ => 0)))] := hD
  refine lv_aload_n hx hb dX3_init_28 rfl (lv_at hl 0 rfl) ?_
  refine lv_bipush (v := 24) hx hb dX3_init_29 (by decide) ?_
  obtain ⟨q4, hq4⟩ : ∃ q, H.size = q := ⟨_, rfl⟩
  have hh4 : h0 ≤ q4 := by have := hP 0 _ rfl; have := this.lt; omega
  refine k_newa (atype := .int) (cA := cs 0) (N' := 24) (a0 := (24, .inl (fun _ => 0))) (h := q4) hx hb (hts _ w_ac_int) (ac_int hK) hP hD hS rfl (by decide) (by decide) (Nat.le_of_ble_eq_true rfl) hq4 hh4 (Nat.le_of_ble_eq_true rfl) (Nat.le_of_ble_eq_true rfl) dX3_init_31 (fun H _ hP hD hS => ?_)
  refine W.widen (k := 4) (n := 96) (Nat.le_of_ble_eq_true rfl) (Nat.le_of_ble_eq_true rfl) ?_
  have hP : va_P D vwC [(h0, .inr (3, [.int 0, .int 0, .ref q1, .ref q2, .ref q3, .null, .null, .null])), (q1, .inl (cs 0, 24, .inl (fun _ => 0))), (q2, .inl (cs 0, 24, .inl (fun _ => 0))), (q3, .inl (cs 0, 24, .inl (fun _ => 0))), (q4, .inl (cs 0, 24, .inl (fun _ => 0)))] H := hP
  have hD : va_D (fun q : Nat => h0 ≤ q) [(h0, .inr (3, [.int 0, .int 0, .ref q1, .ref q2, .ref q3, .null, .null, .null])), (q1, .inl (cs 0, 24, .inl (fun _ => 0))), (q2, .inl (cs 0, 24, .inl (fun _ => 0))), (q3, .inl (cs 0, 24, .inl (fun _ => 0))), (q4, .inl (cs 0, 24, .inl (fun _ => 0)))] := hD
  refine va_putF (D := D) (ci := 3) (v := .ref q4) (ty := .array .int) (C := RX3) (T := TX3) (N := 8) hx hb hts iw_X3 tyX3 tyX3_ok nmX3 hown hK hP hD hS 0 rfl rfl 5 (by decide) (hts _ w_fl_X3_21) (fun _ h9 => h9) rfl hin rfl (by decide +kernel) rfl rfl (Nat.le_of_ble_eq_true rfl) dX3_init_33 (fun H locs hP hD hS => ?_)
  have hP : va_P D vwC [(h0, .inr (3, [.int 0, .int 0, .ref q1, .ref q2, .ref q3, .ref q4, .null, .null])), (q1, .inl (cs 0, 24, .inl (fun _ => 0))), (q2, .inl (cs 0, 24, .inl (fun _ => 0))), (q3, .inl (cs 0, 24, .inl (fun _ => 0))), (q4, .inl (cs 0, 24, .inl (fun _ => 0)))] H := hP
  have hD : va_D (fun q : Nat => h0 ≤ q) [(h0, .inr (3, [.int 0, .int 0, .ref q1, .ref q2, .ref q3, .ref q4, .null, .null])), (q1, .inl (cs 0, 24, .inl (fun _ => 0))), (q2, .inl (cs 0, 24, .inl (fun _ => 0))), (q3, .inl (cs 0, 24, .inl (fun _ => 0))), (q4, .inl (cs 0, 24, .inl (fun _ => 0)))] := hD
  refine lv_aload_n hx hb dX3_init_36 rfl (lv_at hl 0 rfl) ?_
  refine lv_bipush (v := 24) hx hb dX3_init_37 (by decide) ?_
  obtain ⟨q5, hq5⟩ : ∃ q, H.size = q := ⟨_, rfl⟩
  have hh5 : h0 ≤ q5 := by have := hP 0 _ rfl; have := this.lt; omega
  refine k_newa (atype := .int) (cA := cs 0) (N' := 24) (a0 := (24, .inl (fun _ => 0))) (h := q5) hx hb (hts _ w_ac_int) (ac_int hK) hP hD hS rfl (by decide) (by decide) (Nat.le_of_ble_eq_true rfl) hq5 hh5 (Nat.le_of_ble_eq_true rfl) (Nat.le_of_ble_eq_true rfl) dX3_init_39 (fun H _ hP hD hS => ?_)
  refine W.widen (k := 5) (n := 120) (Nat.le_of_ble_eq_true rfl) (Nat.le_of_ble_eq_true rfl) ?_
  have hP : va_P D vwC [(h0, .inr (3, [.int 0, .int 0, .ref q1, .ref q2, .ref q3, .ref q4, .null, .null])), (q1, .inl (cs 0, 24, .inl (fun _ => 0))), (q2, .inl (cs 0, 24, .inl (fun _ => 0))), (q3, .inl (cs 0, 24, .inl (fun _ => 0))), (q4, .inl (cs 0, 24, .inl (fun _ => 0))), (q5, .inl (cs 0, 24, .inl (fun _ => 0)))] H := hP
  have hD : va_D (fun q : Nat => h0 ≤ q) [(h0, .inr (3, [.int 0, .int 0, .ref q1, .ref q2, .ref q3, .ref q4, .null, .null])), (q1, .inl (cs 0, 24, .inl (fun _ => 0))), (q2, .inl (cs 0, 24, .inl (fun _ => 0))), (q3, .inl (cs 0, 24, .inl (fun _ => 0))), (q4, .inl (cs 0, 24, .inl (fun _ => 0))), (q5, .inl (cs 0, 24, .inl (fun _ => 0)))] := hD
  refine va_putF (D := D) (ci := 3) (v := .ref q5) (ty := .array .int) (C := RX3) (T := TX3) (N := 8) hx hb hts iw_X3 tyX3 tyX3_ok nmX3 hown hK hP hD hS 0 rfl rfl 6 (by decide) (hts _ w_fl_X3_24) (fun _ h9 => h9) rfl hin rfl (by decide +kernel) rfl rfl (Nat.le_of_ble_eq_true rfl) dX3_init_41 (fun H locs hP hD hS => ?_)
  have hP : va_P D vwC [(h0, .inr (3, [.int 0, .int 0, .ref q1, .ref q2, .ref q3, .ref q4, .ref q5, .null])), (q1, .inl (cs 0, 24, .inl (fun _ => 0))), (q2, .inl (cs 0, 24, .inl (fun _ => 0))), (q3, .inl (cs 0, 24, .inl (fun _ => 0))), (q4, .inl (cs 0, 24, .inl (fun _ => 0))), (q5, .inl (cs 0, 24, .inl (fun _ => 0)))] H := hP
  have hD : va_D (fun q : Nat => h0 ≤ q) [(h0, .inr (3, [.int 0, .int 0, .ref q1, .ref q2, .ref q3, .ref q4, .ref q5, .null])), (q1, .inl (cs 0, 24, .inl (fun _ => 0))), (q2, .inl (cs 0, 24, .inl (fun _ => 0))), (q3, .inl (cs 0, 24, .inl (fun _ => 0))), (q4, .inl (cs 0, 24, .inl (fun _ => 0))), (q5, .inl (cs 0, 24, .inl (fun _ => 0)))] := hD
  refine lv_aload_n hx hb dX3_init_44 rfl (lv_at hl 0 rfl) ?_
  refine lv_bipush (v := 24) hx hb dX3_init_45 (by decide) ?_
  obtain ⟨q6, hq6⟩ : ∃ q, H.size = q := ⟨_, rfl⟩
  have hh6 : h0 ≤ q6 := by have := hP 0 _ rfl; have := this.lt; omega
  refine k_newa (atype := .int) (cA := cs 0) (N' := 24) (a0 := (24, .inl (fun _ => 0))) (h := q6) hx hb (hts _ w_ac_int) (ac_int hK) hP hD hS rfl (by decide) (by decide) (Nat.le_of_ble_eq_true rfl) hq6 hh6 (Nat.le_of_ble_eq_true rfl) (Nat.le_of_ble_eq_true rfl) dX3_init_47 (fun H _ hP hD hS => ?_)
  refine W.widen (k := 6) (n := 144) (Nat.le_of_ble_eq_true rfl) (Nat.le_of_ble_eq_true rfl) ?_
  have hP : va_P D vwC [(h0, .inr (3, [.int 0, .int 0, .ref q1, .ref q2, .ref q3, .ref q4, .ref q5, .null])), (q1, .inl (cs 0, 24, .inl (fun _ => 0))), (q2, .inl (cs 0, 24, .inl (fun _ => 0))), (q3, .inl (cs 0, 24, .inl (fun _ => 0))), (q4, .inl (cs 0, 24, .inl (fun _ => 0))), (q5, .inl (cs 0, 24, .inl (fun _ => 0))), (q6, .inl (cs 0, 24, .inl (fun _ => 0)))] H := hP
  have hD : va_D (fun q : Nat => h0 ≤ q) [(h0, .inr (3, [.int 0, .int 0, .ref q1, .ref q2, .ref q3, .ref q4, .ref q5, .null])), (q1, .inl (cs 0, 24, .inl (fun _ => 0))), (q2, .inl (cs 0, 24, .inl (fun _ => 0))), (q3, .inl (cs 0, 24, .inl (fun _ => 0))), (q4, .inl (cs 0, 24, .inl (fun _ => 0))), (q5, .inl (cs 0, 24, .inl (fun _ => 0))), (q6, .inl (cs 0, 24, .inl (fun _ => 0)))] := hD
  refine va_putF (D := D) (ci := 3) (v := .ref q6) (ty := .array .int) (C := RX3) (T := TX3) (N := 8) hx hb hts iw_X3 tyX3 tyX3_ok nmX3 hown hK hP hD hS 0 rfl rfl 7 (by decide) (hts _ w_fl_X3_27) (fun _ h9 => h9) rfl hin rfl (by decide +kernel) rfl rfl (Nat.le_of_ble_eq_true rfl) dX3_init_49 (fun H locs hP hD hS => ?_)
  have hP : va_P D vwC [(h0, .inr (3, [.int 0, .int 0, .ref q1, .ref q2, .ref q3, .ref q4, .ref q5, .ref q6])), (q1, .inl (cs 0, 24, .inl (fun _ => 0))), (q2, .inl (cs 0, 24, .inl (fun _ => 0))), (q3, .inl (cs 0, 24, .inl (fun _ => 0))), (q4, .inl (cs 0, 24, .inl (fun _ => 0))), (q5, .inl (cs 0, 24, .inl (fun _ => 0))), (q6, .inl (cs 0, 24, .inl (fun _ => 0)))] H := hP
  have hD : va_D (fun q : Nat => h0 ≤ q) [(h0, .inr (3, [.int 0, .int 0, .ref q1, .ref q2, .ref q3, .ref q4, .ref q5, .ref q6])), (q1, .inl (cs 0, 24, .inl (fun _ => 0))), (q2, .inl (cs 0, 24, .inl (fun _ => 0))), (q3, .inl (cs 0, 24, .inl (fun _ => 0))), (q4, .inl (cs 0, 24, .inl (fun _ => 0))), (q5, .inl (cs 0, 24, .inl (fun _ => 0))), (q6, .inl (cs 0, 24, .inl (fun _ => 0)))] := hD
  exact W.vret hx hb hr (fun t ht hW => ⟨⟨(), rfl, trivial, q1, q2, q3, q4, q5, q6, pw ht hP, hD⟩, hS.F ht⟩) hS.2.2 dX3_init_52 (hlocks := hlocks)
theorem hd_X4_init : yX4_init.cls ≠ "java/lang/invoke/MethodHandle" ∧ yX4_init.cls ≠ "java/lang/invoke/VarHandle" ∧ (parseMethodDescriptor yX4_init.desc).map (fun d => d.parameters.length) = some 0 := by decide +kernel
def kX4 (cs : Nat → ClassId) (h0 q1 q2 q3 : Nat) : va_W := [(h0, .inr (4, [.int 0, .int 0, .ref q1, .ref q2, .ref q3])), (q1, .inl (cs 0, 10, .inl (fun _ => 0))), (q2, .inl (cs 0, 10, .inl (fun _ => 0))), (q3, .inl (cs 0, 120, .inl (fun _ => 0)))]
set_option maxHeartbeats 4000000 in
set_option maxRecDepth 100000 in
theorem c_X4_init (l : Launch) (D : va_G) (cs : Nat → ClassId) (h0 : Nat) : Met l yX4_init (wc yX4_init cX4_init 1 none) ({ frames := 1, cells := 3, slots := 140, locals := 40 } : Room) (va_Pc [.ref h0] (CP D cs h0 4 [.int 0, .int 0, .null, .null, .null])) (va_Qv (fun _ : Unit => True) (fun _ t => ∃ q1 q2 q3, va_P D vwC (kX4 cs h0 q1 q2 q3) t.heap ∧ va_D (fun q => h0 ≤ q) (kX4 cs h0 q1 q2 q3)) (fun q => h0 ≤ q)) 3 140 (fun q => h0 ≤ q) := by
  refine met_g (lv := [(0, .ref h0)]) (by decide) (Nat.le_of_ble_eq_true rfl) rfl ?_
  intro p e s m args below meth c ls hx hb hr hml hts hown hlocks hin hB0 hl
  obtain ⟨⟨hz, hP⟩, hE⟩ := hB0
  have hown : s.vm.findClass RX4 = some m.cls := hown
  have hK := hE.1.1
  have hA : ∀ q : Nat, h0 ≤ q → (fun q : Nat => h0 ≤ q) q := fun _ h => h
  have hS : va_S (fun q : Nat => h0 ≤ q) s.heap s.heap [] := va_S.rf
  have hD : va_D (fun q : Nat => h0 ≤ q) [((h0, .inr (4, [.int 0, .int 0, .null, .null, .null])) : Nat × va_E)] := k_oneD (Nat.le_refl _)
  refine lv_aload_n hx hb dX4_init_0 rfl (lv_at hl 0 rfl) ?_
  refine W.objInit hx hb hown (hts _ w_oi_X4) (hts _ w_oi_im) (hts _ w_oi_co) rfl (by rw [hml]; exact hl.1) rfl dX4_init_1 (Nat.le_of_ble_eq_true rfl) (Nat.le_of_ble_eq_true rfl) ?_
  refine W.eq (g2 := F0 m 4 ls []) rfl ?_
  refine lv_aload_n hx hb dX4_init_4 rfl (lv_at hl 0 rfl) ?_
  refine lv_bipush (v := 10) hx hb dX4_init_5 (by decide) ?_
  obtain ⟨q1, hq1⟩ : ∃ q, s.heap.size = q := ⟨_, rfl⟩
  have hh1 : h0 ≤ q1 := by have := hP 0 _ rfl; have := this.lt; omega
  refine k_newa (atype := .int) (cA := cs 0) (N' := 10) (a0 := (10, .inl (fun _ => 0))) (h := q1) hx hb (hts _ w_ac_int) (ac_int hK) hP hD hS rfl (by decide) (by decide) (Nat.le_of_ble_eq_true rfl) hq1 hh1 (Nat.le_of_ble_eq_true rfl) (Nat.le_of_ble_eq_true rfl) dX4_init_7 (fun H _ hP hD hS => ?_)
  refine W.widen (k := 1) (n := 10) (Nat.le_of_ble_eq_true rfl) (Nat.le_of_ble_eq_true rfl) ?_
  have hP : va_P D vwC [(h0, .inr (4, [.int 0, .int 0, .null, .null, .null])), (q1, .inl (cs 0, 10, .inl (fun _ => 0)))] H := hP
  have hD : va_D (fun q : Nat => h0 ≤ q) [(h0, .inr (4, [.int 0, .int 0, .null, .null, .null])), (q1, .inl (cs 0, 10, .inl (fun _ => 0)))] := hD
  refine va_putF (D := D) (ci := 4) (v := .ref q1) (ty := .array .int) (C := RX4) (T := TX4) (N := 5) hx hb hts iw_X4 tyX4 tyX4_ok nmX4 hown hK hP hD hS 0 rfl rfl 2 (by decide) (hts _ w_fl_X4_9) (fun _ h9 => h9) rfl hin rfl (by decide +kernel) rfl rfl (Nat.le_of_ble_eq_true rfl) dX4_init_9 (fun H locs hP hD hS => ?_)
  have hP : va_P D vwC [(h0, .inr (4, [.int 0, .int 0, .ref q1, .null, .null])), (q1, .inl (cs 0, 10, .inl (fun _ => 0)))] H := hP
  have hD : va_D (fun q : Nat => h0 ≤ q) [(h0, .inr (4, [.int 0, .int 0, .ref q1, .null, .null])), (q1, .inl (cs 0, 10, .inl (fun _ => 0)))] := hD
  refine lv_aload_n hx hb dX4_init_12 rfl (lv_at hl 0 rfl) ?_
  refine lv_bipush (v := 10) hx hb dX4_init_13 (by decide) ?_
  obtain ⟨q2, hq2⟩ : ∃ q, H.size = q := ⟨_, rfl⟩
  have hh2 : h0 ≤ q2 := by have := hP 0 _ rfl; have := this.lt; omega
  refine k_newa (atype := .int) (cA := cs 0) (N' := 10) (a0 := (10, .inl (fun _ => 0))) (h := q2) hx hb (hts _ w_ac_int) (ac_int hK) hP hD hS rfl (by decide) (by decide) (Nat.le_of_ble_eq_true rfl) hq2 hh2 (Nat.le_of_ble_eq_true rfl) (Nat.le_of_ble_eq_true rfl) dX4_init_15 (fun H _ hP hD hS => ?_)
  refine W.widen (k := 2) (n := 20) (Nat.le_of_ble_eq_true rfl) (Nat.le_of_ble_eq_true rfl) ?_
  have hP : va_P D vwC [(h0, .inr (4, [.int 0, .int 0, .ref q1, .null, .null])), (q1, .inl (cs 0, 10, .inl (fun _ => 0))), (q2, .inl (cs 0, 10, .inl (fun _ => 0)))] H := hP
  have hD : va_D (fun q : Nat => h0 ≤ q) [(h0, .inr (4, [.int 0, .int 0, .ref q1, .null, .null])), (q1, .inl (cs 0, 10, .inl (fun _ => 0))), (q2, .inl (cs 0, 10, .inl (fun _ => 0)))] := hD
  refine va_putF (D := D) (ci := 4) (v := .ref q2) (ty := .array .int) (C := RX4) (T := TX4) (N := 5) hx hb hts iw_X4 tyX4 tyX4_ok nmX4 hown hK hP hD hS 0 rfl rfl 3 (by decide) (hts _ w_fl_X4_15) (fun _ h9 => h9) rfl hin rfl (by decide +kernel) rfl rfl (Nat.le_of_ble_eq_true rfl) dX4_init_17 (fun H locs hP hD hS => ?_)
  have hP : va_P D vwC [(h0, .inr (4, [.int 0, .int 0, .ref q1, .ref q2, .null])), (q1, .inl (cs 0, 10, .inl (fun _ => 0))), (q2, .inl (cs 0, 10, .inl (fun _ => 0)))] H := hP
  have hD : va_D (fun q : Nat => h0 ≤ q) [(h0, .inr (4, [.int 0, .int 0, .ref q1, .ref q2, .null])), (q1, .inl (cs 0, 10, .inl (fun _ => 0))), (q2, .inl (cs 0, 10, .inl (fun _ => 0)))] := hD
  refine lv_aload_n hx hb dX4_init_20 rfl (lv_at hl 0 rfl) ?_
  refine lv_bipush (v := 120) hx hb dX4_init_21 (by decide) ?_
  obtain ⟨q3, hq3⟩ : ∃ q, H.size = q := ⟨_, rfl⟩
  have hh3 : h0 ≤ q3 := by have := hP 0 _ rfl; have := this.lt; omega
  refine k_newa (atype := .int) (cA := cs 0) (N' := 120) (a0 := (120, .inl (fun _ => 0))) (h := q3) hx hb (hts _ w_ac_int) (ac_int hK) hP hD hS rfl (by decide) (by decide) (Nat.le_of_ble_eq_true rfl) hq3 hh3 (Nat.le_of_ble_eq_true rfl) (Nat.le_of_ble_eq_true rfl) dX4_init_23 (fun H _ hP hD hS => ?_)
  refine W.widen (k := 3) (n := 140) (Nat.le_of_ble_eq_true rfl) (Nat.le_of_ble_eq_true rfl) ?_
  have hP : va_P D vwC [(h0, .inr (4, [.int 0, .int 0, .ref q1, .ref q2, .null])), (q1, .inl (cs 0, 10, .inl (fun _ => 0))), (q2, .inl (cs 0, 10, .inl (fun _ => 0))), (q3, .inl (cs 0, 120, .inl (fun _ => 0)))] H := hP
  have hD : va_D (fun q : Nat => h0 ≤ q) [(h0, .inr (4, [.int 0, .int 0, .ref q1, .ref q2, .null])), (q1, .inl (cs 0, 10, .inl (fun _ => 0))), (q2, .inl (cs 0, 10, .inl (fun _ => 0))), (q3, .inl (cs 0, 120, .inl (fun _ => 0)))] := hD
  refine va_putF (D := D) (ci := 4) (v := .ref q3) (ty := .array .int) (C := RX4) (T := TX4) (N := 5) hx hb hts iw_X4 tyX4 tyX4_ok nmX4 hown hK hP hD hS 0 rfl rfl 4 (by decide) (hts _ w_fl_X4_18) (fun _ h9 => h9) rfl hin rfl (by decide +kernel) rfl rfl (Nat.le_of_ble_eq_true rfl) dX4_init_25 (fun H locs hP hD hS => ?_)
  have hP : va_P D vwC [(h0, .inr (4, [.int 0, .int 0, .ref q1, .ref q2, .ref q3])), (q1, .inl (cs 0, 10, .inl (fun _ => 0))), (q2, .inl (cs 0, 10, .inl (fun _ => 0))), (q3, .inl (cs 0, 120, .inl (fun _ => 0)))] H := hP
  have hD : va_D (fun q : Nat => h0 ≤ q) [(h0, .inr (4, [.int 0, .int 0, .ref q1, .ref q2, .ref q3])), (q1, .inl (cs 0, 10, .inl (fun _ => 0))), (q2, .inl (cs 0, 10, .inl (fun _ => 0))), (q3, .inl (cs 0, 120, .inl (fun _ => 0)))] := hD
  exact W.vret hx hb hr (fun t ht hW => ⟨⟨(), rfl, trivial, q1, q2, q3, pw ht hP, hD⟩, hS.F ht⟩) hS.2.2 dX4_init_28 (hlocks := hlocks)
theorem hd_X6_init : yX6_init.cls ≠ "java/lang/invoke/MethodHandle" ∧ yX6_init.cls ≠ "java/lang/invoke/VarHandle" ∧ (parseMethodDescriptor yX6_init.desc).map (fun d => d.parameters.length) = some 0 := by decide +kernel
def kX6 (cs : Nat → ClassId) (h0 q1 q2 q3 q4 : Nat) : va_W := [(h0, .inr (6, [.int 0, .ref q1, .ref q2, .ref q3, .ref q4])), (q1, .inl (cs 0, 30, .inl (fun _ => 0))), (q2, .inl (cs 0, 30, .inl (fun _ => 0))), (q3, .inl (cs 0, 30, .inl (fun _ => 0))), (q4, .inl (cs 0, 30, .inl (fun _ => 0)))]
set_option maxHeartbeats 4000000 in
set_option maxRecDepth 100000 in
theorem c_X6_init (l : Launch) (D : va_G) (cs : Nat → ClassId) (h0 : Nat) : Met l yX6_init (wc yX6_init cX6_init 1 none) ({ frames := 1, cells := 4, slots := 120, locals := 40 } : Room) (va_Pc [.ref h0] (CP D cs h0 6 [.int 0, .null, .null, .null, .null])) (va_Qv (fun _ : Unit => True) (fun _ t => ∃ q1 q2 q3 q4, va_P D vwC (kX6 cs h0 q1 q2 q3 q4) t.heap ∧ va_D (fun q => h0 ≤ q) (kX6 cs h0 q1 q2 q3 q4)) (fun q => h0 ≤ q)) 4 120 (fun q => h0 ≤ q) := by
  refine met_g (lv := [(0, .ref h0)]) (by decide) (Nat.le_of_ble_eq_true rfl) rfl ?_
  intro p e s m args below meth c ls hx hb hr hml hts hown hlocks hin hB0 hl
  obtain ⟨⟨hz, hP⟩, hE⟩ := hB0
  have hown : s.vm.findClass RX6 = some m.cls := hown
  have hK := hE.1.1
  have hA : ∀ q : Nat, h0 ≤ q → (fun q : Nat => h0 ≤ q) q := fun _ h => h
  have hS : va_S (fun q : Nat => h0 ≤ q) s.heap s.heap [] := va_S.rf
  have hD : va_D (fun q : Nat => h0 ≤ q) [((h0, .inr (6, [.int 0, .null, .null, .null, .null])) : Nat × va_E)] := k_oneD (Nat.le_refl _)
  refine lv_aload_n hx hb dX6_init_0 rfl (lv_at hl 0 rfl) ?_
  refine W.objInit hx hb hown (hts _ w_oi_X6) (hts _ w_oi_im) (hts _ w_oi_co) rfl (by rw [hml]; exact hl.1) rfl dX6_init_1 (Nat.le_of_ble_eq_true rfl) (Nat.le_of_ble_eq_true rfl) ?_
  refine W.eq (g2 := F0 m 4 ls []) rfl ?_
  refine lv_aload_n hx hb dX6_init_4 rfl (lv_at hl 0 rfl) ?_
  refine lv_bipush (v := 30) hx hb dX6_init_5 (by decide) ?_
  obtain ⟨q1, hq1⟩ : ∃ q, s.heap.size = q := ⟨_, rfl⟩
  have hh1 : h0 ≤ q1 := by have := hP 0 _ rfl; have := this.lt; omega
  refine k_newa (atype := .int) (cA := cs 0) (N' := 30) (a0 := (30, .inl (fun _ => 0))) (h := q1) hx hb (hts _ w_ac_int) (ac_int hK) hP hD hS rfl (by decide) (by decide) (Nat.le_of_ble_eq_true rfl) hq1 hh1 (Nat.le_of_ble_eq_true rfl) (Nat.le_of_ble_eq_true rfl) dX6_init_7 (fun H _ hP hD hS => ?_)
  refine W.widen (k := 1) (n := 30) (Nat.le_of_ble_eq_true rfl) (Nat.le_of_ble_eq_true rfl) ?_
  have hP : va_P D vwC [(h0, .inr (6, [.int 0, .null, .null, .null, .null])), (q1, .inl (cs 0, 30, .inl (fun _ => 0)))] H := hP
  have hD : va_D (fun q : Nat => h0 ≤ q) [(h0, .inr (6, [.int 0, .null, .null, .null, .null])), (q1, .inl (cs 0, 30, .inl (fun _ => 0)))] := hD
  refine va_putF (D := D) (ci := 6) (v := .ref q1) (ty := .array .int) (C := RX6) (T := TX6) (N := 5) hx hb hts iw_X6 tyX6 tyX6_ok nmX6 hown hK hP hD hS 0 rfl rfl 1 (by decide) (hts _ w_fl_X6_9) (fun _ h9 => h9) rfl hin rfl (by decide +kernel) rfl rfl (Nat.le_of_ble_eq_true rfl) dX6_init_9 (fun H locs hP hD hS => ?_)
  have hP : va_P D vwC [(h0, .inr (6, [.int 0, .ref q1, .null, .null, .null])), (q1, .inl (cs 0, 30, .inl (fun _ => 0)))] H := hP
  have hD : va_D (fun q : Nat => h0 ≤ q) [(h0, .inr (6, [.int 0, .ref q1, .null, .null, .null])), (q1, .inl (cs 0, 30, .inl (fun _ => 0)))] := hD
  refine lv_aload_n hx hb dX6_init_12 rfl (lv_at hl 0 rfl) ?_
  refine lv_bipush (v := 30) hx hb dX6_init_13 (by decide) ?_
  obtain ⟨q2, hq2⟩ : ∃ q, H.size = q := ⟨_, rfl⟩
  have hh2 : h0 ≤ q2 := by have := hP 0 _ rfl; have := this.lt; omega
  refine k_newa (atype := .int) (cA := cs 0) (N' := 30) (a0 := (30, .inl (fun _ => 0))) (h := q2) hx hb (hts _ w_ac_int) (ac_int hK) hP hD hS rfl (by decide) (by decide) (Nat.le_of_ble_eq_true rfl) hq2 hh2 (Nat.le_of_ble_eq_true rfl) (Nat.le_of_ble_eq_true rfl) dX6_init_15 (fun H _ hP hD hS => ?_)
  refine W.widen (k := 2) (n := 60) (Nat.le_of_ble_eq_true rfl) (Nat.le_of_ble_eq_true rfl) ?_
  have hP : va_P D vwC [(h0, .inr (6, [.int 0, .ref q1, .null, .null, .null])), (q1, .inl (cs 0, 30, .inl (fun _ => 0))), (q2, .inl (cs 0, 30, .inl (fun _ => 0)))] H := hP
  have hD : va_D (fun q : Nat => h0 ≤ q) [(h0, .inr (6, [.int 0, .ref q1, .null, .null, .null])), (q1, .inl (cs 0, 30, .inl (fun _ => 0))), (q2, .inl (cs 0, 30, .inl (fun _ => 0)))] := hD
  refine va_putF (D := D) (ci := 6) (v := .ref q2) (ty := .array .int) (C := RX6) (T := TX6) (N := 5) hx hb hts iw_X6 tyX6 tyX6_ok nmX6 hown hK hP hD hS 0 rfl rfl 2 (by decide) (hts _ w_fl_X6_15) (fun _ h9 => h9) rfl hin rfl (by decide +kernel) rfl rfl (Nat.le_of_ble_eq_true rfl) dX6_init_17 (fun H locs hP hD hS => ?_)
  have hP : va_P D vwC [(h0, .inr (6, [.int 0, .ref q1, .ref q2, .null, .null])), (q1, .inl (cs 0, 30, .inl (fun _ => 0))), (q2, .inl (cs 0, 30, .inl (fun _ => 0)))] H := hP
  have hD : va_D (fun q : Nat => h0 ≤ q) [(h0, .inr (6, [.int 0, .ref q1, .ref q2, .null, .null])), (q1, .inl (cs 0, 30, .inl (fun _ => 0))), (q2, .inl (cs 0, 30, .inl (fun _ => 0)))] := hD
  refine lv_aload_n hx hb dX6_init_20 rfl (lv_at hl 0 rfl) ?_
  refine lv_bipush (v := 30) hx hb dX6_init_21 (by decide) ?_
  obtain ⟨q3, hq3⟩ : ∃ q, H.size = q := ⟨_, rfl⟩
  have hh3 : h0 ≤ q3 := by have := hP 0 _ rfl; have := this.lt; omega
  refine k_newa (atype := .int) (cA := cs 0) (N' := 30) (a0 := (30, .inl (fun _ => 0))) (h := q3) hx hb (hts _ w_ac_int) (ac_int hK) hP hD hS rfl (by decide) (by decide) (Nat.le_of_ble_eq_true rfl) hq3 hh3 (Nat.le_of_ble_eq_true rfl) (Nat.le_of_ble_eq_true rfl) dX6_init_23 (fun H _ hP hD hS => ?_)
  refine W.widen (k := 3) (n := 90) (Nat.le_of_ble_eq_true rfl) (Nat.le_of_ble_eq_true rfl) ?_
  have hP : va_P D vwC [(h0, .inr (6, [.int 0, .ref q1, .ref q2, .null, .null])), (q1, .inl (cs 0, 30, .inl (fun _ => 0))), (q2, .inl (cs 0, 30, .inl (fun _ => 0))), (q3, .inl (cs 0, 30, .inl (fun _ => 0)))] H := hP
  have hD : va_D (fun q : Nat => h0 ≤ q) [(h0, .inr (6, [.int 0, .ref q1, .ref q2, .null, .null])), (q1, .inl (cs 0, 30, .inl (fun _ => 0))), (q2, .inl (cs 0, 30, .inl (fun _ => 0))), (q3, .inl (cs 0, 30, .inl (fun _ => 0)))] := hD
  refine va_putF (D := D) (ci := 6) (v := .ref q3) (ty := .array .int) (C := RX6) (T := TX6) (N := 5) hx hb hts iw_X6 tyX6 tyX6_ok nmX6 hown hK hP hD hS 0 rfl rfl 3 (by decide) (hts _ w_fl_X6_18) (fun _ h9 => h9) rfl hin rfl (by decide +kernel) rfl rfl (Nat.le_of_ble_eq_true rfl) dX6_init_25 (fun H locs hP hD hS => ?_)
  have hP : va_P D vwC [(h0, .inr (6, [.int 0, .ref q1, .ref q2, .ref q3, .null])), (q1, .inl (cs 0, 30, .inl (fun _ => 0))), (q2, .inl (cs 0, 30, .inl (fun _ => 0))), (q3, .inl (cs 0, 30, .inl (fun _ => 0)))] H := hP
  have hD : va_D (fun q : Nat => h0 ≤ q) [(h0, .inr (6, [.int 0, .ref q1, .ref q2, .ref q3, .null])), (q1, .inl (cs 0, 30, .inl (fun _ => 0))), (q2, .inl (cs 0, 30, .inl (fun _ => 0))), (q3, .inl (cs 0, 30, .inl (fun _ => 0)))] := hD
  refine lv_aload_n hx hb dX6_init_28 rfl (lv_at hl 0 rfl) ?_
  refine lv_bipush (v := 30) hx hb dX6_init_29 (by decide) ?_
  obtain ⟨q4, hq4⟩ : ∃ q, H.size = q := ⟨_, rfl⟩
  have hh4 : h0 ≤ q4 := by have := hP 0 _ rfl; have := this.lt; omega
  refine k_newa (atype := .int) (cA := cs 0) (N' := 30) (a0 := (30, .inl (fun _ => 0))) (h := q4) hx hb (hts _ w_ac_int) (ac_int hK) hP hD hS rfl (by decide) (by decide) (Nat.le_of_ble_eq_true rfl) hq4 hh4 (Nat.le_of_ble_eq_true rfl) (Nat.le_of_ble_eq_true rfl) dX6_init_31 (fun H _ hP hD hS => ?_)
  refine W.widen (k := 4) (n := 120) (Nat.le_of_ble_eq_true rfl) (Nat.le_of_ble_eq_true rfl) ?_
  have hP : va_P D vwC [(h0, .inr (6, [.int 0, .ref q1, .ref q2, .ref q3, .null])), (q1, .inl (cs 0, 30, .inl (fun _ => 0))), (q2, .inl (cs 0, 30, .inl (fun _ => 0))), (q3, .inl (cs 0, 30, .inl (fun _ => 0))), (q4, .inl (cs 0, 30, .inl (fun _ => 0)))] H := hP
  have hD : va_D (fun q : Nat => h0 ≤ q) [(h0, .inr (6, [.int 0, .ref q1, .ref q2, .ref q3, .null])), (q1, .inl (cs 0, 30, .inl (fun _ => 0))), (q2, .inl (cs 0, 30, .inl (fun _ => 0))), (q3, .inl (cs 0, 30, .inl (fun _ => 0))), (q4, .inl (cs 0, 30, .inl (fun _ => 0)))] := hD
  refine va_putF (D := D) (ci := 6) (v := .ref q4) (ty := .array .int) (C := RX6) (T := TX6) (N := 5) hx hb hts iw_X6 tyX6 tyX6_ok nmX6 hown hK hP hD hS 0 rfl rfl 4 (by decide) (hts _ w_fl_X6_21) (fun _ h9 => h9) rfl hin rfl (by decide +kernel) rfl rfl (Nat.le_of_ble_eq_true rfl) dX6_init_33 (fun H locs hP hD hS => ?_)
  have hP : va_P D vwC [(h0, .inr (6, [.int 0, .ref q1, .ref q2, .ref q3, .ref q4])), (q1, .inl (cs 0, 30, .inl (fun _ => 0))), (q2, .inl (cs 0, 30, .inl (fun _ => 0))), (q3, .inl (cs 0, 30, .inl (fun _ => 0))), (q4, .inl (cs 0, 30, .inl (fun _ => 0)))] H := hP
  have hD : va_D (fun q : Nat => h0 ≤ q) [(h0, .inr (6, [.int 0, .ref q1, .ref q2, .ref q3, .ref q4])), (q1, .inl (cs 0, 30, .inl (fun _ => 0))), (q2, .inl (cs 0, 30, .inl (fun _ => 0))), (q3, .inl (cs 0, 30, .inl (fun _ => 0))), (q4, .inl (cs 0, 30, .inl (fun _ => 0)))] := hD
  exact W.vret hx hb hr (fun t ht hW => ⟨⟨(), rfl, trivial, q1, q2, q3, q4, pw ht hP, hD⟩, hS.F ht⟩) hS.2.2 dX6_init_36 (hlocks := hlocks)
