/-! the law's wrappers: what they stand in, what they catch -/
theorem met_h {l : Launch} {y : MethodName} {rm : Room} {cc : ByteArray} {n : Nat} {ret : Option FieldType} {hh : List (Nat × Nat × Nat × Nat)} {av : List Value} {B : State → Prop} {Qc : Array Value → State → Outcome → State → Prop} {mc ms : Nat} {free : Addr → Prop} {lv : List (Nat × Value)}
    (hy : plainName y.cls = true) (hsl : (lg_sl av).length ≤ n) (hlv : lv_args 0 av = lv)
    (body : ∀ (p : Program) (e : Env) (s : State) (m : MethodId) (args : Array Value) (below : List Frame) (meth : Method) (c : Code) (ls : Array Slot), p.tables.exec = Jvm.exec → c.code = cc → meth.sig.returnType = ret → c.maxLocals = n → (∀ w ∈ GL, w.before args s = true) → s.vm.findClass y.cls = some m.cls → meth.locks = false → c.exceptionTable.toList = tableOf hh → B s → lv_has ls n lv → W p l e rm s m args below meth c s.heap [] 0 0 (MQ below Qc args s mc ms free) (F0 m 0 ls [])) :
    Met l y (.codeWith y cc n ret hh :: GL) rm (va_Pc av B) Qc mc ms free := by
  refine va_MetW (cc := cc) (maxL := n) (ret := ret) (hh := hh) hy rfl ?_
  intro p e s m args below meth c s₁ Bd hml hv
  obtain ⟨rfl, hB⟩ := hv
  have hown : s.vm.findClass y.cls = some m.cls := findClass_of_methodNamed Bd.named
  have hl := lv_entry av (n := n) hsl
  rw [lg_entry_eq]
  rw [hlv] at hl
  have hw := atoms_spec (ws := .codeWith y cc n ret hh :: GL) Bd.pre
  exact body p e s m av.toArray below meth c _ Bd.exec Bd.bytes Bd.returns hml (fun w h => hw w (List.mem_cons_of_mem _ h)) hown Bd.notSynchronized (vx_table (x := y) Bd (hw _ List.mem_cons_self)) hB hl
def oW (cs : Nat → ClassId) (oo : Nat) (g : Nat → Int64) : va_W := [(oo, .inl (cs 4, 1, .inr (.inl g)))]
def wAd (z : Nat → Nat) (A : Nat → Nat → Nat) (oo : Nat) : Nat → Prop := fun q => tA z A q ∨ q = oo
theorem o_D (cs : Nat → ClassId) {z : Nat → Nat} {A : Nat → Nat → Nat} {oo : Nat} (g : Nat → Int64) (Os : Nat → OF) (T : OF) (hd : tD z A) (ho : ¬ tA z A oo) : va_D (wAd z A oo) (oW cs oo g ++ (zW cs z A T ++ alW cs A Os 19)) := by
  refine va_D.app (k_oneD (Or.inr rfl)) ((ts_D cs Os T hd).weaken (fun _ _ _ h => Or.inl h)) (fun i j p q hp hq e => ho ?_)
  have h1 := (ts_D cs Os T hd).2 j q hq
  have h2 : p.1 = oo := by
    match i, hp with
    | 0, hp => cases hp; rfl
    | i + 1, hp => simp [oW] at hp
  rw [← h2, e]
  exact h1
def NCs (U : State) : Prop := va_Nc "java/lang/IllegalStateException" "java/lang/IllegalArgumentException" U ∧ va_Nc "java/lang/IllegalArgumentException" "java/lang/IndexOutOfBoundsException" U ∧ va_Nc "java/lang/IllegalStateException" "java/lang/IndexOutOfBoundsException" U
theorem NCs.moved {u U : State} (hvm : u.vm.Alike U.vm) (h : NCs u) : NCs U := ⟨h.1.moved hvm, h.2.1.moved hvm, h.2.2.moved hvm⟩
/-- what a wrapper finds -/
def LWE (D : va_G) (cs : Nat → ClassId) (z : Nat → Nat) (A : Nat → Nat → Nat) (adK adV : Nat → Nat) (oo : Nat) (Os : Nat → OF) (T : OF) (g : Nat → Int64) : State → Prop := fun U => (TE D cs z A adK adV Os T U ∧ va_P D vwC (oW cs oo g) U.heap) ∧ NCs U
/-- a wrapper's answer, its state and its cell, out of what the method did -/
def wr (hs : List Nat) (v : Nat × Int32 × TSt) (g : Nat → Int64) : Int32 × TSt × (Nat → Int64) := if v.1 = 0 then (0, v.2.2, vp_updL g (0 : Int32).toNatClampNeg v.2.1.toInt64) else (nI (hs.idxOf v.1 + 1), v.2.2, g)
theorem wr_0 {hs : List Nat} {v : Nat × Int32 × TSt} {g : Nat → Int64} (h : v.1 = 0) : wr hs v g = (0, v.2.2, vp_updL g (0 : Int32).toNatClampNeg v.2.1.toInt64) := if_pos h
theorem wr_1 {hs : List Nat} {v : Nat × Int32 × TSt} {g : Nat → Int64} {k : Nat} (h : ¬ v.1 = 0) (e : v.1 = k) : wr hs v g = (nI (hs.idxOf k + 1), v.2.2, g) := by
  rw [← e]; exact if_neg h
theorem wcl {s : State} {k : Nat} {v : Nat} {E : String} {c : ClassId} (h : s.vm.findClass (exN v) = some c) (e : v = k) (hE : exN k = E) : s.vm.findClass E = some c := by rw [← hE, ← e]; exact h
theorem x_mem1 : (Cond.castable "java/lang/IllegalArgumentException" "java/lang/IllegalArgumentException") ∈ exW := by simp [exW]
theorem x_mem2 : (Cond.castable "java/lang/IllegalStateException" "java/lang/IllegalStateException") ∈ exW := by simp [exW]
theorem x_mem3 : (Cond.castable "java/lang/IndexOutOfBoundsException" "java/lang/IndexOutOfBoundsException") ∈ exW := by simp [exW]
theorem good_SW {own : String} {i n : Nat} {y : MethodName} {c : ByteArray} {r : Option FieldType} {hh : List (Nat × Nat × Nat × Nat)} (h1 : .methodLink own i y ∈ GL) (h2 : .static y ∈ GL) (h4 : .initialized y.cls ∈ GL) (h5 : .codeWith y c n r hh ∈ GL) : GoodIn GL (va_wsS own i y (.codeWith y c n r hh :: GL)) := by
  refine goodIn_app (fun w hw => ?_) (fun w hw => (List.mem_cons.mp hw).elim (fun e => by rw [e]; exact gl_in h5) (fun h => gl_in h))
  simp only [List.mem_cons, List.not_mem_nil, or_false] at hw
  rcases hw with rfl | rfl | rfl
  · exact gl_in h1
  · exact gl_in h2
  · exact gl_in h4
