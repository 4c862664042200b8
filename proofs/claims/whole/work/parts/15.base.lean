/-! the base of all walks: the office's cells, the tables' nest words, a method's start -/
abbrev OF : Type := (Nat → Int32) × (Nat → Nat → Int32)
def stS (O : OF) (k : Nat) (v : Int32) : OF := (upd O.1 k v, O.2)
def stA (O : OF) (j : Nat) (f : Nat → Int32) : OF := (O.1, va_up O.2 j f)
def b2i (b : Bool) : Int32 := match b with
  | true => 1
  | false => 0
theorem b2i_f {b : Bool} (h : b2i b = 0) : ¬ b = true := by
  cases b
  · exact fun h => nomatch h
  · exact absurd h (by decide)
theorem b2i_t {b : Bool} (h : ¬ b2i b = 0) : b = true := by
  cases b
  · exact absurd rfl h
  · rfl
theorem b2i_nar (b : Bool) : narrow .boolean (.int (b2i b)) = .int (b2i b) := by cases b <;> rfl
theorem b2i_1 : b2i true = 1 := rfl
theorem b2i_0 : b2i false = 0 := rfl
abbrev vwC : List vw_C := [(RX0, TX0, 3), (RX1, TX1, 6), (RX2, TX2, 7), (RX3, TX3, 8), (RX4, TX4, 5), (RX5, TX5, 2), (RX6, TX6, 5), (RX7, TX7, 5), (RX8, TX8, 14)]
def atys (cs : Nat → ClassId) : List (ClassId × FieldType) := [(cs 0, .int), (cs 1, .char), (cs 2, .boolean), (cs 3, .object "TrueSheets$Office"), (cs 4, .long)]
def nestM : List (String × Nat × MethodName) := [("TrueSheets$Slots", 26, yX7_isSlot), ("TrueSheets$Slots", 22, yX7_isIn), ("TrueSheets$Sheets", 41, yX7_isIn), ("TrueSheets$Sheets", 38, yX7_isField), ("TrueSheets$Prints", 47, yX7_isIn), ("TrueSheets$Office", 65, yX7_isSetting), ("TrueSheets$Office", 27, yX6_init), ("TrueSheets$Office", 220, yX7_isIn), ("TrueSheets$Office", 206, yX7_isDays), ("TrueSheets$Office", 20, yX3_init), ("TrueSheets$Office", 198, yX7_isField), ("TrueSheets$Office", 182, yX7_isSite), ("TrueSheets$Office", 165, yX7_isCloud), ("TrueSheets$Office", 11, yX4_init), ("TrueSheets", 11, yX2_init)]
def nestF : List (Nat × String × String) := [(105, "sheets", "LTrueSheets$Sheets;"), (123, "prints", "LTrueSheets$Prints;"), (139, "works", "LTrueSheets$Works;"), (283, "cost", "I"), (301, "today", "I")]
def KN (U : State) : Prop := (∀ q ∈ nestM, va_Nw (.methodLinkNest q.1 q.2.1 q.2.2 "TrueSheets") U) ∧ ∀ q ∈ nestF, va_Nw (.fieldLinkNest "TrueSheets" q.1 "TrueSheets$Office" q.2.1 q.2.2 "TrueSheets") U
def EV (D : va_G) (cs : Nat → ClassId) (U : State) : Prop := va_K D vwC (atys cs) U ∧ KN U
def PE (D : va_G) (cs : Nat → ClassId) (ws : va_W) : State → Prop := fun U => va_P D vwC ws U.heap ∧ EV D cs U
theorem KN.warm {s U : State} (hW : s.WarmedH U.vm) (h : KN s) : KN U := ⟨fun q hq => (h.1 q hq).warmM hW, fun q hq => (h.2 q hq).warmF hW⟩
theorem KN.same {s U : State} (hW : s.vm = U.vm) (h : KN s) : KN U := ⟨fun q hq => (h.1 q hq).same rfl hW, fun q hq => (h.2 q hq).same rfl hW⟩
theorem EV.warm {D : va_G} {cs : Nat → ClassId} {s U : State} (hW : s.WarmedH U.vm) (h : EV D cs s) : EV D cs U := ⟨va_K.moved hW.alike h.1, h.2.warm hW⟩
theorem pe_blind (D : va_G) (cs : Nat → ClassId) (ws : va_W) (av : List Value) : FrameBlind (va_Pc av (PE D cs ws)) := fun a U g mk q => by
  obtain ⟨q0, q1, q2, q3⟩ := q
  exact ⟨q0, q1, va_K.moved (u := U) (U := U.calling g mk a) (Vm.Alike.refl U.vm) q2, q3.same rfl⟩
theorem pe_at {D : va_G} {cs : Nat → ClassId} {ws : va_W} {s : State} {H : Heap} (av : List Value) (hP : va_P D vwC ws H) (hE : EV D cs s) : ∀ U : State, U.heap = H → s.WarmedH U.vm → va_Pc av (PE D cs ws) av.toArray U := fun U hU hW => ⟨rfl, by rw [hU]; exact hP, hE.warm hW⟩
theorem pe_S {D : va_G} {cs : Nat → ClassId} {ws : va_W} {s : State} {H : Heap} {av : List Value} (hP : va_P D vwC ws H) (hE : EV D cs s) : PreS s H (va_Pc av (PE D cs ws)) av := ⟨pe_blind D cs ws av, pe_at av hP hE⟩
theorem pe_V {D : va_G} {cs : Nat → ClassId} {ws : va_W} {s : State} {H : Heap} {As : List Value} {b : Addr} {q0 ci : Nat} {q : vw_C} {fs : List Value} (hP : va_P D vwC ws H) (hE : EV D cs s) (hc : vwC[ci]? = some q) (he : ws[q0]? = some (b, .inr (ci, fs))) : PreV s H q.1 b (va_Pc (.ref b :: As) (PE D cs ws)) As := ⟨pe_blind D cs ws (.ref b :: As), va_recv hE.1 hP hc he, pe_at (.ref b :: As) hP hE⟩
def wc (y : MethodName) (c : ByteArray) (n : Nat) (r : Option FieldType) : List Cond := .code y c n r :: GL
theorem gl_in {w : Cond} (h : w ∈ GL) : w ∈ GL ∧ ((w.onTables && w.keeps) = true ∨ ∃ ty, w = .arrayClass ty) := ⟨h, good_of_word (gl_good h)⟩
theorem good_code {y : MethodName} {c : ByteArray} {n : Nat} {r : Option FieldType} (h5 : .code y c n r ∈ GL) : GoodIn GL (wc y c n r) := fun w hw => (List.mem_cons.mp hw).elim (fun e => by rw [e]; exact gl_in h5) (fun h => gl_in h)
theorem good_V {own C : String} {i n : Nat} {y : MethodName} {c : ByteArray} {r : Option FieldType} (h1 : .methodLink own i y ∈ GL) (h2 : .instanceMethod y ∈ GL) (h3 : .selects C y y ∈ GL) (h4 : .initialized C ∈ GL) (h5 : .code y c n r ∈ GL) : GoodIn GL (wsV own i C y (wc y c n r)) := by
  refine goodIn_app (fun w hw => ?_) (good_code h5)
  simp only [List.mem_cons, List.not_mem_nil, or_false] at hw
  rcases hw with rfl | rfl | rfl | rfl
  · exact gl_in h1
  · exact gl_in h2
  · exact gl_in h3
  · exact gl_in h4
theorem good_S {own : String} {i n : Nat} {y : MethodName} {c : ByteArray} {r : Option FieldType} (h1 : .methodLink own i y ∈ GL) (h2 : .static y ∈ GL) (h4 : .initialized own ∈ GL) (h5 : .code y c n r ∈ GL) : GoodIn GL (wsS own i y (wc y c n r)) := by
  refine goodIn_app (fun w hw => ?_) (good_code h5)
  simp only [List.mem_cons, List.not_mem_nil, or_false] at hw
  rcases hw with rfl | rfl | rfl
  · exact gl_in h1
  · exact gl_in h2
  · exact gl_in h4
theorem good_T {own : String} {i n : Nat} {y : MethodName} {c : ByteArray} {r : Option FieldType} (h1 : .methodLink own i y ∈ GL) (h2 : .static y ∈ GL) (h4 : .initialized y.cls ∈ GL) (h5 : .code y c n r ∈ GL) : GoodIn GL (va_wsS own i y (wc y c n r)) := by
  refine goodIn_app (fun w hw => ?_) (good_code h5)
  simp only [List.mem_cons, List.not_mem_nil, or_false] at hw
  rcases hw with rfl | rfl | rfl
  · exact gl_in h1
  · exact gl_in h2
  · exact gl_in h4
/-- a method's start -/
theorem met_o {l : Launch} {y : MethodName} {rm : Room} {cc : ByteArray} {n : Nat} {ret : Option FieldType} {av : List Value} {D : va_G} {cs : Nat → ClassId} {wl : va_W} {Qc : Array Value → State → Outcome → State → Prop} {mc ms : Nat} {free : Addr → Prop} {lv : List (Nat × Value)}
    (hy : plainName y.cls = true) (hsl : (lg_sl av).length ≤ n) (hlv : lv_args 0 av = lv)
    (body : ∀ (p : Program) (e : Env) (s : State) (m : MethodId) (args : Array Value) (below : List Frame) (meth : Method) (c : Code) (ls : Array Slot), p.tables.exec = Jvm.exec → c.code = cc → meth.sig.returnType = ret → c.maxLocals = n → (∀ w ∈ GL, w.before args s = true) → s.vm.findClass y.cls = some m.cls → meth.locks = false → meth.name = y.name → va_P D vwC wl s.heap → EV D cs s → lv_has ls n lv → W p l e rm s m args below meth c s.heap [] 0 0 (MQ below Qc args s mc ms free) (F0 m 0 ls [])) :
    Met l y (wc y cc n ret) rm (va_Pc av (PE D cs wl)) Qc mc ms free := by
  refine Met.ofW (cc := cc) (maxL := n) (ret := ret) hy rfl ?_
  intro p e s m args below meth c s₁ B hml hv
  obtain ⟨rfl, hP, hE⟩ := hv
  have hown : s.vm.findClass y.cls = some m.cls := findClass_of_methodNamed B.named
  have hin : meth.name = y.name := (name_of_methodNamed B.named B.method).1
  have hl := lv_entry av (n := n) hsl
  rw [lg_entry_eq]
  rw [hlv] at hl
  exact body p e s m av.toArray below meth c _ B.exec B.bytes B.returns hml (fun w hw => atoms_spec (ws := wc y cc n ret) B.pre w (List.mem_cons_of_mem _ hw)) hown B.notSynchronized hin hP hE hl
/-- a call that answers an int and leaves the heap -/
theorem run_c {p : Program} {l : Launch} {e : Env} {R : Room} {s : State} {m : MethodId} {args : Array Value} {below : List Frame} {meth : Method} {c : Code} {H : Heap} {locs : List Loc} {cells slots mc ms : Nat} {g : JFrame} {rest : List Value} {Qa : State → Outcome → State → Prop} {free : Addr → Prop}
    (h : va_Run p l e R s m args below meth c H locs cells slots mc ms g rest Qa free) : CallRun p l e R s m args below meth c H locs cells slots mc ms g rest Qa free := by
  intro T hT X
  obtain ⟨v, st₀, t, T', L, h0, X', hL, e1, -, hq, st⟩ := h T hT X
  exact ⟨v, st₀, t, T', L, h0, X', hL, e1, hq, st⟩
/-- an office: its 18 cells; scalars O.1: 0 count of sheets, 1 to check, 2 count of prints, 3 out, 4 count of works, 5 today, 6 cost; rows O.2 by the cell's place -/
def ofW (cs : Nat → ClassId) (a : Nat → Nat) (O : OF) : va_W :=
  [(a 0, .inr (1, [.ref (a 1), .ref (a 2), .ref (a 3), .ref (a 4), .int (O.1 5), .int (O.1 6)])),
   (a 1, .inr (4, [.int (O.1 0), .int (O.1 1), .ref (a 5), .ref (a 6), .ref (a 7)])),
   (a 2, .inr (3, [.int (O.1 2), .int (O.1 3), .ref (a 8), .ref (a 9), .ref (a 10), .ref (a 11), .ref (a 12), .ref (a 13)])),
   (a 3, .inr (6, [.int (O.1 4), .ref (a 14), .ref (a 15), .ref (a 16), .ref (a 17)])),
   (a 4, .inl (cs 0, 3, .inl (O.2 4))), (a 5, .inl (cs 0, 10, .inl (O.2 5))), (a 6, .inl (cs 0, 10, .inl (O.2 6))), (a 7, .inl (cs 0, 120, .inl (O.2 7))),
   (a 8, .inl (cs 0, 24, .inl (O.2 8))), (a 9, .inl (cs 0, 24, .inl (O.2 9))), (a 10, .inl (cs 0, 24, .inl (O.2 10))), (a 11, .inl (cs 0, 24, .inl (O.2 11))), (a 12, .inl (cs 0, 24, .inl (O.2 12))), (a 13, .inl (cs 0, 24, .inl (O.2 13))),
   (a 14, .inl (cs 0, 30, .inl (O.2 14))), (a 15, .inl (cs 0, 30, .inl (O.2 15))), (a 16, .inl (cs 0, 30, .inl (O.2 16))), (a 17, .inl (cs 0, 30, .inl (O.2 17)))]
def oD (a : Nat → Nat) : Prop := ∀ i j, i < 18 → j < 18 → a i = a j → i = j
def oA (a : Nat → Nat) : Nat → Prop := fun q => ∃ i, i < 18 ∧ q = a i
theorem of_len (cs : Nat → ClassId) (a : Nat → Nat) (O : OF) : (ofW cs a O).length = 18 := rfl
theorem of_ad (cs : Nat → ClassId) (a : Nat → Nat) (O : OF) : ∀ (k : Nat) (q : Nat × va_E), (ofW cs a O)[k]? = some q → k < 18 ∧ q.1 = a k := by
  intro k q h
  have hk : k < 18 := by
    rcases Nat.lt_or_ge k 18 with h1 | h1
    · exact h1
    · rw [List.getElem?_eq_none (by rw [of_len]; exact h1)] at h; cases h
  refine ⟨hk, ?_⟩
  have h2 : ((ofW cs a O).map (·.1))[k]? = some q.1 := by rw [List.getElem?_map, h]; rfl
  have h3 : (ofW cs a O).map (·.1) = (List.range 18).map a := rfl
  rw [h3, List.getElem?_map, List.getElem?_range hk] at h2
  exact (Option.some.inj h2).symm
theorem of_D (cs : Nat → ClassId) {a : Nat → Nat} (O : OF) (hd : oD a) : va_D (oA a) (ofW cs a O) := by
  refine ⟨fun i j p q hp hq e => ?_, fun k q h => ?_⟩
  · obtain ⟨h1, e1⟩ := of_ad cs a O i p hp
    obtain ⟨h2, e2⟩ := of_ad cs a O j q hq
    exact hd i j h1 h2 (by rw [← e1, ← e2, e])
  · obtain ⟨h1, e1⟩ := of_ad cs a O k q h
    exact ⟨k, h1, e1⟩
/-- a loop that counts up to a bound -/
def upM (b x : Int32) : Nat := (b.toInt - x.toInt).toNat
theorem i32_rng (x : Int32) : -2147483648 ≤ x.toInt ∧ x.toInt < 2147483648 := ⟨Int32.le_toInt x, Int32.toInt_lt x⟩
theorem i32_lt {x y : Int32} : x < y ↔ x.toInt < y.toInt := Int32.lt_iff_toInt_lt
theorem i32_le {x y : Int32} : x ≤ y ↔ x.toInt ≤ y.toInt := Int32.le_iff_toInt_le
theorem i32_inc {x b : Int32} (h : x < b) : (x + 1).toInt = x.toInt + 1 := by
  have h1 := i32_rng b
  have h2 := i32_rng x
  have h3 := i32_lt.mp h
  rw [Int32.toInt_add]
  show (x.toInt + 1).bmod (2 ^ 32) = _
  exact Int.bmod_eq_of_le (by omega) (by omega)
theorem upM_s {b x : Int32} {n : Nat} (h : ¬ b ≤ x) (hm : upM b x < n + 1) : upM b (x + 1) < n := by
  have h3 : x < b := Int32.not_le.mp h
  have h4 := i32_inc h3
  have h5 := i32_lt.mp h3
  unfold upM at hm ⊢
  rw [h4]
  omega
theorem upM_e (b x : Int32) : upM b x < upM b x + 1 := Nat.lt_succ_self _
theorem sw_ne {x k : Int32} (h : ¬ x = k) : x.toInt ≠ k.toInt := fun e => h (Int32.toInt_inj.mp e)

theorem p_nil (D : va_G) (H : Heap) : va_P D vwC [] H := fun k q h => by simp at h
/-- a value that several ways bring to one place -/
theorem join_i {p : Program} {l : Launch} {e : Env} {R : Room} {s : State} {m : MethodId} {args : Array Value} {below : List Frame} {meth : Method} {c : Code} {H : Heap} {locs : List Loc} {cells slots : Nat} {Q : State → Prop} {J : Nat} {ls : Array Slot} {rest : List Value} {g : JFrame} (V : Int32)
    (k : W p l e R s m args below meth c H locs cells slots Q (F0 m J ls (.int V :: rest)))
    (b : (∀ x : Int32, V = x → W p l e R s m args below meth c H locs cells slots Q (F0 m J ls (.int x :: rest))) → W p l e R s m args below meth c H locs cells slots Q g) : W p l e R s m args below meth c H locs cells slots Q g := b (fun x hx => hx ▸ k)
def dnM (x : Int32) : Nat := (x.toInt + 1).toNat
theorem dnM_s {x : Int32} {n : Nat} (h : ¬ x < 0) (hm : dnM x < n + 1) : dnM (x + -1) < n := by
  have h2 := i32_rng x
  have h3 : ¬ x.toInt < 0 := fun q => h (i32_lt.mpr q)
  have h4 : (x + -1).toInt = x.toInt - 1 := by
    rw [Int32.toInt_add]
    show (x.toInt + -1).bmod (2 ^ 32) = _
    rw [Int.bmod_eq_of_le (by omega) (by omega)]
    omega
  unfold dnM at hm ⊢
  rw [h4]
  omega
theorem dnM_e (x : Int32) : dnM x < dnM x + 1 := Nat.lt_succ_self _
