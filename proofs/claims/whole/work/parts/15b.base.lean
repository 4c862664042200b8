theorem vp_a {x b : Int32} {n : Nat} (e : b.toInt = (n : Int)) (h1 : ¬ x < 0) (h2 : ¬ b ≤ x) : vp_in x n := by
  have h4 : ¬ x.toInt < 0 := fun q => h1 (i32_lt.mpr q)
  have h5 : ¬ b.toInt ≤ x.toInt := fun q => h2 (i32_le.mpr q)
  rw [vp_in_iff]
  omega
theorem vp_b {x b : Int32} {n : Nat} (e : b.toInt = (n : Int)) (h1 : ¬ x < 0) (h2 : x < b) : vp_in x n := vp_a e h1 (Int32.not_le.mpr h2)
theorem nn_inc {x b : Int32} (h : ¬ x < 0) (hb : ¬ b ≤ x) : ¬ x + 1 < 0 := by
  have h4 : ¬ x.toInt < 0 := fun q => h (i32_lt.mpr q)
  intro q
  have q2 : (x + 1).toInt < 0 := i32_lt.mp q
  rw [i32_inc (Int32.not_le.mp hb)] at q2
  omega
theorem dr_in {s f : Int32} (h1 : vp_in s 10) (h2 : vp_in f 12) : vp_in (s * 12 + f) 120 := by
  obtain ⟨a1, a2⟩ := vp_in_iff.mp h1
  obtain ⟨b1, b2⟩ := vp_in_iff.mp h2
  have e1 : (12 : Int32).toInt = 12 := rfl
  have k1 : (s.toInt * 12).bmod (2 ^ 32) = s.toInt * 12 := Int.bmod_eq_of_le (by omega) (by omega)
  have k2 : (s.toInt * 12 + f.toInt).bmod (2 ^ 32) = s.toInt * 12 + f.toInt := Int.bmod_eq_of_le (by omega) (by omega)
  rw [vp_in_iff, Int32.toInt_add, Int32.toInt_mul, e1, k1, k2]
  omega
theorem w_st_arraycopy : (.static arraycopyName : Cond) ∈ GL := gl (tb4 (List.mem_of_getElem? (i := 147) (by decide +kernel))) (by decide +kernel)
theorem w_na_arraycopy : (.native arraycopyName : Cond) ∈ GL := gl (tb4 (List.mem_of_getElem? (i := 148) (by decide +kernel))) (by decide +kernel)
/-- two offices -/
def oA2 (a b : Nat → Nat) : Nat → Prop := fun q => oA a q ∨ oA b q
def oD2 (a b : Nat → Nat) : Prop := oD a ∧ oD b ∧ ∀ i j, i < 18 → j < 18 → a i ≠ b j
theorem of2_D (cs : Nat → ClassId) {a b : Nat → Nat} (O P : OF) (hd : oD2 a b) : va_D (oA2 a b) (ofW cs a O ++ ofW cs b P) := by
  refine va_D.app ((of_D cs O hd.1).weaken (fun _ _ _ h => Or.inl h)) ((of_D cs P hd.2.1).weaken (fun _ _ _ h => Or.inr h)) (fun i j x y hx hy e => ?_)
  obtain ⟨h1, e1⟩ := of_ad cs a O i x hx
  obtain ⟨h2, e2⟩ := of_ad cs b P j y hy
  exact hd.2.2 i j h1 h2 (by rw [← e1, ← e2, e])
theorem pe_W {D : va_G} {cs : Nat → ClassId} {ws : va_W} {s : State} {H : Heap} {As : List Value} {b : Addr} {q0 ci : Nat} {C : String} {T : u_T} {N : Nat} {fs : List Value} (hP : va_P D vwC ws H) (hE : EV D cs s) (hc : vwC[ci]? = some (C, T, N)) (he : ws[q0]? = some (b, .inr (ci, fs))) : PreV s H C b (va_Pc (.ref b :: As) (PE D cs ws)) As := pe_V hP hE hc he
theorem pw {D : va_G} {ws : va_W} {t : State} {H : Heap} (ht : t.heap = H) (h : va_P D vwC ws H) : va_P D vwC ws t.heap := by rw [ht]; exact h
theorem pair_eq {α β : Type} {a : α} {b : β} {v : α × β} (h : (a, b) = v) : a = v.1 ∧ b = v.2 := by subst h; exact ⟨rfl, rfl⟩
theorem pairb_eq {β : Type} {a : Bool} {b : β} {v : Bool × β} (h : (a, b) = v) : b2i a = b2i v.1 ∧ b = v.2 := by subst h; exact ⟨rfl, rfl⟩
section EQW
variable {p : Program} {l : Launch} {e : Env} {R : Room} {s : State} {m : MethodId} {args : Array Value} {below : List Frame} {meth : Method} {c : Code} {H : Heap} {locs : List Loc} {cells slots : Nat} {Q : State → Prop}
variable {pc : Nat} {ls : Array Slot} {rest st0 : List Value} {a : Array Value} {A0 A1 : Nat → Prop} {H0 : Heap} {free : Addr → Prop}
/-- a call that answers v and leaves the heap -/
theorem ro_i (v : Int32) (hr : CallRun p l e R s m args below meth c H locs cells slots 0 0 (F0 m pc ls st0) rest (vp_Si (fun r => r = v) a) (fun _ => False))
    (kk : W p l e R s m args below meth c H locs cells slots Q (F0 m (pc + 3) ls (.int v :: rest))) : W p l e R s m args below meth c H locs cells slots Q (F0 m pc ls st0) := by
  refine vp_callSi hr (fun r h => ?_)
  obtain rfl : r = v := h
  exact kk
theorem ro_l (v : Int64) (hr : CallRun p l e R s m args below meth c H locs cells slots 0 0 (F0 m pc ls st0) rest (vp_Sl (fun r => r = v) a) (fun _ => False))
    (kk : W p l e R s m args below meth c H locs cells slots Q (F0 m (pc + 3) ls (.long v :: rest))) : W p l e R s m args below meth c H locs cells slots Q (F0 m pc ls st0) := by
  refine vp_callSl hr (fun r h => ?_)
  obtain rfl : r = v := h
  exact kk
/-- a call that answers v.1 and leaves the world v.2 -/
theorem w_i {S : Type} {B : S → State → Prop} (v : Int32 × S) (hr : va_Run p l e R s m args below meth c H locs cells slots 0 0 (F0 m pc ls st0) rest (va_Qi (fun r u => r = v.1 ∧ u = v.2) B A1 a) free) (hS : va_S A0 H0 H locs) (hA : ∀ q, q < H.size → A1 q → A0 q) (hf : ∀ q, free q → A0 q)
    (kk : ∀ (t : State) (locs1 : List Loc), B v.2 t → H.size ≤ t.heap.size → (∀ q : Nat, q < H.size → ¬ A1 q → t.heap[q]? = H[q]?) → va_S A0 H0 t.heap locs1 → W p l e R s m args below meth c t.heap locs1 cells slots Q (F0 m (pc + 3) ls (.int v.1 :: rest))) : W p l e R s m args below meth c H locs cells slots Q (F0 m pc ls st0) := by
  refine va_calli hr hS hA hf (fun r u t H1 locs1 ht _ hp hB hz hk hS1 => ?_)
  obtain ⟨h1, h2⟩ := hp
  subst h1 h2 ht
  exact kk t locs1 hB hz hk hS1
theorem w_b {S : Type} {B : S → State → Prop} (v : Bool × S) (hr : va_Run p l e R s m args below meth c H locs cells slots 0 0 (F0 m pc ls st0) rest (va_Qi (fun r u => r = b2i v.1 ∧ u = v.2) B A1 a) free) (hS : va_S A0 H0 H locs) (hA : ∀ q, q < H.size → A1 q → A0 q) (hf : ∀ q, free q → A0 q)
    (kk : ∀ (t : State) (locs1 : List Loc), B v.2 t → H.size ≤ t.heap.size → (∀ q : Nat, q < H.size → ¬ A1 q → t.heap[q]? = H[q]?) → va_S A0 H0 t.heap locs1 → W p l e R s m args below meth c t.heap locs1 cells slots Q (F0 m (pc + 3) ls (.int (b2i v.1) :: rest))) : W p l e R s m args below meth c H locs cells slots Q (F0 m pc ls st0) := by
  refine va_calli hr hS hA hf (fun r u t H1 locs1 ht _ hp hB hz hk hS1 => ?_)
  obtain ⟨h1, h2⟩ := hp
  subst h1 h2 ht
  exact kk t locs1 hB hz hk hS1
theorem w_v {S : Type} {B : S → State → Prop} (v : S) (hr : va_Run p l e R s m args below meth c H locs cells slots 0 0 (F0 m pc ls st0) rest (va_Qv (fun u => u = v) B A1 a) free) (hS : va_S A0 H0 H locs) (hA : ∀ q, q < H.size → A1 q → A0 q) (hf : ∀ q, free q → A0 q)
    (kk : ∀ (t : State) (locs1 : List Loc), B v t → H.size ≤ t.heap.size → (∀ q : Nat, q < H.size → ¬ A1 q → t.heap[q]? = H[q]?) → va_S A0 H0 t.heap locs1 → W p l e R s m args below meth c t.heap locs1 cells slots Q (F0 m (pc + 3) ls rest)) : W p l e R s m args below meth c H locs cells slots Q (F0 m pc ls st0) := by
  refine va_callv hr hS hA hf (fun u t H1 locs1 ht _ hp hB hz hk hS1 => ?_)
  subst hp ht
  exact kk t locs1 hB hz hk hS1
end EQW
