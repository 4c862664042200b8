theorem vp_a {x b : Int32} {n : Nat} (e : b.toInt = (n : Int)) (h1 : ¬ x < 0) (h2 : ¬ b ≤ x) : vp_in x n := by
  have h4 : ¬ x.toInt < 0 := fun q => h1 (i32_lt.mpr q)
  have h5 : ¬ b.toInt ≤ x.toInt := fun q => h2 (i32_le.mpr q)
  rw [vp_in_iff]
  omega
theorem vp_b {x b : Int32} {n : Nat} (e : b.toInt = (n : Int)) (h1 : ¬ x < 0) (h2 : x < b) : vp_in x n := vp_a e h1 (Int32.not_le.mpr h2)
theorem nn_inc {x b : Int32} (h : ¬ x < 0) (hb : ¬ b ≤ x) : ¬ x + 1 < 0 := by
  have h4 : ¬ x.toInt < 0 := fun q => h (i32_lt.mpr q)
  intro q
  have q2 : (x + 1).toInt < 0 := i32_lt.mp q
  rw [i32_inc (Int32.not_le.mp hb)] at q2
  omega
theorem dr_in {s f : Int32} (h1 : vp_in s 10) (h2 : vp_in f 12) : vp_in (s * 12 + f) 120 := by
  obtain ⟨a1, a2⟩ := vp_in_iff.mp h1
  obtain ⟨b1, b2⟩ := vp_in_iff.mp h2
  have e1 : (12 : Int32).toInt = 12 := rfl
  have k1 : (s.toInt * 12).bmod (2 ^ 32) = s.toInt * 12 := Int.bmod_eq_of_le (by omega) (by omega)
  have k2 : (s.toInt * 12 + f.toInt).bmod (2 ^ 32) = s.toInt * 12 + f.toInt := Int.bmod_eq_of_le (by omega) (by omega)
  rw [vp_in_iff, Int32.toInt_add, Int32.toInt_mul, e1, k1, k2]
  omega
theorem w_st_arraycopy : (.static arraycopyName : Cond) ∈ GL := gl (tb4 (List.mem_of_getElem? (i := 147) (by decide +kernel))) (by decide +kernel)
theorem w_na_arraycopy : (.native arraycopyName : Cond) ∈ GL := gl (tb4 (List.mem_of_getElem? (i := 148) (by decide +kernel))) (by decide +kernel)
/-- two offices -/
def oA2 (a b : Nat → Nat) : Nat → Prop := fun q => oA a q ∨ oA b q
def oD2 (a b : Nat → Nat) : Prop := oD a ∧ oD b ∧ ∀ i j, i < 18 → j < 18 → a i ≠ b j
theorem of2_D (cs : Nat → ClassId) {a b : Nat → Nat} (O P : OF) (hd : oD2 a b) : va_D (oA2 a b) (ofW cs a O ++ ofW cs b P) := by
  refine va_D.app ((of_D cs O hd.1).weaken (fun _ _ _ h => Or.inl h)) ((of_D cs P hd.2.1).weaken (fun _ _ _ h => Or.inr h)) (fun i j x y hx hy e => ?_)
  obtain ⟨h1, e1⟩ := of_ad cs a O i x hx
  obtain ⟨h2, e2⟩ := of_ad cs b P j y hy
  exact hd.2.2 i j h1 h2 (by rw [← e1, ← e2, e])
theorem pe_W {D : va_G} {cs : Nat → ClassId} {ws : va_W} {s : State} {H : Heap} {As : List Value} {b : Addr} {q0 ci : Nat} {C : String} {T : u_T} {N : Nat} {fs : List Value} (hP : va_P D vwC ws H) (hE : EV D cs s) (hc : vwC[ci]? = some (C, T, N)) (he : ws[q0]? = some (b, .inr (ci, fs))) : PreV s H C b (va_Pc (.ref b :: As) (PE D cs ws)) As := pe_V hP hE hc he
theorem pw {D : va_G} {ws : va_W} {t : State} {H : Heap} (ht : t.heap = H) (h : va_P D vwC ws H) : va_P D vwC ws t.heap := by rw [ht]; exact h
