theorem copy_at (r r2 : Nat → Int32) : ∀ k : Nat, k < 414 → sX8_copy r r2 k = r2 k := by
  have h : ∀ (n : Nat) (x2 : Int32) (O9 : Nat → Int32), ¬ x2 < 0 → upM 414 x2 < n → (∀ k : Nat, k < x2.toNatClampNeg → k < 414 → O9 k = r2 k) → ∀ k : Nat, k < 414 → LX8_copy_2 r r2 n x2 O9 k = r2 k := by
    intro n
    induction n with
    | zero => intro x2 O9 _ hm; exact absurd hm (Nat.not_lt_zero _)
    | succ n ih =>
      intro x2 O9 i0 hm h k hk
      rw [LX8_copy_2_eq]
      by_cases c : 414 ≤ x2
      · rw [if_pos c]
        refine h k ?_ hk
        have h1 : (414 : Int32).toInt ≤ x2.toInt := i32_le.mp c
        have e1 : (414 : Int32).toInt = 414 := rfl
        rw [cl_eq]
        omega
      · rw [if_neg c]
        have h3 : vp_in x2 414 := vp_a rfl i0 c
        have h4 := cl_in h3
        have h5 : (x2 + 1).toNatClampNeg = x2.toNatClampNeg + 1 := by
          have e1 : (1 : Int32).toInt = 1 := rfl
          rw [cl_eq, Int32.toInt_add, e1, h4.1, Int.bmod_eq_of_le (by omega) (by omega)]
          omega
        refine ih _ _ ?_ ?_ ?_ k hk
        · exact nn_inc i0 c
        · exact upM_s c hm
        intro k' hk' h6
        rw [h5] at hk'
        by_cases e : k' = x2.toNatClampNeg
        · unfold upd; rw [if_pos e, e]
        · rw [up_ne e]; exact h k' (by omega) h6
  intro k hk
  unfold sX8_copy
  refine h _ _ _ ?_ ?_ ?_ k hk
  · decide
  · exact Nat.lt_succ_self _
  · intro k' hk' _
    have e0 : (0 : Int32).toNatClampNeg = 0 := rfl
    rw [e0] at hk'
    omega
theorem MV_copy {r r2 : Nat → Int32} (h : MV r2) : MV (sX8_copy r r2) := by
  obtain ⟨h1, h2, h3, h4, h5, h6⟩ := h
  have e := copy_at r r2
  unfold MV
  rw [e 0 (by omega), e 1 (by omega), e 2 (by omega)]
  refine ⟨h1, h2, h3, fun k hk => ?_, fun k hk => ?_, fun k hk => ?_⟩
  · rw [e (10 + k) (by omega)]; exact h4 k hk
  · rw [e (150 + k) (by omega)]; exact h5 k hk
  · rw [e (324 + k) (by omega), e (354 + k) (by omega)]; exact h6 k hk
theorem cp_le {r r2 : Nat → Int32} (h : MV r2) : (sX8_copy r r2 1).toInt ≤ 24 := by
  rw [copy_at r r2 1 (by decide)]; exact h.2.1.2
