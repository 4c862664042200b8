/-! what the law's walk asks of the tied states -/
theorem iv_mv {d : Nat} {r : Nat → Int32} (h : IV d r) : MV r := by
  obtain ⟨hc, hd, hb, hs, hp, hw⟩ := h
  have e0 := nS_i hc
  have e1 : (nP r : Int) = (r 1).toInt := by have h := hc.2.1; unfold nP; rw [cl_eq]; omega
  have e2 : (nW r : Int) = (r 2).toInt := by have h := hc.2.2; unfold nW; rw [cl_eq]; omega
  refine ⟨hc.1, hc.2.1, hc.2.2, fun k hk => ?_, fun k hk => ?_, fun k hk => ?_⟩
  · exact (hs k (by omega)).1
  · have h := (hp k (by omega)).1
    exact ⟨h.1, by omega⟩
  · have h := hw k (by omega)
    exact ⟨⟨h.1.1, by omega⟩, h.2.1⟩
section
variable {d : Nat} {Os : Nat → OF} {T : OF} {M : MS}
theorem SR.mv (h : SR d Os T M) : MV (M.1.2 1) := iv_mv h.1.2
theorem SR.h0 (h : SR d Os T M) : vp_in (M.1.1 1) 15 := by
  obtain ⟨n, c, h1, h2, h3, h4, h5, h6⟩ := h.2.2.1
  rw [h5]; exact vp_in_nI (by omega) (by decide)
theorem SR.hn (h : SR d Os T M) : vp_in (T.1 4) 15 := by
  obtain ⟨n, c, h1, h2, h3, h4, h5, h6⟩ := h.2.2.1
  rw [h3]; exact vp_in_nI (by omega) (by decide)
theorem SR.hln (h : SR d Os T M) : 0 ≤ (M.1.1 2).toInt ∧ (M.1.1 2).toInt ≤ 120 := by rw [h.2.1.2.1]; exact h.2.1.1
theorem SR.hl0 (h : SR d Os T M) : vp_in (M.1.1 2) 121 := vp_in_iff.mpr ⟨h.hln.1, by have := h.hln.2; omega⟩
end
/-- the states that the two constructors leave are tied -/
theorem msI_1 : msI.1.2 1 = sX8_fresh (fun _ => 0) := by
  unfold msI msA stA
  generalize sX8_fresh (fun _ => 0) = f
  rfl
theorem msI_s (k : Nat) : msI.1.1 k = 0 := by
  unfold msI msA stA
  generalize sX8_fresh (fun _ => 0) = f
  rfl
theorem msI_6 (k : Nat) : msI.1.2 6 k = 0 := by
  unfold msI msA stA
  generalize sX8_fresh (fun _ => 0) = f
  rfl
theorem i0_toInt : (0 : Int32).toInt = 0 := rfl
theorem sr_first (d : Nat) : SR d (fun _ => ofI) ofZ msI := by
  refine ⟨?_, ⟨?_, ?_, ?_⟩, ⟨0, 0, by decide, by decide, rfl, rfl, ?_, fun j hj => absurd hj (Nat.not_lt_zero j)⟩, fun s hs => ?_⟩
  · have h := (ro_fresh ofZ (fun _ => 0)).mono (Nat.zero_le d)
    rw [← msI_1] at h
    exact h
  · show 0 ≤ (0 : Int32).toInt ∧ (0 : Int32).toInt ≤ 120
    rw [i0_toInt]; omega
  · rw [msI_s]; rfl
  · intro k hk
    have hk : (k : Int) < (0 : Int32).toInt := hk
    rw [i0_toInt] at hk; omega
  · rw [msI_s]; rfl
  · have h0 : bt (ofZ.1 5) s = false := by
      show bt (0 : Int32) s = false
      rcases (show s = 0 ∨ s = 1 by omega) with rfl | rfl <;> decide +kernel
    exact ⟨by rw [h0, msI_6]; rfl, fun h => absurd (h0.symm.trans h) (by decide)⟩
theorem updL_s (g : Nat → Int64) (k : Nat) (x : Int64) : vp_updL g k x k = x := if_pos rfl
theorem okf_0 {hs : List Nat} {d : Nat} {v : Nat × Int32 × TSt} {w : Int32 × MS} {k : Nat} (hk : hs = [k]) (h : OKF hs d v w) : v.1 = 0 ∨ v.1 = k := by
  subst hk
  rcases h.1 with h | h
  · exact Or.inl h.1
  · exact Or.inr (List.mem_singleton.mp h.1)
theorem okf_2 {hs : List Nat} {d : Nat} {v : Nat × Int32 × TSt} {w : Int32 × MS} {k j : Nat} (hk : hs = [k, j]) (h : OKF hs d v w) : v.1 = 0 ∨ v.1 = k ∨ v.1 = j := by
  subst hk
  rcases h.1 with h | h
  · exact Or.inl h.1
  · exact Or.inr (by simpa using h.1)
theorem okf_3 {hs : List Nat} {d : Nat} {v : Nat × Int32 × TSt} {w : Int32 × MS} {k j i : Nat} (hk : hs = [k, j, i]) (h : OKF hs d v w) : v.1 = 0 ∨ v.1 = k ∨ v.1 = j ∨ v.1 = i := by
  subst hk
  rcases h.1 with h | h
  · exact Or.inl h.1
  · exact Or.inr (by simpa using h.1)
/-- what a wrapper answers, against what the reference answers -/
theorem okf_w {hs : List Nat} {d : Nat} {v : Nat × Int32 × TSt} {w : Int32 × MS} (g : Nat → Int64) (hl : hs.length ≤ 3) (h : OKF hs d v w) : (wr hs v g).1 = sX8_thrown w.2 ∧ ((wr hs v g).1 = 0 → (wr hs v g).2.2 (0 : Int32).toNatClampNeg = w.1.toInt64) ∧ SR d (wr hs v g).2.1.1 (wr hs v g).2.1.2 w.2 := by
  rcases h.1 with ⟨h1, h2, h3⟩ | ⟨h1, h2, h3⟩
  · rw [wr_0 h1]
    refine ⟨h2.symm, fun _ => ?_, h.2⟩
    rw [← h3]
    exact updL_s g (0 : Int32).toNatClampNeg v.2.1.toInt64
  · have e : wr hs v g = (nI (hs.idxOf v.1 + 1), v.2.2, g) := if_neg h2
    rw [e]
    refine ⟨h3.symm, fun hz => ?_, h.2⟩
    exfalso
    have h9 : hs.idxOf v.1 < hs.length := List.idxOf_lt_length_of_mem h1
    have h7 : (nI (hs.idxOf v.1 + 1)).toInt = (0 : Int32).toInt := congrArg Int32.toInt hz
    rw [nI_toInt (by omega)] at h7
    have h6 : (0 : Int32).toInt = 0 := rfl
    omega
