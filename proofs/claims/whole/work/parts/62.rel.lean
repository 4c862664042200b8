/-! math: the class's office and the reference's row -/
def nS (r : Nat → Int32) : Nat := (r 0).toNatClampNeg
def nP (r : Nat → Int32) : Nat := (r 1).toNatClampNeg
def nW (r : Nat → Int32) : Nat := (r 2).toNatClampNeg
def IVc (r : Nat → Int32) : Prop := (0 ≤ (r 0).toInt ∧ (r 0).toInt ≤ 10) ∧ (0 ≤ (r 1).toInt ∧ (r 1).toInt ≤ 24) ∧ 0 ≤ (r 2).toInt ∧ (r 2).toInt ≤ 30
def IVd (d : Nat) (r : Nat → Int32) : Prop := (0 ≤ (r 3).toInt ∧ (r 3).toInt ≤ d) ∧ (0 ≤ (r 5).toInt ∧ (r 5).toInt ≤ 20) ∧ (0 ≤ (r 6).toInt ∧ (r 6).toInt ≤ 3) ∧ 0 ≤ (r 7).toInt ∧ (r 7).toInt ≤ 99
def IVb (r : Nat → Int32) : Prop := (∀ i, i < 32 → bt (r 8) i = true → i < nS r) ∧ ∀ i, i < 32 → bt (r 9) i = true → i < nP r
def IVs (r : Nat → Int32) : Prop := ∀ k, k < nS r → (-1 ≤ (r (10 + k)).toInt ∧ (r (10 + k)).toInt < k) ∧ (0 ≤ (r (20 + k)).toInt ∧ (r (20 + k)).toInt ≤ 99) ∧ ∀ f, f < 12 → 0 ≤ (r (30 + (12 * k + f))).toInt ∧ (r (30 + (12 * k + f))).toInt ≤ (r (20 + k)).toInt
def IVp (d : Nat) (r : Nat → Int32) : Prop := ∀ k, k < nP r → (0 ≤ (r (150 + k)).toInt ∧ (r (150 + k)).toInt < nS r) ∧ (0 ≤ (r (174 + k)).toInt ∧ (r (174 + k)).toInt ≤ (r (20 + (r (150 + k)).toNatClampNeg)).toInt) ∧ (∀ i, i < 32 → bt (r (246 + k)) i = true → i < 3) ∧ -1 ≤ (r (270 + k)).toInt ∧ (r (270 + k)).toInt ≤ d + 20
def IVw (r : Nat → Int32) : Prop := ∀ k, k < nW r → (0 ≤ (r (324 + k)).toInt ∧ (r (324 + k)).toInt < nS r) ∧ (0 ≤ (r (354 + k)).toInt ∧ (r (354 + k)).toInt < 12) ∧ 0 ≤ (r (384 + k)).toInt ∧ (r (384 + k)).toInt ≤ (r (20 + (r (324 + k)).toNatClampNeg)).toInt
def IV (d : Nat) (r : Nat → Int32) : Prop := IVc r ∧ IVd d r ∧ IVb r ∧ IVs r ∧ IVp d r ∧ IVw r
def ROc (O : OF) (r : Nat → Int32) : Prop := O.1 0 = r 0 ∧ O.1 1 = r 8 ∧ O.1 2 = r 1 ∧ O.1 3 = r 9 ∧ O.1 4 = r 2 ∧ O.1 5 = r 3 ∧ O.1 6 = r 4
def ROs (O : OF) (r : Nat → Int32) : Prop := ∀ k, k < nS r → O.2 5 k = r (10 + k) ∧ O.2 6 k = r (20 + k) ∧ ∀ f, f < 12 → O.2 7 (12 * k + f) = r (30 + (12 * k + f))
def ROp (O : OF) (r : Nat → Int32) : Prop := ∀ k, k < nP r → O.2 8 k = r (150 + k) ∧ O.2 9 k = r (174 + k) ∧ O.2 10 k = r (198 + k) ∧ O.2 11 k = r (222 + k) ∧ O.2 12 k = r (246 + k) ∧ O.2 13 k = r (270 + k)
def ROw (O : OF) (r : Nat → Int32) : Prop := ∀ k, k < nW r → O.2 14 k = r (294 + k) ∧ O.2 15 k = r (324 + k) ∧ O.2 16 k = r (354 + k) ∧ O.2 17 k = r (384 + k)
def RO (d : Nat) (O : OF) (r : Nat → Int32) : Prop := (ROc O r ∧ (∀ k, k < 3 → O.2 4 k = r (5 + k)) ∧ ROs O r ∧ ROp O r ∧ ROw O r) ∧ IV d r
/-! numbers -/
theorem i_of {x : Int32} {k : Nat} (h : x.toInt = k) : x = nI k := by
  refine Int32.toInt_inj.mp ?_
  have := x.toInt_lt
  rw [nI_toInt (by omega)]; exact h
theorem i_ex {x : Int32} (h : 0 ≤ x.toInt) : ∃ k : Nat, x = nI k ∧ (k : Int) = x.toInt ∧ k = x.toNatClampNeg := ⟨x.toInt.toNat, i_of (by omega), by omega, rfl⟩
theorem i_m1 {x : Int32} (h : x.toInt = -1) : x = -1 := Int32.toInt_inj.mp h
theorem bool_iff {a b : Bool} (h : a = true ↔ b = true) : a = b := by
  cases a <;> cases b <;> simp_all
theorem in_iff (p a b : Int64) : sX8_in p a b = true ↔ a.toInt ≤ p.toInt ∧ p.toInt ≤ b.toInt := by
  refine ⟨in_t, fun h => ?_⟩
  unfold sX8_in
  have h1 : ¬ lg_cmp p a < 0 := by
    unfold lg_cmp
    by_cases c1 : p > a
    · rw [if_pos c1]; decide
    · rw [if_neg c1]
      by_cases c2 : p = a
      · rw [if_pos c2]; decide
      · exfalso
        have h2 : p.toInt ≠ a.toInt := fun e => c2 (Int64.toInt_inj.mp e)
        exact c1 (Int64.lt_iff_toInt_lt.mpr (by omega))
  have h2 : ¬ 0 < lg_cmp p b := by
    unfold lg_cmp
    by_cases c1 : p > b
    · exfalso
      have := Int64.lt_iff_toInt_lt.mp c1
      omega
    · rw [if_neg c1]
      by_cases c2 : p = b
      · rw [if_pos c2]; decide
      · rw [if_neg c2]; decide
  rw [if_neg h1, if_neg h2]
theorem in_iff32 (x : Int32) (a b : Int64) : sX8_in x.toInt64 a b = true ↔ a.toInt ≤ x.toInt ∧ x.toInt ≤ b.toInt := by
  rw [in_iff, Int32.toInt_toInt64]
theorem cl_iff (x a b : Int32) : (if x < a then false else (if b ≤ x then false else true)) = true ↔ a.toInt ≤ x.toInt ∧ x.toInt < b.toInt := by
  by_cases h1 : x < a
  · rw [if_pos h1]
    have := i32_lt.mp h1
    exact ⟨fun h => (nomatch h), fun h => by omega⟩
  · rw [if_neg h1]
    have h3 : ¬ x.toInt < a.toInt := fun q => h1 (i32_lt.mpr q)
    by_cases h2 : b ≤ x
    · rw [if_pos h2]
      have := i32_le.mp h2
      exact ⟨fun h => (nomatch h), fun h => by omega⟩
    · rw [if_neg h2]
      have h4 : ¬ b.toInt ≤ x.toInt := fun q => h2 (i32_le.mpr q)
      exact ⟨fun _ => by omega, fun _ => rfl⟩
theorem cl_iff2 (x a b : Int32) : (if x < a then false else (if b < x then false else true)) = true ↔ a.toInt ≤ x.toInt ∧ x.toInt ≤ b.toInt := by
  by_cases h1 : x < a
  · rw [if_pos h1]
    have := i32_lt.mp h1
    exact ⟨fun h => (nomatch h), fun h => by omega⟩
  · rw [if_neg h1]
    have h3 : ¬ x.toInt < a.toInt := fun q => h1 (i32_lt.mpr q)
    by_cases h2 : b < x
    · rw [if_pos h2]
      have := i32_lt.mp h2
      exact ⟨fun h => (nomatch h), fun h => by omega⟩
    · rw [if_neg h2]
      have h4 : ¬ b.toInt < x.toInt := fun q => h2 (i32_lt.mpr q)
      exact ⟨fun _ => by omega, fun _ => rfl⟩
theorem q_isField (x : Int32) : sX7_isField x = sX8_isField x := bool_iff ((cl_iff x 0 12).trans (by
  unfold sX8_isField; rw [in_iff32]
  have e1 : (12 : Int32).toInt = 12 := rfl
  have e2 : (11 : Int64).toInt = 11 := rfl
  have e3 : (0 : Int32).toInt = 0 := rfl
  have e4 : (0 : Int64).toInt = 0 := rfl
  omega))
theorem q_isSite (x : Int32) : sX7_isSite x = sX8_isSite x := bool_iff ((cl_iff x 0 4).trans (by
  unfold sX8_isSite; rw [in_iff32]
  have e1 : (4 : Int32).toInt = 4 := rfl
  have e2 : (3 : Int64).toInt = 3 := rfl
  have e3 : (0 : Int32).toInt = 0 := rfl
  have e4 : (0 : Int64).toInt = 0 := rfl
  omega))
theorem q_isCloud (x : Int32) : sX7_isCloud x = sX8_isCloud x := bool_iff ((cl_iff2 x 1 4095).trans (by
  unfold sX8_isCloud; rw [in_iff32]
  have e1 : (4095 : Int32).toInt = 4095 := rfl
  have e2 : (4095 : Int64).toInt = 4095 := rfl
  have e3 : (1 : Int32).toInt = 1 := rfl
  have e4 : (1 : Int64).toInt = 1 := rfl
  omega))
theorem q_isDays (x : Int32) : sX7_isDays x = sX8_in x.toInt64 1 30 := bool_iff ((cl_iff2 x 1 30).trans (by
  rw [in_iff32]
  have e1 : (30 : Int32).toInt = 30 := rfl
  have e2 : (30 : Int64).toInt = 30 := rfl
  have e3 : (1 : Int32).toInt = 1 := rfl
  have e4 : (1 : Int64).toInt = 1 := rfl
  omega))
theorem q_isSlot (x : Int32) : sX7_isSlot x = sX8_in x.toInt64 0 1 := bool_iff ((cl_iff x 0 2).trans (by
  rw [in_iff32]
  have e1 : (2 : Int32).toInt = 2 := rfl
  have e2 : (1 : Int64).toInt = 1 := rfl
  have e3 : (0 : Int32).toInt = 0 := rfl
  have e4 : (0 : Int64).toInt = 0 := rfl
  omega))
theorem q_isSetting (x : Int32) : sX7_isSetting x = sX8_in x.toInt64 0 2 := bool_iff ((cl_iff x 0 3).trans (by
  rw [in_iff32]
  have e1 : (3 : Int32).toInt = 3 := rfl
  have e2 : (2 : Int64).toInt = 2 := rfl
  have e3 : (0 : Int32).toInt = 0 := rfl
  have e4 : (0 : Int64).toInt = 0 := rfl
  omega))
/-- 'in' of an int, by its ends -/
theorem in_no {x : Int32} {a b : Int64} (h : sX8_in x.toInt64 a b = false) : x.toInt < a.toInt ∨ b.toInt < x.toInt := by
  rcases Int.lt_or_le x.toInt a.toInt with h1 | h1
  · exact Or.inl h1
  · rcases Int.lt_or_le b.toInt x.toInt with h2 | h2
    · exact Or.inr h2
    · rw [(in_iff32 x a b).mpr ⟨h1, h2⟩] at h; exact nomatch h
theorem field_of {x : Int32} (h : sX8_isField x = true) : ∃ f, f < 12 ∧ x = nI f := by
  have h1 := (in_iff32 x 0 11).mp h
  have e2 : (11 : Int64).toInt = 11 := rfl
  have e4 : (0 : Int64).toInt = 0 := rfl
  obtain ⟨k, a, b, -⟩ := i_ex (x := x) (by omega)
  exact ⟨k, by omega, a⟩
/-! sizes -/
section
variable {r : Nat → Int32} (hc : IVc r)
theorem nS_le (hc : IVc r) : nS r ≤ 10 := by have h := hc.1; unfold nS; rw [cl_eq]; omega
theorem nP_le (hc : IVc r) : nP r ≤ 24 := by have h := hc.2.1; unfold nP; rw [cl_eq]; omega
theorem nW_le (hc : IVc r) : nW r ≤ 30 := by have h := hc.2.2; unfold nW; rw [cl_eq]; omega
theorem nS_i (hc : IVc r) : (nS r : Int) = (r 0).toInt := by have h := hc.1; unfold nS; rw [cl_eq]; omega
theorem nP_i (hc : IVc r) : (nP r : Int) = (r 1).toInt := by have h := hc.2.1; unfold nP; rw [cl_eq]; omega
theorem nW_i (hc : IVc r) : (nW r : Int) = (r 2).toInt := by have h := hc.2.2; unfold nW; rw [cl_eq]; omega
theorem nS_e (hc : IVc r) : r 0 = nI (nS r) := i_of (nS_i hc).symm
theorem nP_e (hc : IVc r) : r 1 = nI (nP r) := i_of (nP_i hc).symm
theorem nW_e (hc : IVc r) : r 2 = nI (nW r) := i_of (nW_i hc).symm
theorem nS_lt (hc : IVc r) : nS r < 2 ^ 31 := by have := nS_le hc; omega
theorem nP_lt (hc : IVc r) : nP r < 2 ^ 31 := by have := nP_le hc; omega
theorem nW_lt (hc : IVc r) : nW r < 2 ^ 31 := by have := nW_le hc; omega
theorem hasS_iff (hc : IVc r) (x : Int32) : sX8_hasSheet r x = true ↔ 0 ≤ x.toInt ∧ x.toInt < nS r := by
  unfold sX8_hasSheet
  rw [in_iff32, show r (0 : Int32).toNatClampNeg = r 0 from rfl, less1 hc.1.1, nS_i hc]
  have e4 : (0 : Int64).toInt = 0 := rfl
  omega
theorem hasP_iff (hc : IVc r) (x : Int32) : sX8_hasPrint r x = true ↔ 0 ≤ x.toInt ∧ x.toInt < nP r := by
  unfold sX8_hasPrint
  rw [in_iff32, show r (1 : Int32).toNatClampNeg = r 1 from rfl, less1 hc.2.1.1, nP_i hc]
  have e4 : (0 : Int64).toInt = 0 := rfl
  omega
theorem hasW_iff (hc : IVc r) (x : Int32) : sX8_hasWork r x = true ↔ 0 ≤ x.toInt ∧ x.toInt < nW r := by
  unfold sX8_hasWork
  rw [in_iff32, show r (2 : Int32).toNatClampNeg = r 2 from rfl, less1 hc.2.2.1, nW_i hc]
  have e4 : (0 : Int64).toInt = 0 := rfl
  omega
theorem hasS_of (hc : IVc r) {x : Int32} (h : sX8_hasSheet r x = true) : ∃ k, k < nS r ∧ x = nI k := by
  have h1 := (hasS_iff hc x).mp h
  obtain ⟨k, a, b, -⟩ := i_ex h1.1
  exact ⟨k, by omega, a⟩
theorem hasP_of (hc : IVc r) {x : Int32} (h : sX8_hasPrint r x = true) : ∃ k, k < nP r ∧ x = nI k := by
  have h1 := (hasP_iff hc x).mp h
  obtain ⟨k, a, b, -⟩ := i_ex h1.1
  exact ⟨k, by omega, a⟩
theorem hasW_of (hc : IVc r) {x : Int32} (h : sX8_hasWork r x = true) : ∃ k, k < nW r ∧ x = nI k := by
  have h1 := (hasW_iff hc x).mp h
  obtain ⟨k, a, b, -⟩ := i_ex h1.1
  exact ⟨k, by omega, a⟩
theorem hasS_nI (hc : IVc r) {k : Nat} (h : k < nS r) : sX8_hasSheet r (nI k) = true := (hasS_iff hc _).mpr (by have := nS_le hc; rw [nI_toInt (by omega)]; omega)
theorem hasP_nI (hc : IVc r) {k : Nat} (h : k < nP r) : sX8_hasPrint r (nI k) = true := (hasP_iff hc _).mpr (by have := nP_le hc; rw [nI_toInt (by omega)]; omega)
theorem hasW_nI (hc : IVc r) {k : Nat} (h : k < nW r) : sX8_hasWork r (nI k) = true := (hasW_iff hc _).mpr (by have := nW_le hc; rw [nI_toInt (by omega)]; omega)
end
theorem cl3_iff (x b c : Int32) (hbc : b.toInt ≤ c.toInt) : (if x < 0 then false else (if b ≤ x then false else (if c ≤ x then false else true))) = true ↔ 0 ≤ x.toInt ∧ x.toInt < b.toInt := by
  have h := cl_iff x 0 b
  have e3 : (0 : Int32).toInt = 0 := rfl
  rw [e3] at h
  rw [← h]
  by_cases h1 : x < 0
  · rw [if_pos h1, if_pos h1]
  · rw [if_neg h1, if_neg h1]
    by_cases h2 : b ≤ x
    · rw [if_pos h2, if_pos h2]
    · have h3 : ¬ c ≤ x := fun q => h2 (i32_le.mpr (by have := i32_le.mp q; omega))
      rw [if_neg h2, if_neg h2, if_neg h3]
/-! places in a row -/
theorem ix (a p : Nat) (h : a + p < 2 ^ 31) : (nI a + nI p).toNatClampNeg = a + p := by rw [nI_add, nI_clamp h]
theorem ix5 {p : Nat} (h : p < 1000) : ((5 : Int32) + nI p).toNatClampNeg = 5 + p := ix 5 p (by omega)
theorem ix10 {p : Nat} (h : p < 1000) : ((10 : Int32) + nI p).toNatClampNeg = 10 + p := ix 10 p (by omega)
theorem ix20 {p : Nat} (h : p < 1000) : ((20 : Int32) + nI p).toNatClampNeg = 20 + p := ix 20 p (by omega)
theorem ix150 {p : Nat} (h : p < 1000) : ((150 : Int32) + nI p).toNatClampNeg = 150 + p := ix 150 p (by omega)
theorem ix174 {p : Nat} (h : p < 1000) : ((174 : Int32) + nI p).toNatClampNeg = 174 + p := ix 174 p (by omega)
theorem ix198 {p : Nat} (h : p < 1000) : ((198 : Int32) + nI p).toNatClampNeg = 198 + p := ix 198 p (by omega)
theorem ix222 {p : Nat} (h : p < 1000) : ((222 : Int32) + nI p).toNatClampNeg = 222 + p := ix 222 p (by omega)
theorem ix246 {p : Nat} (h : p < 1000) : ((246 : Int32) + nI p).toNatClampNeg = 246 + p := ix 246 p (by omega)
theorem ix270 {p : Nat} (h : p < 1000) : ((270 : Int32) + nI p).toNatClampNeg = 270 + p := ix 270 p (by omega)
theorem ix294 {p : Nat} (h : p < 1000) : ((294 : Int32) + nI p).toNatClampNeg = 294 + p := ix 294 p (by omega)
theorem ix324 {p : Nat} (h : p < 1000) : ((324 : Int32) + nI p).toNatClampNeg = 324 + p := ix 324 p (by omega)
theorem ix354 {p : Nat} (h : p < 1000) : ((354 : Int32) + nI p).toNatClampNeg = 354 + p := ix 354 p (by omega)
theorem ix384 {p : Nat} (h : p < 1000) : ((384 : Int32) + nI p).toNatClampNeg = 384 + p := ix 384 p (by omega)
theorem ixN {p : Nat} (h : p < 1000) : (nI p).toNatClampNeg = p := nI_clamp (by omega)
theorem ixF {s f : Nat} (hs : s < 1000) (hf : f < 1000) : ((30 : Int32) + 12 * nI s + nI f).toNatClampNeg = 30 + (12 * s + f) := by
  have e : (30 : Int32) + 12 * nI s + nI f = nI (30 + 12 * s + f) := by
    show nI 30 + nI 12 * nI s + nI f = _
    rw [pk_mul, nI_add, nI_add]
  rw [e, nI_clamp (by omega)]
  omega
theorem ixG {s f : Nat} (hs : s < 1000) (hf : f < 1000) : (nI s * 12 + nI f).toNatClampNeg = 12 * s + f := by
  have e : nI s * 12 + nI f = nI (s * 12 + f) := by
    show nI s * nI 12 + nI f = _
    rw [pk_mul, nI_add]
  rw [e, nI_clamp (by omega)]
  omega
/-! what the class's readers answer, in the row's words -/
section
variable {d : Nat} {O : OF} {r : Nat → Int32} (h : RO d O r)
theorem q_hasS (h : RO d O r) (x : Int32) : sX4_has O x = sX8_hasSheet r x := by
  refine bool_iff (Iff.trans ?_ (hasS_iff h.2.1 x).symm)
  unfold sX4_has
  have e := h.1.1.1
  have e10 : (10 : Int32).toInt = 10 := rfl
  have := h.2.1.1
  rw [e, cl3_iff x _ _ (by omega), nS_i h.2.1]
theorem q_hasP (h : RO d O r) (x : Int32) : sX3_has O x = sX8_hasPrint r x := by
  refine bool_iff (Iff.trans ?_ (hasP_iff h.2.1 x).symm)
  unfold sX3_has
  have e := h.1.1.2.2.1
  have e10 : (24 : Int32).toInt = 24 := rfl
  have := h.2.1.2.1
  rw [e, cl3_iff x _ _ (by omega), nP_i h.2.1]
theorem q_hasW (h : RO d O r) (x : Int32) : sX6_has O x = sX8_hasWork r x := by
  refine bool_iff (Iff.trans ?_ (hasW_iff h.2.1 x).symm)
  unfold sX6_has
  have e := h.1.1.2.2.2.2.1
  have e10 : (30 : Int32).toInt = 30 := rfl
  have := h.2.1.2.2
  rw [e, cl3_iff x _ _ (by omega), nW_i h.2.1]
theorem RO.c (h : RO d O r) : IVc r := h.2.1
theorem q_parent (h : RO d O r) {k : Nat} (hk : k < nS r) : sX4_parentOf O (nI k) = r (10 + k) := by
  have := nS_le h.c
  unfold sX4_parentOf
  rw [q_hasS h, if_pos (hasS_nI h.c hk), ixN (by omega)]
  exact (h.1.2.2.1 k hk).1
theorem q_rev (h : RO d O r) {k : Nat} (hk : k < nS r) : sX4_revisionOf O (nI k) = r (20 + k) := by
  have := nS_le h.c
  unfold sX4_revisionOf
  rw [q_hasS h, if_pos (hasS_nI h.c hk), ixN (by omega)]
  exact (h.1.2.2.1 k hk).2.1
theorem q_drawn (h : RO d O r) {k f : Nat} (hk : k < nS r) (hf : f < 12) : sX4_drawnOf O (nI k) (nI f) = r (30 + (12 * k + f)) := by
  have := nS_le h.c
  have hF : sX7_isField (nI f) = true := by
    rw [q_isField]
    refine (in_iff32 _ 0 11).mpr ?_
    rw [nI_toInt (by omega)]
    have e2 : (11 : Int64).toInt = 11 := rfl
    have e4 : (0 : Int64).toInt = 0 := rfl
    omega
  unfold sX4_drawnOf
  rw [q_hasS h, if_pos (hasS_nI h.c hk), if_pos hF, ixG (by omega) (by omega)]
  exact (h.1.2.2.1 k hk).2.2 f hf
theorem q_sheetP (h : RO d O r) {k : Nat} (hk : k < nP r) : sX3_sheetOf O (nI k) = r (150 + k) := by
  have := nP_le h.c
  unfold sX3_sheetOf
  rw [q_hasP h, if_pos (hasP_nI h.c hk), ixN (by omega)]
  exact (h.1.2.2.2.1 k hk).1
theorem q_revP (h : RO d O r) {k : Nat} (hk : k < nP r) : sX3_revisionOf O (nI k) = r (174 + k) := by
  have := nP_le h.c
  unfold sX3_revisionOf
  rw [q_hasP h, if_pos (hasP_nI h.c hk), ixN (by omega)]
  exact (h.1.2.2.2.1 k hk).2.1
theorem q_siteP (h : RO d O r) {k : Nat} (hk : k < nP r) : sX3_siteOf O (nI k) = r (198 + k) := by
  have := nP_le h.c
  unfold sX3_siteOf
  rw [q_hasP h, if_pos (hasP_nI h.c hk), ixN (by omega)]
  exact (h.1.2.2.2.1 k hk).2.2.1
theorem q_dayP (h : RO d O r) {k : Nat} (hk : k < nP r) : sX3_dayOf O (nI k) = r (222 + k) := by
  have := nP_le h.c
  unfold sX3_dayOf
  rw [q_hasP h, if_pos (hasP_nI h.c hk), ixN (by omega)]
  exact (h.1.2.2.2.1 k hk).2.2.2.1
theorem q_stampsP (h : RO d O r) {k : Nat} (hk : k < nP r) : sX3_stampsOf O (nI k) = r (246 + k) := by
  have := nP_le h.c
  unfold sX3_stampsOf
  rw [q_hasP h, if_pos (hasP_nI h.c hk), ixN (by omega)]
  exact (h.1.2.2.2.1 k hk).2.2.2.2.1
theorem q_dueP (h : RO d O r) {k : Nat} (hk : k < nP r) : sX3_dueOf O (nI k) = r (270 + k) := by
  have := nP_le h.c
  unfold sX3_dueOf
  rw [q_hasP h, if_pos (hasP_nI h.c hk), ixN (by omega)]
  exact (h.1.2.2.2.1 k hk).2.2.2.2.2
theorem q_siteW (h : RO d O r) {k : Nat} (hk : k < nW r) : sX6_siteOf O (nI k) = r (294 + k) := by
  have := nW_le h.c
  unfold sX6_siteOf
  rw [q_hasW h, if_pos (hasW_nI h.c hk), ixN (by omega)]
  exact (h.1.2.2.2.2 k hk).1
theorem q_sheetW (h : RO d O r) {k : Nat} (hk : k < nW r) : sX6_sheetOf O (nI k) = r (324 + k) := by
  have := nW_le h.c
  unfold sX6_sheetOf
  rw [q_hasW h, if_pos (hasW_nI h.c hk), ixN (by omega)]
  exact (h.1.2.2.2.2 k hk).2.1
theorem q_fieldW (h : RO d O r) {k : Nat} (hk : k < nW r) : sX6_fieldOf O (nI k) = r (354 + k) := by
  have := nW_le h.c
  unfold sX6_fieldOf
  rw [q_hasW h, if_pos (hasW_nI h.c hk), ixN (by omega)]
  exact (h.1.2.2.2.2 k hk).2.2.1
theorem q_revW (h : RO d O r) {k : Nat} (hk : k < nW r) : sX6_revisionOf O (nI k) = r (384 + k) := by
  have := nW_le h.c
  unfold sX6_revisionOf
  rw [q_hasW h, if_pos (hasW_nI h.c hk), ixN (by omega)]
  exact (h.1.2.2.2.2 k hk).2.2.2
theorem q_isOut (h : RO d O r) (x : Int32) : sX3_isOut O x = sX8_isOut r x := by
  unfold sX3_isOut sX8_isOut
  rw [isIn_has, h.1.1.2.2.2.1]
  rfl
theorem q_toCheck (h : RO d O r) (x : Int32) : sX4_isToCheck O x = sX8_has (r 8) x := by
  unfold sX4_isToCheck
  rw [isIn_has, h.1.1.2.1]
theorem out_bt (r : Nat → Int32) {k : Nat} (hk : k < 32) : sX8_isOut r (nI k) = bt (r 9) k := has_bt (r 9) hk
theorem rec_e (r : Nat → Int32) {k : Nat} (hk : k < 1000) : sX8_isRecalled r (nI k) = !decide (r (270 + k) = -1) := by
  unfold sX8_isRecalled
  rw [ix270 hk]
  by_cases e : r (270 + k) = -1
  · rw [if_pos e, decide_eq_true e]; rfl
  · rw [if_neg e, decide_eq_false e]; rfl
theorem q_onr (h : RO d O r) {k : Nat} (hk : k < nP r) : sX3_isOutNotRecalled O (nI k) = (sX8_isOut r (nI k) && !sX8_isRecalled r (nI k)) := by
  have := nP_le h.c
  unfold sX3_isOutNotRecalled
  rw [q_isOut h, q_dueP h hk, rec_e r (by omega)]
  cases sX8_isOut r (nI k)
  · rfl
  · by_cases e : r (270 + k) = -1
    · simp [e]
    · simp [e]
theorem q_oar (h : RO d O r) {k : Nat} (hk : k < nP r) : sX3_isOutAndRecalled O (nI k) = (sX8_isOut r (nI k) && sX8_isRecalled r (nI k)) := by
  have := nP_le h.c
  unfold sX3_isOutAndRecalled
  rw [q_isOut h, q_dueP h hk, rec_e r (by omega)]
  cases sX8_isOut r (nI k)
  · rfl
  · by_cases e : r (270 + k) = -1
    · simp [e]
    · simp [e]
theorem q_stampCount (h : RO d O r) {k : Nat} (hk : k < nP r) : sJ6_bitCount_0f7a4 (r (246 + k)) = sX8_many (r (246 + k)) := bc_many (fun i hi hb => by have := (h.2.2.2.2.2.1 k hk).2.2.1 i hi hb; omega)
theorem ofP (h : RO d O r) {k : Nat} (hk : k < nP r) : ∃ s, s < nS r ∧ r (150 + k) = nI s := by
  have h1 := (h.2.2.2.2.2.1 k hk).1
  obtain ⟨s, a, b, -⟩ := i_ex h1.1
  exact ⟨s, by omega, a⟩
theorem ofW' (h : RO d O r) {k : Nat} (hk : k < nW r) : (∃ s, s < nS r ∧ r (324 + k) = nI s) ∧ ∃ f, f < 12 ∧ r (354 + k) = nI f := by
  have h1 := h.2.2.2.2.2.2 k hk
  obtain ⟨s, a, b, -⟩ := i_ex h1.1.1
  obtain ⟨f, a2, b2, -⟩ := i_ex h1.2.1.1
  exact ⟨⟨s, by omega, a⟩, f, by omega, a2⟩
theorem q_mayBuild (h : RO d O r) {k : Nat} (hk : k < nP r) : sX1_mayBuildBy O (nI k) = sX8_mayBuild r (nI k) := by
  have := nP_le h.c
  have e6 : O.2 4 (1 : Int32).toNatClampNeg = r (6 : Int32).toNatClampNeg := h.1.2.1 1 (by decide)
  unfold sX1_mayBuildBy sX8_mayBuild
  rw [q_onr h hk, q_stampsP h hk, q_stampCount h hk, q_sheetP h hk, q_toCheck h, e6, ix246 (by omega), ix150 (by omega)]
  cases sX8_isOut r (nI k)
  · rfl
  · cases sX8_isRecalled r (nI k)
    · rfl
    · rfl
theorem q_isWrong (h : RO d O r) {k : Nat} (hk : k < nW r) : sX1_isWrong O (nI k) = sX8_isWrong r (nI k) := by
  have := nW_le h.c
  have hs10 := nS_le h.c
  obtain ⟨⟨s, hs, es⟩, f, hf, ef⟩ := ofW' h hk
  unfold sX1_isWrong sX8_isWrong
  rw [q_sheetW h hk, q_fieldW h hk, q_revW h hk, ix324 (by omega), ix354 (by omega), ix384 (by omega), es, ef, q_drawn h hs hf, ixF (by omega) (by omega)]
end
