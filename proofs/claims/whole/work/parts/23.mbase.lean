/-! the reference: a row of 414 ints, what holds of it, places in it -/
def rowW (cs : Nat → ClassId) (q : Nat) (r : Nat → Int32) : va_W := [(q, .inl (cs 0, 414, .inl r))]
def rA (q : Nat) : Nat → Prop := fun x => x = q
theorem row_D (cs : Nat → ClassId) (q : Nat) (r : Nat → Int32) : va_D (rA q) (rowW cs q r) := by
  refine ⟨fun i j x y hx hy _ => ?_, fun k x h => ?_⟩
  · match i, j, hx, hy with
    | 0, 0, _, _ => rfl
    | 0, j + 1, _, hy => simp [rowW] at hy
    | i + 1, _, hx, _ => simp [rowW] at hx
  · match k, h with
    | 0, h => cases h; rfl
    | k + 1, h => simp [rowW] at h
theorem row2_D (cs : Nat → ClassId) {q q2 : Nat} (r r2 : Nat → Int32) (hd : q ≠ q2) : va_D (fun x => x = q ∨ x = q2) (rowW cs q r ++ rowW cs q2 r2) := by
  refine va_D.app ((row_D cs q r).weaken (fun _ _ _ h => Or.inl h)) ((row_D cs q2 r2).weaken (fun _ _ _ h => Or.inr h)) (fun i j x y hx hy e => ?_)
  have h1 := (row_D cs q r).2 i x hx
  have h2 := (row_D cs q2 r2).2 j y hy
  exact hd (by rw [← h1, ← h2, e])
theorem cl_eq (x : Int32) : x.toNatClampNeg = x.toInt.toNat := rfl
theorem cl_in {x : Int32} {n : Nat} (h : vp_in x n) : x.toInt = (x.toNatClampNeg : Int) ∧ x.toNatClampNeg < n := by
  obtain ⟨h1, h2⟩ := vp_in_iff.mp h
  rw [cl_eq]
  omega
theorem add_ti {k x : Int32} {K n : Nat} (e : k.toInt = (K : Int)) (h : vp_in x n) (hn : K + n ≤ 100000) : (k + x).toInt = (K : Int) + x.toInt := by
  obtain ⟨h1, h2⟩ := vp_in_iff.mp h
  rw [Int32.toInt_add, e]
  exact Int.bmod_eq_of_le (by omega) (by omega)
theorem cl_off {k x : Int32} {K n : Nat} (e : k.toInt = (K : Int)) (h : vp_in x n) (hn : K + n ≤ 100000) : (k + x).toNatClampNeg = K + x.toNatClampNeg := by
  obtain ⟨h1, h2⟩ := vp_in_iff.mp h
  rw [cl_eq, add_ti e h hn, cl_eq]
  omega
theorem vp_off {k x : Int32} {K n N : Nat} (e : k.toInt = (K : Int)) (h : vp_in x n) (hn : K + n ≤ N) (hN : N ≤ 100000) : vp_in (k + x) N := by
  obtain ⟨h1, h2⟩ := vp_in_iff.mp h
  rw [vp_in_iff, add_ti e h (by omega)]
  omega
theorem cl_dr {s f : Int32} (h1 : vp_in s 10) (h2 : vp_in f 12) : (30 + 12 * s + f).toInt = 30 + 12 * s.toInt + f.toInt := by
  obtain ⟨a1, a2⟩ := vp_in_iff.mp h1
  obtain ⟨b1, b2⟩ := vp_in_iff.mp h2
  have e1 : (12 : Int32).toInt = 12 := rfl
  have e2 : (30 : Int32).toInt = 30 := rfl
  have k1 : (12 * s.toInt).bmod (2 ^ 32) = 12 * s.toInt := Int.bmod_eq_of_le (by omega) (by omega)
  have k2 : (30 + 12 * s.toInt).bmod (2 ^ 32) = 30 + 12 * s.toInt := Int.bmod_eq_of_le (by omega) (by omega)
  rw [Int32.toInt_add, Int32.toInt_add, Int32.toInt_mul, e1, e2, k1, k2]
  exact Int.bmod_eq_of_le (by omega) (by omega)
theorem dr2 {s f : Int32} (h1 : vp_in s 10) (h2 : vp_in f 12) : vp_in (30 + 12 * s + f) 414 := by
  obtain ⟨a1, a2⟩ := vp_in_iff.mp h1
  obtain ⟨b1, b2⟩ := vp_in_iff.mp h2
  rw [vp_in_iff, cl_dr h1 h2]
  omega
theorem cl_dr2 {s f : Int32} (h1 : vp_in s 10) (h2 : vp_in f 12) : (30 + 12 * s + f).toNatClampNeg = 30 + 12 * s.toNatClampNeg + f.toNatClampNeg := by
  obtain ⟨a1, a2⟩ := vp_in_iff.mp h1
  obtain ⟨b1, b2⟩ := vp_in_iff.mp h2
  rw [cl_eq, cl_dr h1 h2, cl_eq, cl_eq]
  omega
theorem cnt_in {b x : Int32} {n : Nat} (hb : b.toInt ≤ (n : Int)) (i0 : ¬ x < 0) (c : ¬ b ≤ x) : vp_in x n := by
  have h4 : ¬ x.toInt < 0 := fun q => i0 (i32_lt.mpr q)
  have h5 : ¬ b.toInt ≤ x.toInt := fun q => c (i32_le.mpr q)
  rw [vp_in_iff]
  omega
/-- a row that is an office: how many, what is under what, what belongs to what -/
def MV (r : Nat → Int32) : Prop := (0 ≤ (r 0).toInt ∧ (r 0).toInt ≤ 10) ∧ (0 ≤ (r 1).toInt ∧ (r 1).toInt ≤ 24) ∧ (0 ≤ (r 2).toInt ∧ (r 2).toInt ≤ 30) ∧ (∀ k : Nat, (k : Int) < (r 0).toInt → -1 ≤ (r (10 + k)).toInt ∧ (r (10 + k)).toInt < k) ∧ (∀ k : Nat, (k : Int) < (r 1).toInt → 0 ≤ (r (150 + k)).toInt ∧ (r (150 + k)).toInt < (r 0).toInt) ∧ ∀ k : Nat, (k : Int) < (r 2).toInt → (0 ≤ (r (324 + k)).toInt ∧ (r (324 + k)).toInt < (r 0).toInt) ∧ 0 ≤ (r (354 + k)).toInt ∧ (r (354 + k)).toInt < 12
def inS (r : Nat → Int32) (x : Int32) : Prop := 0 ≤ x.toInt ∧ x.toInt < (r 0).toInt
def inP (r : Nat → Int32) (x : Int32) : Prop := 0 ≤ x.toInt ∧ x.toInt < (r 1).toInt
def inW (r : Nat → Int32) (x : Int32) : Prop := 0 ≤ x.toInt ∧ x.toInt < (r 2).toInt
def at1 (r : Nat → Int32) (x : Int32) : Prop := -1 ≤ x.toInt ∧ x.toInt < (r 0).toInt
theorem inS.v {r : Nat → Int32} {x : Int32} (hv : MV r) (h : inS r x) : vp_in x 10 := vp_in_iff.mpr ⟨h.1, by have := hv.1.2; have := h.2; omega⟩
theorem inP.v {r : Nat → Int32} {x : Int32} (hv : MV r) (h : inP r x) : vp_in x 24 := vp_in_iff.mpr ⟨h.1, by have := hv.2.1.2; have := h.2; omega⟩
theorem inW.v {r : Nat → Int32} {x : Int32} (hv : MV r) (h : inW r x) : vp_in x 30 := vp_in_iff.mpr ⟨h.1, by have := hv.2.2.1.2; have := h.2; omega⟩
theorem inX.of {b x : Int32} (i0 : ¬ x < 0) (c : ¬ b ≤ x) : 0 ≤ x.toInt ∧ x.toInt < b.toInt := by
  have h4 : ¬ x.toInt < 0 := fun q => i0 (i32_lt.mpr q)
  have h5 : ¬ b.toInt ≤ x.toInt := fun q => c (i32_le.mpr q)
  omega
theorem inS.a {r : Nat → Int32} {x : Int32} (h : inS r x) : at1 r x := ⟨by have := h.1; omega, h.2⟩
theorem at1.s {r : Nat → Int32} {x : Int32} (h : at1 r x) (c : ¬ x = -1) : inS r x := by
  have h2 : x.toInt ≠ -1 := fun e => c (Int32.toInt_inj.mp e)
  exact ⟨by have := h.1; omega, h.2⟩
/-- the sheet of a print, the sheet and the field of a work, what is above a sheet -/
theorem MV.ps {r : Nat → Int32} {x : Int32} (hv : MV r) (h : inP r x) : inS r (r (150 + x).toNatClampNeg) := by
  have hx := cl_in (h.v hv)
  rw [cl_off (K := 150) rfl (h.v hv) (by omega)]
  have h2 := h.2
  exact hv.2.2.2.2.1 _ (by omega)
theorem MV.ws {r : Nat → Int32} {x : Int32} (hv : MV r) (h : inW r x) : inS r (r (324 + x).toNatClampNeg) := by
  have hx := cl_in (h.v hv)
  rw [cl_off (K := 324) rfl (h.v hv) (by omega)]
  have h2 := h.2
  exact (hv.2.2.2.2.2 _ (by omega)).1
theorem MV.wf {r : Nat → Int32} {x : Int32} (hv : MV r) (h : inW r x) : vp_in (r (354 + x).toNatClampNeg) 12 := by
  have hx := cl_in (h.v hv)
  rw [cl_off (K := 354) rfl (h.v hv) (by omega)]
  have h2 := h.2
  exact vp_in_iff.mpr (hv.2.2.2.2.2 _ (by omega)).2
theorem MV.up {r : Nat → Int32} {x : Int32} (hv : MV r) (h : inS r x) : at1 r (r (10 + x).toNatClampNeg) ∧ (r (10 + x).toNatClampNeg).toInt < x.toInt := by
  have hx := cl_in (h.v hv)
  rw [cl_off (K := 10) rfl (h.v hv) (by omega)]
  have h2 := h.2
  have h3 := hv.2.2.2.1 x.toNatClampNeg (by omega)
  exact ⟨⟨h3.1, by omega⟩, by omega⟩
theorem MV.dn {r : Nat → Int32} {x : Int32} {n : Nat} (hv : MV r) (h : inS r x) (hm : dnM x < n + 1) : dnM (r (10 + x).toNatClampNeg) < n := by
  obtain ⟨h1, h2⟩ := hv.up h
  have h3 := h1.1
  have h4 := h.1
  unfold dnM at hm ⊢
  omega
theorem up_ne {f : Nat → Int32} {i k : Nat} {v : Int32} (h : k ≠ i) : upd f i v k = f k := by
  unfold upd
  rw [if_neg h]
theorem rev_1 {r : Nat → Int32} {s v : Int32} (h : vp_in s 10) : ∀ k : Nat, k < 20 → upd r (20 + s).toNatClampNeg v k = r k := fun k hk => up_ne (by rw [cl_off (K := 20) rfl h (by omega)]; omega)
theorem rev_2 {r O : Nat → Int32} {s f v : Int32} (h : ∀ k : Nat, k < 20 → O k = r k) (h1 : vp_in s 10) (h2 : vp_in f 12) : ∀ k : Nat, k < 20 → upd O (30 + 12 * s + f).toNatClampNeg v k = r k := fun k hk => (up_ne (by rw [cl_dr2 h1 h2]; omega)).trans (h k hk)
theorem rev_3 {r O : Nat → Int32} {v : Int32} (h : ∀ k : Nat, k < 20 → O k = r k) : ∀ k : Nat, k < 20 → k ≠ 8 → upd O (8 : Int32).toNatClampNeg v k = r k := fun k hk h8 => (up_ne h8).trans (h k hk)
theorem rev_4 {r O : Nat → Int32} {v : Int32} (h : ∀ k : Nat, k < 20 → k ≠ 8 → O k = r k) : ∀ k : Nat, k < 20 → k ≠ 8 → upd O (8 : Int32).toNatClampNeg v k = r k := fun k hk h8 => (up_ne h8).trans (h k hk h8)
theorem rev_0 {r O : Nat → Int32} {s v : Int32} (hv : MV r) (hs : inS r s) (h : ∀ k : Nat, k < 20 → O k = r k) : at1 r (upd O (8 : Int32).toNatClampNeg v (10 + s).toNatClampNeg) := by
  have h1 := cl_in (hs.v hv)
  have h2 := cl_off (K := 10) (k := 10) rfl (hs.v hv) (by omega)
  have h3 := (hv.up hs).1
  rw [h2] at h3 ⊢
  rw [up_ne (by show 10 + s.toNatClampNeg ≠ 8; omega), h _ (by omega)]
  exact h3
theorem rev_up {r O : Nat → Int32} {x v : Int32} (hv : MV r) (h : ∀ k : Nat, k < 20 → k ≠ 8 → O k = r k) (hs : inS r x) : at1 r (upd O (8 : Int32).toNatClampNeg v (10 + x).toNatClampNeg) := by
  have h1 := cl_in (hs.v hv)
  have h2 := cl_off (K := 10) (k := 10) rfl (hs.v hv) (by omega)
  have h3 := (hv.up hs).1
  rw [h2] at h3 ⊢
  rw [up_ne (by show 10 + x.toNatClampNeg ≠ 8; omega), h _ (by omega) (by omega)]
  exact h3
theorem rev_dn {r O : Nat → Int32} {x v : Int32} {n : Nat} (hv : MV r) (h : ∀ k : Nat, k < 20 → k ≠ 8 → O k = r k) (hs : inS r x) (hm : dnM x < n + 1) : dnM (upd O (8 : Int32).toNatClampNeg v (10 + x).toNatClampNeg) < n := by
  have h1 := cl_in (hs.v hv)
  have h2 := cl_off (K := 10) (k := 10) rfl (hs.v hv) (by omega)
  have h3 := hv.dn hs hm
  rw [h2] at h3 ⊢
  rw [up_ne (by show 10 + x.toNatClampNeg ≠ 8; omega), h _ (by omega) (by omega)]
  exact h3
theorem rev_5 {r O : Nat → Int32} {x v : Int32} (h : O 1 = r 1) (hx : vp_in x 24) : upd O (270 + x).toNatClampNeg v 1 = r 1 := (up_ne (by rw [cl_off (K := 270) rfl hx (by omega)]; omega)).trans h
theorem first_0 {r : Nat → Int32} (h : 0 ≤ (r 1).toInt ∧ (r 1).toInt ≤ 24) : (r (1 : Int32).toNatClampNeg - 1).toInt < 24 := by
  show (r 1 - 1).toInt < 24
  rw [Int32.toInt_sub]
  show ((r 1).toInt - 1).bmod (2 ^ 32) < 24
  obtain ⟨h1, h2⟩ := h
  rw [Int.bmod_eq_of_le (by omega) (by omega)]
  omega
theorem first_1 {x : Int32} (c : ¬ x < 0) (h : x.toInt < 24) : (x + -1).toInt < 24 := by
  have h4 : ¬ x.toInt < 0 := fun q => c (i32_lt.mpr q)
  rw [Int32.toInt_add]
  show (x.toInt + -1).bmod (2 ^ 32) < 24
  rw [Int.bmod_eq_of_le (by omega) (by omega)]
  omega
theorem first_2 {x : Int32} (c : ¬ x < 0) (h : x.toInt < 24) : vp_in x 24 := by
  have h4 : ¬ x.toInt < 0 := fun q => c (i32_lt.mpr q)
  rw [vp_in_iff]
  omega
theorem rev_6 {r O : Nat → Int32} {x : Int32} (h : O 1 = r 1) (c : ¬ O (1 : Int32).toNatClampNeg ≤ x) : ¬ r (1 : Int32).toNatClampNeg ≤ x := by
  intro q
  apply c
  rw [show O (1 : Int32).toNatClampNeg = r (1 : Int32).toNatClampNeg from h]
  exact q
