/-! the reference's own object: w 0, its seven arrays w 1 to w 7 -/
abbrev MS : Type := OF × Bool
def msS (M : MS) (k : Nat) (v : Int32) : MS := (stS M.1 k v, M.2)
def msA (M : MS) (k : Nat) (f : Nat → Int32) : MS := (stA M.1 k f, M.2)
def msG (M : MS) (b : Bool) : MS := (M.1, b)
def mW (cs : Nat → ClassId) (w : Nat → Nat) (M : MS) : va_W :=
  [(w 0, .inr (8, [.int (M.1.1 0), .ref (w 1), .ref (w 2), .ref (w 3), .ref (w 4), .int (M.1.1 1), .ref (w 5), .ref (w 6), .ref (w 7), .int (M.1.1 2), .int (M.1.1 3), .int (b2i M.2), .int (M.1.1 5), .int (M.1.1 6)])),
   (w 1, .inl (cs 0, 414, .inl (M.1.2 1))), (w 2, .inl (cs 0, 414, .inl (M.1.2 2))), (w 3, .inl (cs 0, 414, .inl (M.1.2 3))), (w 4, .inl (cs 0, 5796, .inl (M.1.2 4))), (w 5, .inl (cs 0, 828, .inl (M.1.2 5))), (w 6, .inl (cs 2, 2, .inl (M.1.2 6))), (w 7, .inl (cs 0, 120, .inl (M.1.2 7)))]
def mA (w : Nat → Nat) : Nat → Prop := fun q => ∃ i, i < 8 ∧ q = w i
def mD (w : Nat → Nat) : Prop := ∀ i j, i < 8 → j < 8 → w i = w j → i = j
theorem m_ad (cs : Nat → ClassId) (w : Nat → Nat) (M : MS) : ∀ (k : Nat) (q : Nat × va_E), (mW cs w M)[k]? = some q → k < 8 ∧ q.1 = w k := by
  intro k q h
  have hk : k < 8 := by
    rcases Nat.lt_or_ge k 8 with h1 | h1
    · exact h1
    · rw [List.getElem?_eq_none (by show 8 ≤ k; exact h1)] at h; cases h
  refine ⟨hk, ?_⟩
  have h2 : ((mW cs w M).map (·.1))[k]? = some q.1 := by rw [List.getElem?_map, h]; rfl
  have h3 : (mW cs w M).map (·.1) = (List.range 8).map w := rfl
  rw [h3, List.getElem?_map, List.getElem?_range hk] at h2
  exact (Option.some.inj h2).symm
theorem m_D (cs : Nat → ClassId) {w : Nat → Nat} (M : MS) (hd : mD w) : va_D (mA w) (mW cs w M) := by
  refine ⟨fun i j p q hp hq e => ?_, fun k q h => ?_⟩
  · obtain ⟨h1, e1⟩ := m_ad cs w M i p hp
    obtain ⟨h2, e2⟩ := m_ad cs w M j q hq
    exact hd i j h1 h2 (by rw [← e1, ← e2, e])
  · obtain ⟨h1, e1⟩ := m_ad cs w M k q h
    exact ⟨k, h1, e1⟩
theorem m_upX {D : va_G} {cs : Nat → ClassId} {w : Nat → Nat} {M M' : MS} {c : Nat} {X : Nat → Prop} {H H1 : Heap} (hP : va_P D vwC (mW cs w M) H) (hX : ∀ k, k < 8 → k ≠ c → ¬ X (w k)) (hk : ∀ q : Nat, q < H.size → ¬ X q → H1[q]? = H[q]?) (he : ∀ k, k ≠ c → (mW cs w M')[k]? = (mW cs w M)[k]?) (hc : ∀ q, (mW cs w M')[c]? = some q → ∃ (ws : va_W) (j : Nat), va_P D vwC ws H1 ∧ ws[j]? = some q) : va_P D vwC (mW cs w M') H1 := by
  intro k q hq
  by_cases e : k = c
  · subst e
    obtain ⟨ws, j, h1, h2⟩ := hc q hq
    exact h1 j q h2
  · rw [he k e] at hq
    obtain ⟨h1, e1⟩ := m_ad cs w M k q hq
    exact (hP k q hq).kept (hk q.1 (hP k q hq).lt (by rw [e1]; exact hX k h1 e))
theorem m_off1 (cs : Nat → ClassId) (w : Nat → Nat) (M : MS) (u : Nat → Int32) : ∀ k, k ≠ 1 → (mW cs w (msA M 1 u))[k]? = (mW cs w M)[k]? := by
  intro k hk
  match k with
  | 0 => rfl
  | 1 => exact absurd rfl hk
  | n + 2 => rfl
theorem m_off2 (cs : Nat → ClassId) (w : Nat → Nat) (M : MS) (u : Nat → Int32) : ∀ k, k ≠ 2 → (mW cs w (msA M 2 u))[k]? = (mW cs w M)[k]? := by
  intro k hk
  match k with
  | 0 => rfl
  | 1 => rfl
  | 2 => exact absurd rfl hk
  | n + 3 => rfl
theorem m_off3 (cs : Nat → ClassId) (w : Nat → Nat) (M : MS) (u : Nat → Int32) : ∀ k, k ≠ 3 → (mW cs w (msA M 3 u))[k]? = (mW cs w M)[k]? := by
  intro k hk
  match k with
  | 0 => rfl
  | 1 => rfl
  | 2 => rfl
  | 3 => exact absurd rfl hk
  | n + 4 => rfl
theorem m_up1 {D : va_G} {cs : Nat → ClassId} {w : Nat → Nat} {M : MS} {u : Nat → Int32} {H H1 : Heap} (hd : mD w) (hP : va_P D vwC (mW cs w M) H) (hk : ∀ q : Nat, q < H.size → ¬ rA (w 1) q → H1[q]? = H[q]?) (hB : va_P D vwC (rowW cs (w 1) u) H1) : va_P D vwC (mW cs w (msA M 1 u)) H1 :=
  m_upX hP (fun k h1 h2 h3 => h2 (hd k 1 h1 (by decide) h3)) hk (m_off1 cs w M u) (fun q hq => ⟨_, 0, hB, hq⟩)
theorem m_up2 {D : va_G} {cs : Nat → ClassId} {w : Nat → Nat} {M : MS} {u : Nat → Int32} {H H1 : Heap} (hd : mD w) (hP : va_P D vwC (mW cs w M) H) (hk : ∀ q : Nat, q < H.size → ¬ rA (w 2) q → H1[q]? = H[q]?) (hB : va_P D vwC (rowW cs (w 2) u) H1) : va_P D vwC (mW cs w (msA M 2 u)) H1 :=
  m_upX hP (fun k h1 h2 h3 => h2 (hd k 2 h1 (by decide) h3)) hk (m_off2 cs w M u) (fun q hq => ⟨_, 0, hB, hq⟩)
theorem m_up3 {D : va_G} {cs : Nat → ClassId} {w : Nat → Nat} {M : MS} {u : Nat → Int32} {H H1 : Heap} (hd : mD w) (hP : va_P D vwC (mW cs w M) H) (hk : ∀ q : Nat, q < H.size → ¬ rA (w 3) q → H1[q]? = H[q]?) (hB : va_P D vwC (rowW cs (w 3) u) H1) : va_P D vwC (mW cs w (msA M 3 u)) H1 :=
  m_upX hP (fun k h1 h2 h3 => h2 (hd k 3 h1 (by decide) h3)) hk (m_off3 cs w M u) (fun q hq => ⟨_, 0, hB, hq⟩)
theorem m_cpX {D : va_G} {cs : Nat → ClassId} {w : Nat → Nat} {M M' : MS} {c d : Nat} {u f : Nat → Int32} {H H1 : Heap} (hd : mD w) (hc8 : c < 8) (hd8 : d < 8) (hcd : d ≠ c) (hP : va_P D vwC (mW cs w M) H) (hk : ∀ q : Nat, q < H.size → ¬ (q = w c ∨ q = w d) → H1[q]? = H[q]?) (hB : va_P D vwC (rowW cs (w c) u ++ rowW cs (w d) f) H1) (he : ∀ k, k ≠ c → (mW cs w M')[k]? = (mW cs w M)[k]?) (hc : (mW cs w M')[c]? = some (w c, .inl (cs 0, 414, .inl u))) (hdd : (mW cs w M)[d]? = some (w d, .inl (cs 0, 414, .inl f))) : va_P D vwC (mW cs w M') H1 := by
  intro k q hq
  by_cases e : k = c
  · subst e
    rw [hc] at hq
    exact hB 0 q hq
  · rw [he k e] at hq
    by_cases e2 : k = d
    · subst e2
      rw [hdd] at hq
      exact hB 1 q hq
    · obtain ⟨h1, e1⟩ := m_ad cs w M k q hq
      refine (hP k q hq).kept (hk q.1 (hP k q hq).lt (by rw [e1]; rintro (h3 | h3); exact e (hd k c h1 hc8 h3); exact e2 (hd k d h1 hd8 h3)))
theorem m_cp21 {D : va_G} {cs : Nat → ClassId} {w : Nat → Nat} {M : MS} {u : Nat → Int32} {H H1 : Heap} (hd : mD w) (hP : va_P D vwC (mW cs w M) H) (hk : ∀ q : Nat, q < H.size → ¬ (q = w 2 ∨ q = w 1) → H1[q]? = H[q]?) (hB : va_P D vwC (rowW cs (w 2) u ++ rowW cs (w 1) (M.1.2 1)) H1) : va_P D vwC (mW cs w (msA M 2 u)) H1 :=
  m_cpX hd (by decide) (by decide) (by decide) hP hk hB (m_off2 cs w M u) rfl rfl
theorem m_cp13 {D : va_G} {cs : Nat → ClassId} {w : Nat → Nat} {M : MS} {u : Nat → Int32} {H H1 : Heap} (hd : mD w) (hP : va_P D vwC (mW cs w M) H) (hk : ∀ q : Nat, q < H.size → ¬ (q = w 1 ∨ q = w 3) → H1[q]? = H[q]?) (hB : va_P D vwC (rowW cs (w 1) u ++ rowW cs (w 3) (M.1.2 3)) H1) : va_P D vwC (mW cs w (msA M 1 u)) H1 :=
  m_cpX hd (by decide) (by decide) (by decide) hP hk hB (m_off1 cs w M u) rfl rfl
/-- what refusing answers, and what follows where it doesn't -/
def refB (x : Int32) : Bool := if x = 0 then false else true
theorem rf0 {x : Int32} (h : ¬ refB x = true) : x = 0 := by
  unfold refB at h
  by_cases e : x = 0
  · exact e
  · rw [if_neg e] at h; exact absurd rfl h
theorem ifn {C : Prop} [Decidable C] {a b : Int32} (ha : a ≠ 0) (h : (if C then a else b) = 0) : ¬ C ∧ b = 0 := by
  by_cases e : C
  · rw [if_pos e] at h; exact absurd h ha
  · rw [if_neg e] at h; exact ⟨e, h⟩
theorem ifp {C : Prop} [Decidable C] {a : Int32} (ha : a ≠ 0) (h : (if C then 0 else a) = 0) : C := by
  by_cases e : C
  · exact e
  · rw [if_neg e] at h; exact absurd h ha
theorem in_t {p a b : Int64} (h : sX8_in p a b = true) : a.toInt ≤ p.toInt ∧ p.toInt ≤ b.toInt := by
  unfold sX8_in at h
  by_cases h1 : lg_cmp p a < 0
  · rw [if_pos h1] at h; exact nomatch h
  rw [if_neg h1] at h
  by_cases h2 : 0 < lg_cmp p b
  · rw [if_pos h2] at h; exact nomatch h
  unfold lg_cmp at h1 h2
  constructor
  · rcases Int.lt_or_le p.toInt a.toInt with h3 | h3
    · have h4 : ¬ p > a := fun q => by have := Int64.lt_iff_toInt_lt.mp q; omega
      have h5 : ¬ p = a := fun q => by rw [q] at h3; omega
      rw [if_neg h4, if_neg h5] at h1
      exact absurd (by decide) h1
    · exact h3
  · rcases Int.lt_or_le b.toInt p.toInt with h3 | h3
    · have h4 : p > b := Int64.lt_iff_toInt_lt.mpr h3
      rw [if_pos h4] at h2
      exact absurd (by decide) h2
    · exact h3
theorem less1 {x : Int32} (h : 0 ≤ x.toInt) : (x - 1).toInt64.toInt = x.toInt - 1 := by
  have h2 := x.toInt_lt
  rw [Int32.toInt_toInt64, Int32.toInt_sub]
  show (x.toInt - 1).bmod (2 ^ 32) = _
  exact Int.bmod_eq_of_le (by omega) (by omega)
theorem hasS_t {r : Nat → Int32} {x : Int32} (hv : 0 ≤ (r 0).toInt) (h : sX8_hasSheet r x = true) : inS r x := by
  have h1 := in_t h
  rw [Int32.toInt_toInt64, show r (0 : Int32).toNatClampNeg = r 0 from rfl, less1 hv] at h1
  exact ⟨h1.1, by omega⟩
theorem hasP_t {r : Nat → Int32} {x : Int32} (hv : 0 ≤ (r 1).toInt) (h : sX8_hasPrint r x = true) : inP r x := by
  have h1 := in_t h
  rw [Int32.toInt_toInt64, show r (1 : Int32).toNatClampNeg = r 1 from rfl, less1 hv] at h1
  exact ⟨h1.1, by omega⟩
theorem hasW_t {r : Nat → Int32} {x : Int32} (hv : 0 ≤ (r 2).toInt) (h : sX8_hasWork r x = true) : inW r x := by
  have h1 := in_t h
  rw [Int32.toInt_toInt64, show r (2 : Int32).toNatClampNeg = r 2 from rfl, less1 hv] at h1
  exact ⟨h1.1, by omega⟩
theorem isF_t {x : Int32} (h : sX8_isField x = true) : vp_in x 12 := by
  have h1 := in_t h
  rw [Int32.toInt_toInt64] at h1
  have e1 : (0 : Int64).toInt = 0 := rfl
  have e2 : (11 : Int64).toInt = 11 := rfl
  exact vp_in_iff.mpr ⟨by omega, by omega⟩
theorem in32 {x : Int32} {n : Nat} {b : Int64} (hb : b.toInt + 1 = (n : Int)) (h : sX8_in x.toInt64 0 b = true) : vp_in x n := by
  have h1 := in_t h
  rw [Int32.toInt_toInt64] at h1
  have e1 : (0 : Int64).toInt = 0 := rfl
  exact vp_in_iff.mpr ⟨by omega, by omega⟩
theorem nb_t {b : Bool} {P : Prop} (h : ¬ (¬ b = true)) : b = true := by cases b <;> simp_all
