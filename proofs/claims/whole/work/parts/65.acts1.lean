/-! math: actions on both sides (but revise and run) -/
def eqR (a b : Nat) (R r : Nat → Int32) : Prop := ∀ k, a ≤ k → k < b → R k = r k
theorem nS_c {R r : Nat → Int32} (h : R 0 = r 0) : nS R = nS r := congrArg Int32.toNatClampNeg h
theorem nP_c {R r : Nat → Int32} (h : R 1 = r 1) : nP R = nP r := congrArg Int32.toNatClampNeg h
theorem nW_c {R r : Nat → Int32} (h : R 2 = r 2) : nW R = nW r := congrArg Int32.toNatClampNeg h
theorem IVc_c {R r : Nat → Int32} (h0 : R 0 = r 0) (h1 : R 1 = r 1) (h2 : R 2 = r 2) (h : IVc r) : IVc R := by unfold IVc; rw [h0, h1, h2]; exact h
theorem IVd_c {d : Nat} {R r : Nat → Int32} (h3 : R 3 = r 3) (h5 : R 5 = r 5) (h6 : R 6 = r 6) (h7 : R 7 = r 7) (h : IVd d r) : IVd d R := by unfold IVd; rw [h3, h5, h6, h7]; exact h
theorem IVs_c {R r : Nat → Int32} (hn : nS R = nS r) (h10 : nS r ≤ 10) (he : eqR 10 150 R r) (h : IVs r) : IVs R := by
  intro k hk
  rw [hn] at hk
  obtain ⟨h1, h2, h3⟩ := h k hk
  rw [he (10 + k) (by omega) (by omega), he (20 + k) (by omega) (by omega)]
  refine ⟨h1, h2, fun f hf => ?_⟩
  rw [he (30 + (12 * k + f)) (by omega) (by omega)]
  exact h3 f hf
theorem IVp_c {d : Nat} {R r : Nat → Int32} (hn : nP R = nP r) (h24 : nP r ≤ 24) (hs : nS r ≤ nS R) (he : eqR 150 294 R r) (hv : ∀ s, s < nS r → (r (20 + s)).toInt ≤ (R (20 + s)).toInt) (h : IVp d r) : IVp d R := by
  intro k hk
  rw [hn] at hk
  obtain ⟨h1, h2, h3, h4⟩ := h k hk
  rw [he (150 + k) (by omega) (by omega), he (174 + k) (by omega) (by omega), he (246 + k) (by omega) (by omega), he (270 + k) (by omega) (by omega)]
  have h5 := hv (r (150 + k)).toNatClampNeg (by rw [cl_eq]; omega)
  exact ⟨⟨h1.1, by omega⟩, ⟨h2.1, by omega⟩, h3, h4⟩
theorem IVw_c {R r : Nat → Int32} (hn : nW R = nW r) (h30 : nW r ≤ 30) (hs : nS r ≤ nS R) (he : eqR 294 414 R r) (hv : ∀ s, s < nS r → (r (20 + s)).toInt ≤ (R (20 + s)).toInt) (h : IVw r) : IVw R := by
  intro k hk
  rw [hn] at hk
  obtain ⟨h1, h2, h3⟩ := h k hk
  rw [he (324 + k) (by omega) (by omega), he (354 + k) (by omega) (by omega), he (384 + k) (by omega) (by omega)]
  have h5 := hv (r (324 + k)).toNatClampNeg (by rw [cl_eq]; omega)
  exact ⟨⟨h1.1, by omega⟩, h2, ⟨h3.1, by omega⟩⟩
theorem ROs_c {O' O : OF} {R r : Nat → Int32} (hn : nS R = nS r) (h10 : nS r ≤ 10) (he : eqR 10 150 R r) (h5 : O'.2 5 = O.2 5) (h6 : O'.2 6 = O.2 6) (h7 : O'.2 7 = O.2 7) (h : ROs O r) : ROs O' R := by
  intro k hk
  rw [hn] at hk
  obtain ⟨h1, h2, h3⟩ := h k hk
  rw [h5, h6, h7, he (10 + k) (by omega) (by omega), he (20 + k) (by omega) (by omega)]
  refine ⟨h1, h2, fun f hf => ?_⟩
  rw [he (30 + (12 * k + f)) (by omega) (by omega)]
  exact h3 f hf
theorem ROp_c {O' O : OF} {R r : Nat → Int32} (hn : nP R = nP r) (h24 : nP r ≤ 24) (he : eqR 150 294 R r) (h8 : ∀ j, 8 ≤ j → j < 14 → O'.2 j = O.2 j) (h : ROp O r) : ROp O' R := by
  intro k hk
  rw [hn] at hk
  rw [h8 8 (by decide) (by decide), h8 9 (by decide) (by decide), h8 10 (by decide) (by decide), h8 11 (by decide) (by decide), h8 12 (by decide) (by decide), h8 13 (by decide) (by decide), he (150 + k) (by omega) (by omega), he (174 + k) (by omega) (by omega), he (198 + k) (by omega) (by omega), he (222 + k) (by omega) (by omega), he (246 + k) (by omega) (by omega), he (270 + k) (by omega) (by omega)]
  exact h k hk
theorem ROw_c {O' O : OF} {R r : Nat → Int32} (hn : nW R = nW r) (h30 : nW r ≤ 30) (he : eqR 294 414 R r) (h14 : ∀ j, 14 ≤ j → j < 18 → O'.2 j = O.2 j) (h : ROw O r) : ROw O' R := by
  intro k hk
  rw [hn] at hk
  rw [h14 14 (by decide) (by decide), h14 15 (by decide) (by decide), h14 16 (by decide) (by decide), h14 17 (by decide) (by decide), he (294 + k) (by omega) (by omega), he (324 + k) (by omega) (by omega), he (354 + k) (by omega) (by omega), he (384 + k) (by omega) (by omega)]
  exact h k hk
theorem IV.congr {d : Nat} {R r : Nat → Int32} (he : eqR 0 414 R r) (h : IV d r) : IV d R := by
  have h10 := nS_le h.1
  have h24 := nP_le h.1
  have h30 := nW_le h.1
  have e : ∀ k, k < 414 → R k = r k := fun k hk => he k (Nat.zero_le k) hk
  have e0 := nS_c (e 0 (by decide))
  have e1 := nP_c (e 1 (by decide))
  have e2 := nW_c (e 2 (by decide))
  have hv : ∀ s, s < nS r → (r (20 + s)).toInt ≤ (R (20 + s)).toInt := fun s hs => by rw [e (20 + s) (by omega)]; omega
  refine ⟨IVc_c (e 0 (by decide)) (e 1 (by decide)) (e 2 (by decide)) h.1, IVd_c (e 3 (by decide)) (e 5 (by decide)) (e 6 (by decide)) (e 7 (by decide)) h.2.1, ?_, IVs_c e0 h10 (fun k h1 h2 => e k (by omega)) h.2.2.2.1, IVp_c e1 h24 (by omega) (fun k h1 h2 => e k (by omega)) hv h.2.2.2.2.1, IVw_c e2 h30 (by omega) (fun k h1 h2 => e k (by omega)) hv h.2.2.2.2.2⟩
  unfold IVb
  rw [e0, e1, e 8 (by decide), e 9 (by decide)]
  exact h.2.2.1
theorem ROc_c {O' O : OF} {R r : Nat → Int32} (he : ∀ k, k < 10 → R k = r k) (ho : O'.1 = O.1) (h : ROc O r) : ROc O' R := by
  unfold ROc
  rw [ho, he 0 (by decide), he 1 (by decide), he 2 (by decide), he 3 (by decide), he 4 (by decide), he 8 (by decide), he 9 (by decide)]
  exact h
theorem RO.congr {d : Nat} {O : OF} {R r : Nat → Int32} (he : eqR 0 414 R r) (h : RO d O r) : RO d O R := by
  have h10 := nS_le h.c
  have h24 := nP_le h.c
  have h30 := nW_le h.c
  have e : ∀ k, k < 414 → R k = r k := fun k hk => he k (Nat.zero_le k) hk
  exact ⟨⟨ROc_c (fun k hk => e k (by omega)) rfl h.1.1, fun k hk => by rw [e (5 + k) (by omega)]; exact h.1.2.1 k hk, ROs_c (nS_c (e 0 (by decide))) h10 (fun k h1 h2 => e k (by omega)) rfl rfl rfl h.1.2.2.1, ROp_c (nP_c (e 1 (by decide))) h24 (fun k h1 h2 => e k (by omega)) (fun _ _ _ => rfl) h.1.2.2.2.1, ROw_c (nW_c (e 2 (by decide))) h30 (fun k h1 h2 => e k (by omega)) (fun _ _ _ => rfl) h.1.2.2.2.2⟩, h.2.congr he⟩
theorem RO.mono {d d' : Nat} {O : OF} {r : Nat → Int32} (hd : d ≤ d') (h : RO d O r) : RO d' O r := by
  refine ⟨h.1, h.2.1, ⟨⟨h.2.2.1.1.1, by have := h.2.2.1.1.2; omega⟩, h.2.2.1.2⟩, h.2.2.2.1, h.2.2.2.2.1, fun k hk => ?_, h.2.2.2.2.2.2⟩
  obtain ⟨h1, h2, h3, h4⟩ := h.2.2.2.2.2.1 k hk
  exact ⟨h1, h2, h3, h4.1, by omega⟩
/-- an action that was done: what the class answers, what the reference answers, the states behind it -/
def OKA (d : Nat) (c : Int32 × OF) (g : Int32 × (Nat → Int32)) : Prop := 0 ≤ c.1.toInt ∧ c.1 = g.1 ∧ RO d c.2 g.2
section
variable {d : Nat} {O : OF} {r : Nat → Int32} (h : RO d O r)
/-! check -/
theorem ro_check (h : RO d O r) {s : Nat} (hs : s < 32) : RO d (sX4_markChecked O (nI s)) (upd r 8 (r 8 &&& ((1 <<< (nI s &&& 31)) ^^^ (-1)))) := by
  have e : ∀ k, k ≠ 8 → upd r 8 (r 8 &&& ((1 <<< (nI s &&& 31)) ^^^ (-1))) k = r k := fun k hk => pk_un hk
  have h10 := nS_le h.c
  have h24 := nP_le h.c
  have h30 := nW_le h.c
  have e0 := nS_c (e 0 (by decide))
  have e1 := nP_c (e 1 (by decide))
  have e2 := nW_c (e 2 (by decide))
  have hv : ∀ k, k < nS r → (r (20 + k)).toInt ≤ (upd r 8 (r 8 &&& ((1 <<< (nI s &&& 31)) ^^^ (-1))) (20 + k)).toInt := fun k hk => by rw [e (20 + k) (by omega)]; omega
  have hc := h.1.1
  refine ⟨⟨⟨hc.1, ?_, hc.2.2.1, hc.2.2.2.1, hc.2.2.2.2.1, hc.2.2.2.2.2.1, hc.2.2.2.2.2.2⟩, fun k hk => by rw [e (5 + k) (by omega)]; exact h.1.2.1 k hk, ROs_c e0 h10 (fun k h1 h2 => e k (by omega)) rfl rfl rfl h.1.2.2.1, ROp_c e1 h24 (fun k h1 h2 => e k (by omega)) (fun _ _ _ => rfl) h.1.2.2.2.1, ROw_c e2 h30 (fun k h1 h2 => e k (by omega)) (fun _ _ _ => rfl) h.1.2.2.2.2⟩,
    IVc_c (e 0 (by decide)) (e 1 (by decide)) (e 2 (by decide)) h.c, IVd_c (e 3 (by decide)) (e 5 (by decide)) (e 6 (by decide)) (e 7 (by decide)) h.2.2.1, ⟨?_, ?_⟩, IVs_c e0 h10 (fun k h1 h2 => e k (by omega)) h.2.2.2.2.1, IVp_c e1 h24 (by omega) (fun k h1 h2 => e k (by omega)) hv h.2.2.2.2.2.1, IVw_c e2 h30 (by omega) (fun k h1 h2 => e k (by omega)) hv h.2.2.2.2.2.2⟩
  · show (O.1 1) &&& ((1 <<< (nI s &&& 31)) ^^^ (-1)) = _
    rw [hc.2.1, pk_us]
  · intro i hi hb
    rw [pk_us, b_clr hs hi] at hb
    rw [e0]
    exact h.2.2.2.1.1 i hi (Bool.and_eq_true_iff.mp hb).1
  · intro i hi hb
    rw [e 9 (by decide)] at hb
    rw [e1]
    exact h.2.2.2.1.2 i hi hb
theorem a_check (h : RO d O r) (x : Int32) :
    (sX8_hasSheet r x = false ∧ sX1_checkSheet O x = (-2, O)) ∨ (sX8_hasSheet r x = true ∧ sX8_has (r 8) x = false ∧ sX1_checkSheet O x = (-4, O)) ∨
    (sX8_hasSheet r x = true ∧ sX8_has (r 8) x = true ∧ OKA d (sX1_checkSheet O x) (sX8_goCheck r x)) := by
  unfold sX1_checkSheet
  rw [q_hasS h, q_toCheck h]
  cases c1 : sX8_hasSheet r x
  · exact Or.inl ⟨rfl, rfl⟩
  · cases c2 : sX8_has (r 8) x
    · exact Or.inr (Or.inl ⟨rfl, rfl, rfl⟩)
    · obtain ⟨s, hs, rfl⟩ := hasS_of h.c c1
      have h10 := nS_le h.c
      have hR := ro_check h (s := s) (by omega)
      have e : sX4_toCheckCount (sX4_markChecked O (nI s)) = sX8_many (r 8 &&& ((1 <<< (nI s &&& 31)) ^^^ (-1))) := by
        rw [g_toCheck hR, pk_us]
      have hg : sX8_goCheck r (nI s) = (sX8_many (r 8 &&& ((1 <<< (nI s &&& 31)) ^^^ (-1))), upd r 8 (r 8 &&& ((1 <<< (nI s &&& 31)) ^^^ (-1)))) := by
        unfold sX8_goCheck
        rw [show (8 : Int32).toNatClampNeg = 8 from rfl, pk_us]
      refine Or.inr (Or.inr ⟨rfl, rfl, ?_⟩)
      rw [hg, if_pos rfl, if_pos rfl]
      refine ⟨?_, e, hR⟩
      · show 0 ≤ (sX4_toCheckCount (sX4_markChecked O (nI s))).toInt
        rw [e, many_eq, nI_toInt (by have := fb_ct_le (bt (r 8 &&& ((1 <<< (nI s &&& 31)) ^^^ (-1)))) 30; omega)]
        omega
/-! back -/
theorem ro_back (h : RO d O r) {p : Nat} (hp : p < 32) : RO d (sX3_markBack O (nI p)) (upd r 9 (r 9 &&& ((1 <<< (nI p &&& 31)) ^^^ (-1)))) := by
  have e : ∀ k, k ≠ 9 → upd r 9 (r 9 &&& ((1 <<< (nI p &&& 31)) ^^^ (-1))) k = r k := fun k hk => pk_un hk
  have h10 := nS_le h.c
  have h24 := nP_le h.c
  have h30 := nW_le h.c
  have e0 := nS_c (e 0 (by decide))
  have e1 := nP_c (e 1 (by decide))
  have e2 := nW_c (e 2 (by decide))
  have hv : ∀ k, k < nS r → (r (20 + k)).toInt ≤ (upd r 9 (r 9 &&& ((1 <<< (nI p &&& 31)) ^^^ (-1))) (20 + k)).toInt := fun k hk => by rw [e (20 + k) (by omega)]; omega
  have hc := h.1.1
  refine ⟨⟨⟨hc.1, hc.2.1, hc.2.2.1, ?_, hc.2.2.2.2.1, hc.2.2.2.2.2.1, hc.2.2.2.2.2.2⟩, fun k hk => by rw [e (5 + k) (by omega)]; exact h.1.2.1 k hk, ROs_c e0 h10 (fun k h1 h2 => e k (by omega)) rfl rfl rfl h.1.2.2.1, ROp_c e1 h24 (fun k h1 h2 => e k (by omega)) (fun _ _ _ => rfl) h.1.2.2.2.1, ROw_c e2 h30 (fun k h1 h2 => e k (by omega)) (fun _ _ _ => rfl) h.1.2.2.2.2⟩,
    IVc_c (e 0 (by decide)) (e 1 (by decide)) (e 2 (by decide)) h.c, IVd_c (e 3 (by decide)) (e 5 (by decide)) (e 6 (by decide)) (e 7 (by decide)) h.2.2.1, ⟨?_, ?_⟩, IVs_c e0 h10 (fun k h1 h2 => e k (by omega)) h.2.2.2.2.1, IVp_c e1 h24 (by omega) (fun k h1 h2 => e k (by omega)) hv h.2.2.2.2.2.1, IVw_c e2 h30 (by omega) (fun k h1 h2 => e k (by omega)) hv h.2.2.2.2.2.2⟩
  · show (O.1 3) &&& ((1 <<< (nI p &&& 31)) ^^^ (-1)) = _
    rw [hc.2.2.2.1, pk_us]
  · intro i hi hb
    rw [e 8 (by decide)] at hb
    rw [e0]
    exact h.2.2.2.1.1 i hi hb
  · intro i hi hb
    rw [pk_us, b_clr hp hi] at hb
    rw [e1]
    exact h.2.2.2.1.2 i hi (Bool.and_eq_true_iff.mp hb).1
theorem a_back (h : RO d O r) (hd : d ≤ 1000000) (x : Int32) :
    (sX8_hasPrint r x = false ∧ sX1_takeBack O x = (-2, O)) ∨ (sX8_hasPrint r x = true ∧ sX8_isOut r x = false ∧ sX1_takeBack O x = (-4, O)) ∨
    (sX8_hasPrint r x = true ∧ sX8_isOut r x = true ∧ OKA d (sX1_takeBack O x) (sX8_goBack r x)) := by
  unfold sX1_takeBack
  rw [q_hasP h, q_isOut h]
  cases c1 : sX8_hasPrint r x
  · exact Or.inl ⟨rfl, rfl⟩
  · cases c2 : sX8_isOut r x
    · exact Or.inr (Or.inl ⟨rfl, rfl, rfl⟩)
    · obtain ⟨p, hp, rfl⟩ := hasP_of h.c c1
      have h24 := nP_le h.c
      have hR := ro_back h (p := p) (by omega)
      have ht := today_ge h
      have e : sX3_overdueDays O (nI p) (O.1 5) = if sX8_isOverdue r (nI p) (r 3) = true then r 3 - r (270 + p) else 0 := by
        rw [h.1.1.2.2.2.2.2.1]
        exact q_over h hd hp ht.1 (by omega)
      refine Or.inr (Or.inr ⟨rfl, rfl, ?_, ?_, hR⟩)
      · show 0 ≤ (sX3_overdueDays O (nI p) (O.1 5)).toInt
        rw [e]
        cases c3 : sX8_isOverdue r (nI p) (r 3)
        · rw [if_neg (by decide)]; decide
        · have := q_overT h hd hp ht.1 (by omega) c3
          rw [if_pos rfl]
          omega
      · show sX3_overdueDays O (nI p) (O.1 5) = (if sX8_isOverdue r (nI p) (r 3) = true then r 3 - r (270 + nI p).toNatClampNeg else 0)
        rw [e, ix270 (by omega)]
/-! stamp -/
theorem ro_stamp (h : RO d O r) {p q : Nat} (hp : p < nP r) (hq : q < 3) : RO d (stA O 12 (upd (O.2 12) p ((O.2 12) p ||| (1 <<< (nI q &&& 31))))) (upd r (246 + p) (r (246 + p) ||| (1 <<< (nI q &&& 31)))) := by
  have h10 := nS_le h.c
  have h24 := nP_le h.c
  have h30 := nW_le h.c
  have e : ∀ k, k ≠ 246 + p → upd r (246 + p) (r (246 + p) ||| (1 <<< (nI q &&& 31))) k = r k := fun k hk => pk_un hk
  have e0 := nS_c (e 0 (by omega))
  have e1 := nP_c (e 1 (by omega))
  have e2 := nW_c (e 2 (by omega))
  have hv : ∀ k, k < nS r → (r (20 + k)).toInt ≤ (upd r (246 + p) (r (246 + p) ||| (1 <<< (nI q &&& 31))) (20 + k)).toInt := fun k hk => by rw [e (20 + k) (by omega)]; omega
  refine ⟨⟨ROc_c (fun k hk => e k (by omega)) rfl h.1.1, fun k hk => by rw [e (5 + k) (by omega)]; exact h.1.2.1 k hk, ROs_c e0 h10 (fun k h1 h2 => e k (by omega)) rfl rfl rfl h.1.2.2.1, fun k hk => ?_, ROw_c e2 h30 (fun k h1 h2 => e k (by omega)) (fun j h1 h2 => va_up_ne _ _ (by omega)) h.1.2.2.2.2⟩,
    IVc_c (e 0 (by omega)) (e 1 (by omega)) (e 2 (by omega)) h.c, IVd_c (e 3 (by omega)) (e 5 (by omega)) (e 6 (by omega)) (e 7 (by omega)) h.2.2.1, ⟨?_, ?_⟩, IVs_c e0 h10 (fun k h1 h2 => e k (by omega)) h.2.2.2.2.1, fun k hk => ?_, IVw_c e2 h30 (by omega) (fun k h1 h2 => e k (by omega)) hv h.2.2.2.2.2.2⟩
  · rw [e1] at hk
    obtain ⟨g1, g2, g3, g4, g5, g6⟩ := h.1.2.2.2.1 k hk
    rw [e (150 + k) (by omega), e (174 + k) (by omega), e (198 + k) (by omega), e (222 + k) (by omega), e (270 + k) (by omega)]
    refine ⟨g1, g2, g3, g4, ?_, g6⟩
    show upd (O.2 12) p ((O.2 12) p ||| (1 <<< (nI q &&& 31))) k = _
    by_cases c : k = p
    · subst c
      rw [pk_us, pk_us, g5]
    · rw [pk_un c, e (246 + k) (by omega)]
      exact g5
  · rw [e 8 (by omega), e0]; exact h.2.2.2.1.1
  · rw [e 9 (by omega), e1]; exact h.2.2.2.1.2
  · rw [e1] at hk
    obtain ⟨g1, g2, g3, g4⟩ := h.2.2.2.2.2.1 k hk
    rw [e (150 + k) (by omega), e (174 + k) (by omega), e (270 + k) (by omega), e0, e (20 + (r (150 + k)).toNatClampNeg) (by rw [cl_eq]; omega)]
    refine ⟨g1, g2, ?_, g4⟩
    by_cases c : k = p
    · subst c
      intro i hi hb
      rw [pk_us, b_set (by omega) hi] at hb
      rcases Bool.or_eq_true_iff.mp hb with b | b
      · exact g3 i hi b
      · have := of_decide_eq_true b; omega
    · rw [e (246 + k) (by omega)]
      exact g3
theorem hand_of {x : Int32} : sX8_isHand x = true ↔ ∃ q, q < 3 ∧ x = nI q := by
  unfold sX8_isHand
  rw [in_iff32]
  have e2 : (2 : Int64).toInt = 2 := rfl
  have e4 : (0 : Int64).toInt = 0 := rfl
  constructor
  · intro h1
    obtain ⟨k, a, b, -⟩ := i_ex (x := x) (by omega)
    exact ⟨k, by omega, a⟩
  · rintro ⟨q, hq, rfl⟩
    rw [nI_toInt (by omega)]
    omega
theorem a_stamp (h : RO d O r) (x y : Int32) :
    ((sX8_hasPrint r x = false ∨ sX8_isHand y = false) ∧ sX1_stampPrint O x y = (-2, O)) ∨ ((sX8_hasPrint r x = true ∧ sX8_isHand y = true) ∧ sX8_canStamp r x = false ∧ sX1_stampPrint O x y = (-4, O)) ∨
    ((sX8_hasPrint r x = true ∧ sX8_isHand y = true) ∧ sX8_canStamp r x = true ∧ OKA d (sX1_stampPrint O x y) (sX8_goStamp r x y)) := by
  unfold sX1_stampPrint
  rw [q_hasP h]
  have e3 : (3 : Int32).toInt = 3 := rfl
  have e0 : (0 : Int32).toInt = 0 := rfl
  have e2 : (2 : Int64).toInt = 2 := rfl
  have e4 : (0 : Int64).toInt = 0 := rfl
  cases c1 : sX8_hasPrint r x
  · exact Or.inl ⟨Or.inl rfl, rfl⟩
  · cases c2 : sX8_isHand y
    · have h1 := in_no (a := 0) (b := 2) (x := y) c2
      refine Or.inl ⟨Or.inr rfl, ?_⟩
      simp only [if_true]
      by_cases c3 : y < 0
      · rw [if_pos c3]
      · have c4 : ¬ y < 3 := fun z => by
          have z1 := i32_lt.mp z
          have z2 : ¬ y.toInt < 0 := fun t => c3 (i32_lt.mpr t)
          omega
        rw [if_neg c3, if_neg c4]
    · obtain ⟨q, hq, rfl⟩ := hand_of.mp c2
      obtain ⟨p, hp, rfl⟩ := hasP_of h.c c1
      have h24 := nP_le h.c
      have c3 : ¬ nI q < 0 := nI_pos (by omega)
      have c4 : nI q < 3 := nI_lt (b := 3) hq (by decide)
      have e9 : sX8_canStamp r (nI p) = (sX8_isOut r (nI p) && !sX8_isRecalled r (nI p)) := by
        unfold sX8_canStamp
        cases sX8_isOut r (nI p)
        · rfl
        · cases sX8_isRecalled r (nI p) <;> rfl
      rw [if_pos rfl, if_neg c3, if_pos c4, q_onr h hp, ← e9]
      cases c5 : sX8_canStamp r (nI p)
      · exact Or.inr (Or.inl ⟨⟨rfl, rfl⟩, rfl, rfl⟩)
      · have hR := ro_stamp h hp hq
        have hn := nP_c (R := upd r (246 + p) (r (246 + p) ||| (1 <<< (nI q &&& 31)))) (r := r) (pk_un (by omega))
        have hpR : p < nP (upd r (246 + p) (r (246 + p) ||| (1 <<< (nI q &&& 31)))) := by rw [hn]; exact hp
        have ha : sX3_addStamp O (nI p) (nI q) = (sX8_many (r (246 + p) ||| (1 <<< (nI q &&& 31))), stA O 12 (upd (O.2 12) p ((O.2 12) p ||| (1 <<< (nI q &&& 31))))) := by
          unfold sX3_addStamp
          rw [q_hasP h, c1, if_pos rfl, ixN (by omega), q_stampsP hR hpR, q_stampCount hR hpR, pk_us]
        have hg : sX8_goStamp r (nI p) (nI q) = (sX8_many (r (246 + p) ||| (1 <<< (nI q &&& 31))), upd r (246 + p) (r (246 + p) ||| (1 <<< (nI q &&& 31)))) := by
          unfold sX8_goStamp
          rw [ix246 (by omega), pk_us]
        refine Or.inr (Or.inr ⟨⟨rfl, rfl⟩, rfl, ?_⟩)
        rw [if_pos rfl, ha, hg]
        refine ⟨?_, rfl, hR⟩
        show 0 ≤ (sX8_many _).toInt
        rw [many_eq, nI_toInt (by have := fb_ct_le (bt (r (246 + p) ||| (1 <<< (nI q &&& 31)))) 30; omega)]
        omega
/-! a setting -/
theorem ro_set (h : RO d O r) {w : Nat} {v : Int32} (hw : w < 3) (h0 : 0 ≤ v.toInt) (h1 : w = 0 → v.toInt ≤ 20) (h2 : w = 1 → v.toInt ≤ 3) (h3 : w = 2 → v.toInt ≤ 99) : RO d (stA O 4 (upd (O.2 4) w v)) (upd r (5 + w) v) := by
  have h10 := nS_le h.c
  have h24 := nP_le h.c
  have h30 := nW_le h.c
  have e : ∀ k, k ≠ 5 + w → upd r (5 + w) v k = r k := fun k hk => pk_un hk
  have e0 := nS_c (e 0 (by omega))
  have e1 := nP_c (e 1 (by omega))
  have e2 := nW_c (e 2 (by omega))
  have hv : ∀ k, k < nS r → (r (20 + k)).toInt ≤ (upd r (5 + w) v (20 + k)).toInt := fun k hk => by rw [e (20 + k) (by omega)]; omega
  have hc := h.1.1
  refine ⟨⟨?_, fun k hk => ?_, ROs_c e0 h10 (fun k h1 h2 => e k (by omega)) rfl rfl rfl h.1.2.2.1, ROp_c e1 h24 (fun k h1 h2 => e k (by omega)) (fun j h1 h2 => va_up_ne _ _ (by omega)) h.1.2.2.2.1, ROw_c e2 h30 (fun k h1 h2 => e k (by omega)) (fun j h1 h2 => va_up_ne _ _ (by omega)) h.1.2.2.2.2⟩,
    IVc_c (e 0 (by omega)) (e 1 (by omega)) (e 2 (by omega)) h.c, ?_, ⟨?_, ?_⟩, IVs_c e0 h10 (fun k h1 h2 => e k (by omega)) h.2.2.2.2.1, IVp_c e1 h24 (by omega) (fun k h1 h2 => e k (by omega)) hv h.2.2.2.2.2.1, IVw_c e2 h30 (by omega) (fun k h1 h2 => e k (by omega)) hv h.2.2.2.2.2.2⟩
  · unfold ROc
    rw [e 0 (by omega), e 1 (by omega), e 2 (by omega), e 3 (by omega), e 4 (by omega), e 8 (by omega), e 9 (by omega)]
    exact hc
  · show upd (O.2 4) w v k = _
    by_cases c : k = w
    · subst c; rw [pk_us, pk_us]
    · rw [pk_un c, e (5 + k) (by omega)]; exact h.1.2.1 k hk
  · obtain ⟨g1, g2, g3, g4⟩ := h.2.2.1
    unfold IVd
    rw [e 3 (by omega)]
    refine ⟨g1, ?_, ?_, ?_⟩
    · by_cases c : w = 0
      · subst c; rw [show (5 : Nat) = 5 + 0 from rfl, pk_us]; exact ⟨h0, h1 rfl⟩
      · rw [e 5 (by omega)]; exact g2
    · by_cases c : w = 1
      · subst c; rw [show (6 : Nat) = 5 + 1 from rfl, pk_us]; exact ⟨h0, h2 rfl⟩
      · rw [e 6 (by omega)]; exact g3
    · by_cases c : w = 2
      · subst c; rw [show (7 : Nat) = 5 + 2 from rfl, pk_us]; exact ⟨h0, h3 rfl⟩
      · rw [e 7 (by omega)]; exact g4
  · rw [e 8 (by omega), e0]; exact h.2.2.2.1.1
  · rw [e 9 (by omega), e1]; exact h.2.2.2.1.2
/-! mend -/
theorem ro_mend (h : RO d O r) {w s : Nat} (hw : w < nW r) (hs : s < nS r) (es : r (324 + w) = nI s) : RO d (stA O 17 (upd (O.2 17) w (r (20 + s)))) (upd r (384 + w) (r (20 + s))) := by
  have h10 := nS_le h.c
  have h24 := nP_le h.c
  have h30 := nW_le h.c
  have e : ∀ k, k ≠ 384 + w → upd r (384 + w) (r (20 + s)) k = r k := fun k hk => pk_un hk
  have e0 := nS_c (e 0 (by omega))
  have e1 := nP_c (e 1 (by omega))
  have e2 := nW_c (e 2 (by omega))
  have hv : ∀ k, k < nS r → (r (20 + k)).toInt ≤ (upd r (384 + w) (r (20 + s)) (20 + k)).toInt := fun k hk => by rw [e (20 + k) (by omega)]; omega
  refine ⟨⟨ROc_c (fun k hk => e k (by omega)) rfl h.1.1, fun k hk => by rw [e (5 + k) (by omega)]; exact h.1.2.1 k hk, ROs_c e0 h10 (fun k h1 h2 => e k (by omega)) rfl rfl rfl h.1.2.2.1, ROp_c e1 h24 (fun k h1 h2 => e k (by omega)) (fun j h1 h2 => va_up_ne _ _ (by omega)) h.1.2.2.2.1, fun k hk => ?_⟩,
    IVc_c (e 0 (by omega)) (e 1 (by omega)) (e 2 (by omega)) h.c, IVd_c (e 3 (by omega)) (e 5 (by omega)) (e 6 (by omega)) (e 7 (by omega)) h.2.2.1, ⟨?_, ?_⟩, IVs_c e0 h10 (fun k h1 h2 => e k (by omega)) h.2.2.2.2.1, IVp_c e1 h24 (by omega) (fun k h1 h2 => e k (by omega)) hv h.2.2.2.2.2.1, fun k hk => ?_⟩
  · rw [e2] at hk
    obtain ⟨g1, g2, g3, g4⟩ := h.1.2.2.2.2 k hk
    rw [e (294 + k) (by omega), e (324 + k) (by omega), e (354 + k) (by omega)]
    refine ⟨g1, g2, g3, ?_⟩
    show upd (O.2 17) w (r (20 + s)) k = _
    by_cases c : k = w
    · subst c; rw [pk_us, pk_us]
    · rw [pk_un c, e (384 + k) (by omega)]; exact g4
  · rw [e 8 (by omega), e0]; exact h.2.2.2.1.1
  · rw [e 9 (by omega), e1]; exact h.2.2.2.1.2
  · rw [e2] at hk
    obtain ⟨g1, g2, g3⟩ := h.2.2.2.2.2.2 k hk
    rw [e (324 + k) (by omega), e (354 + k) (by omega), e0, e (20 + (r (324 + k)).toNatClampNeg) (by rw [cl_eq]; omega)]
    refine ⟨g1, g2, ?_⟩
    by_cases c : k = w
    · subst c
      rw [pk_us, es, ixN (by omega)]
      have := (h.2.2.2.2.1 s hs).2.1
      omega
    · rw [e (384 + k) (by omega)]; exact g3
theorem a_mend (h : RO d O r) (x : Int32) :
    (sX8_hasWork r x = false ∧ sX1_mendWork O x = (-2, O)) ∨ (sX8_hasWork r x = true ∧ sX8_isWrong r x = false ∧ sX1_mendWork O x = (-4, O)) ∨
    (sX8_hasWork r x = true ∧ sX8_isWrong r x = true ∧ OKA d (sX1_mendWork O x) (sX8_goMend r x)) := by
  unfold sX1_mendWork
  rw [q_hasW h]
  cases c1 : sX8_hasWork r x
  · exact Or.inl ⟨rfl, rfl⟩
  · obtain ⟨w, hw, rfl⟩ := hasW_of h.c c1
    have h30 := nW_le h.c
    have h10 := nS_le h.c
    rw [q_isWrong h hw]
    cases c2 : sX8_isWrong r (nI w)
    · exact Or.inr (Or.inl ⟨rfl, rfl, rfl⟩)
    · obtain ⟨⟨s, hs, es⟩, -⟩ := ofW' h hw
      have hR := ro_mend h hw hs es
      have hp : sX6_putRevision O (nI w) (sX4_revisionOf O (sX6_sheetOf O (nI w))) = stA O 17 (upd (O.2 17) w (r (20 + s))) := by
        unfold sX6_putRevision
        rw [q_hasW h, c1, if_pos rfl, ixN (by omega), q_sheetW h hw, es, q_rev h hs]
      have hg : sX8_goMend r (nI w) = (sX8_wrong (upd r (384 + w) (r (20 + s))), upd r (384 + w) (r (20 + s))) := by
        unfold sX8_goMend
        rw [ix384 (by omega), ix324 (by omega), es, ix20 (by omega)]
      refine Or.inr (Or.inr ⟨rfl, rfl, ?_⟩)
      rw [hp, hg, if_pos rfl, if_pos rfl]
      have ew := g_wrong hR
      refine ⟨?_, ew, hR⟩
      show 0 ≤ (sX1_wrongWorks (stA O 17 (upd (O.2 17) w (r (20 + s)))) (-1) (-1)).toInt
      rw [ew, t_wrong hR.c, nI_toInt (by
        have := nW_le hR.c
        have := fb_ct_le (fun w_1 => sX8_isWrong (upd r (384 + w) (r (20 + s))) (nI w_1)) (nW (upd r (384 + w) (r (20 + s))))
        omega)]
      omega
end
