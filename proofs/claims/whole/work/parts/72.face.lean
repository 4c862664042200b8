/-! math: the class's object and the reference's -/
def TXr (T : OF) (M : MS) : Prop := (0 ≤ (T.1 0).toInt ∧ (T.1 0).toInt ≤ 120) ∧ M.1.1 2 = T.1 0 ∧ ∀ k : Nat, (k : Int) < (T.1 0).toInt → T.2 2 k = M.1.2 7 k ∧ 0 ≤ (M.1.2 7 k).toInt ∧ (M.1.2 7 k).toInt ≤ 255
def HIr (d : Nat) (Os : Nat → OF) (T : OF) (M : MS) : Prop := ∃ n c : Nat, n < 15 ∧ c ≤ 14 ∧ T.1 4 = nI n ∧ T.1 3 = nI c ∧ M.1.1 1 = nI c ∧ ∀ j, j < c → RO d (Os (2 + (n + 15 - c + j) % 15)) (fun k => M.1.2 4 (414 * j + k))
def SLr (d : Nat) (Os : Nat → OF) (T : OF) (M : MS) : Prop := ∀ s, s < 2 → M.1.2 6 s = b2i (bt (T.1 5) s) ∧ (bt (T.1 5) s = true → RO d (Os (17 + s)) (fun k => M.1.2 5 (414 * s + k)))
def SR (d : Nat) (Os : Nat → OF) (T : OF) (M : MS) : Prop := RO d (Os 0) (M.1.2 1) ∧ TXr T M ∧ HIr d Os T M ∧ SLr d Os T M
def OKF (hs : List Nat) (d : Nat) (v : Nat × Int32 × TSt) (w : Int32 × MS) : Prop := ((v.1 = 0 ∧ w.2.1.1 0 = 0 ∧ v.2.1 = w.1) ∨ (v.1 ∈ hs ∧ ¬ v.1 = 0 ∧ w.2.1.1 0 = nI (hs.idxOf v.1 + 1))) ∧ SR d v.2.2.1 v.2.2.2 w.2
section
variable {d : Nat} {Os : Nat → OF} {T : OF} {M : MS} (h : SR d Os T M)
theorem ok_v (h : SR d Os T M) (hs : List Nat) {x y : Int32} (e : x = y) : OKF hs d (0, x, (Os, T)) (y, msS M 0 0) := ⟨Or.inl ⟨rfl, rfl, e⟩, h⟩
theorem ok_x (h : SR d Os T M) {hs : List Nat} {k : Nat} (x y : Int32) {z : Int32} (h1 : k ∈ hs) (h2 : ¬ k = 0) (e : z = nI (hs.idxOf k + 1)) : OKF hs d (k, x, (Os, T)) (y, msS M 0 z) := ⟨Or.inr ⟨h1, h2, e⟩, h⟩
theorem rng_t {x a b : Int32} {a' b' : Int64} (ha : a.toInt = a'.toInt) (hb : b.toInt = b'.toInt) (h : sX8_in x.toInt64 a' b' = true) : ¬ x < a ∧ x ≤ b := by
  have h1 := (in_iff32 x a' b').mp h
  exact ⟨fun q => by have := i32_lt.mp q; omega, i32_le.mpr (by omega)⟩
theorem rng_f {x a b : Int32} {a' b' : Int64} (ha : a.toInt = a'.toInt) (hb : b.toInt = b'.toInt) (h : sX8_in x.toInt64 a' b' = false) {α : Type} (u v : α) : (if x < a then u else (if x ≤ b then v else u)) = u := by
  have h1 := in_no h
  by_cases c : x < a
  · rw [if_pos c]
  · have c2 : ¬ x ≤ b := fun q => by
      have := i32_le.mp q
      have : ¬ x.toInt < a.toInt := fun z => c (i32_lt.mpr z)
      omega
    rw [if_neg c, if_neg c2]
theorem need0 (h : SR d Os T M) (x : Int32) : sX7_needSheet Os T x = if sX8_hasSheet (M.1.2 1) x = true then 0 else 3 := by
  unfold sX7_needSheet
  rw [q_hasS h.1]
theorem rd_about (h : SR d Os T M) (hd : d ≤ 1000000) (x : Int32) : OKF [1] d ((sX7_about Os T x).1, (sX7_about Os T x).2, (Os, T)) (sX8_about M x) := by
  unfold sX7_about sX8_about
  cases c : sX8_in x.toInt64 0 9
  · rw [rng_f (by decide) (by decide) c, if_pos (by decide)]
    exact ok_x h _ _ (by decide) (by decide) rfl
  · obtain ⟨c1, c2⟩ := rng_t (a := 0) (b := 9) (by decide) (by decide) c
    rw [if_neg c1, if_pos c2, if_neg (by decide)]
    unfold sX1_totalNumber
    by_cases e0 : x = 0
    · rw [if_pos e0, if_pos e0]; exact ok_v h _ h.1.1.1.1
    rw [if_neg e0, if_neg e0]
    by_cases e1 : x = 1
    · rw [if_pos e1, if_pos e1]; exact ok_v h _ h.1.1.1.2.2.1
    rw [if_neg e1, if_neg e1]
    by_cases e2 : x = 2
    · rw [if_pos e2, if_pos e2]; exact ok_v h _ (g_out h.1)
    rw [if_neg e2, if_neg e2]
    by_cases e3 : x = 3
    · rw [if_pos e3, if_pos e3]; exact ok_v h _ (g_recalled h.1)
    rw [if_neg e3, if_neg e3]
    by_cases e4 : x = 4
    · rw [if_pos e4, if_pos e4]; exact ok_v h _ (g_overdue h.1 hd)
    rw [if_neg e4, if_neg e4]
    by_cases e5 : x = 5
    · rw [if_pos e5, if_pos e5]; exact ok_v h _ h.1.1.1.2.2.2.2.1
    rw [if_neg e5, if_neg e5]
    by_cases e6 : x = 6
    · rw [if_pos e6, if_pos e6]; exact ok_v h _ (g_wrong h.1)
    rw [if_neg e6, if_neg e6]
    by_cases e7 : x = 7
    · rw [if_pos e7, if_pos e7]; exact ok_v h _ (g_toCheck h.1)
    rw [if_neg e7, if_neg e7]
    by_cases e8 : x = 8
    · rw [if_pos e8, if_pos e8]; exact ok_v h _ h.1.1.1.2.2.2.2.2.1
    rw [if_neg e8, if_neg e8]
    exact ok_v h _ h.1.1.1.2.2.2.2.2.2
theorem rd_sheet (h : SR d Os T M) (x y : Int32) : OKF [3, 1] d ((sX7_sheet Os T x y).1, (sX7_sheet Os T x y).2, (Os, T)) (sX8_sheet M x y) := by
  unfold sX7_sheet sX8_sheet
  rw [need0 h]
  cases c0 : sX8_hasSheet (M.1.2 1) x
  · exact ok_x h (k := 3) (z := 1) 0 0 (by decide) (by decide) rfl
  obtain ⟨s, hs, rfl⟩ := hasS_of h.1.c c0
  have h10 := nS_le h.1.c
  rw [if_pos (by decide)]
  cases c : sX8_in y.toInt64 0 7
  · rw [rng_f (by decide) (by decide) c, if_pos (by decide)]
    exact ok_x h _ _ (by decide) (by decide) rfl
  · obtain ⟨c1, c2⟩ := rng_t (a := 0) (b := 7) (by decide) (by decide) c
    rw [if_neg c1, if_pos c2, if_neg (by decide), ix10 (by omega), ix20 (by omega)]
    unfold sX1_sheetNumber
    by_cases e0 : y = 0
    · rw [if_pos e0, if_pos e0]; exact ok_v h _ (q_parent h.1 hs)
    rw [if_neg e0, if_neg e0]
    by_cases e1 : y = 1
    · rw [if_pos e1, if_pos e1]; exact ok_v h _ (q_rev h.1 hs)
    rw [if_neg e1, if_neg e1]
    by_cases e2 : y = 2
    · rw [if_pos e2, if_pos e2, q_toCheck h.1]; exact ok_v h _ rfl
    rw [if_neg e2, if_neg e2]
    by_cases e3 : y = 3
    · rw [if_pos e3, if_pos e3]; exact ok_v h _ (g_below h.1 hs)
    rw [if_neg e3, if_neg e3]
    by_cases e4 : y = 4
    · rw [if_pos e4, if_pos e4]; exact ok_v h _ (g_aboveN h.1 hs)
    rw [if_neg e4, if_neg e4]
    by_cases e5 : y = 5
    · rw [if_pos e5, if_pos e5]; exact ok_v h _ (g_outOf h.1 _)
    rw [if_neg e5, if_neg e5]
    by_cases e6 : y = 6
    · rw [if_pos e6, if_pos e6]; exact ok_v h _ (g_deep h.1 hs)
    rw [if_neg e6, if_neg e6]
    exact ok_v h _ (g_wrongOf h.1 (nI_m1 (by omega)))
theorem rd_field (h : SR d Os T M) (x y : Int32) : OKF [3] d ((sX7_field Os T x y).1, (sX7_field Os T x y).2, (Os, T)) (sX8_field M x y) := by
  unfold sX7_field sX8_field
  rw [need0 h]
  cases c0 : sX8_hasSheet (M.1.2 1) x
  · exact ok_x h (k := 3) (z := 1) 0 0 (by decide) (by decide) rfl
  obtain ⟨s, hs, rfl⟩ := hasS_of h.1.c c0
  have h10 := nS_le h.1.c
  rw [if_pos (by decide), q_isField]
  cases c : sX8_isField y
  · rw [if_neg (by decide), if_pos (by decide)]
    exact ok_x h _ _ (by decide) (by decide) rfl
  · obtain ⟨f, hf, rfl⟩ := field_of c
    rw [if_pos (by decide), if_neg (by decide), ixF (by omega) (by omega)]
    exact ok_v h _ (q_drawn h.1 hs hf)
theorem rd_drawnIn (h : SR d Os T M) (x y : Int32) : OKF [3, 1] d ((sX7_drawnIn Os T x y).1, (sX7_drawnIn Os T x y).2, (Os, T)) (sX8_drawnIn M x y) := by
  unfold sX7_drawnIn sX8_drawnIn
  rw [need0 h]
  cases c0 : sX8_hasSheet (M.1.2 1) x
  · exact ok_x h (k := 3) (z := 1) 0 0 (by decide) (by decide) rfl
  obtain ⟨s, hs, rfl⟩ := hasS_of h.1.c c0
  have h10 := nS_le h.1.c
  rw [if_pos (by decide), q_rev h.1 hs, ix20 (by omega)]
  have eb : (M.1.2 1 (20 + s)).toInt = (M.1.2 1 (20 + s)).toInt64.toInt := (Int32.toInt_toInt64 _).symm
  cases c : sX8_in y.toInt64 0 (M.1.2 1 (20 + s)).toInt64
  · rw [rng_f (by decide) eb c, if_pos (by decide)]
    exact ok_x h _ _ (by decide) (by decide) rfl
  · obtain ⟨c1, c2⟩ := rng_t (a := 0) (by decide) eb c
    rw [if_neg c1, if_pos c2, if_neg (by decide)]
    exact ok_v h _ (g_drawnOf (M := msS M 0 0) h.1 hs y)
theorem rd_printed (h : SR d Os T M) (x y : Int32) : OKF [3, 1] d ((sX7_printed Os T x y).1, (sX7_printed Os T x y).2, (Os, T)) (sX8_printed M x y) := by
  unfold sX7_printed sX8_printed
  rw [q_hasP h.1]
  cases c0 : sX8_hasPrint (M.1.2 1) x
  · exact ok_x h (k := 3) (z := 1) 0 0 (by decide) (by decide) rfl
  obtain ⟨p, hp, rfl⟩ := hasP_of h.1.c c0
  have h24 := nP_le h.1.c
  rw [if_pos (by decide)]
  cases c : sX8_in y.toInt64 0 8
  · rw [rng_f (by decide) (by decide) c, if_pos (by decide)]
    exact ok_x h _ _ (by decide) (by decide) rfl
  · obtain ⟨c1, c2⟩ := rng_t (a := 0) (b := 8) (by decide) (by decide) c
    rw [if_neg c1, if_pos c2, if_neg (by decide), ix150 (by omega), ix174 (by omega), ix198 (by omega), ix222 (by omega), ix246 (by omega), ix270 (by omega)]
    unfold sX1_printNumber
    by_cases e0 : y = 0
    · rw [if_pos e0, if_pos e0]; exact ok_v h _ (q_sheetP h.1 hp)
    rw [if_neg e0, if_neg e0]
    by_cases e1 : y = 1
    · rw [if_pos e1, if_pos e1]; exact ok_v h _ (q_revP h.1 hp)
    rw [if_neg e1, if_neg e1]
    by_cases e2 : y = 2
    · rw [if_pos e2, if_pos e2]; exact ok_v h _ (q_siteP h.1 hp)
    rw [if_neg e2, if_neg e2]
    by_cases e3 : y = 3
    · rw [if_pos e3, if_pos e3]; exact ok_v h _ (q_dayP h.1 hp)
    rw [if_neg e3, if_neg e3]
    by_cases e4 : y = 4
    · rw [if_pos e4, if_pos e4]; exact ok_v h _ (q_stampsP h.1 hp)
    rw [if_neg e4, if_neg e4]
    by_cases e5 : y = 5
    · rw [if_pos e5, if_pos e5, q_isOut h.1]; exact ok_v h _ rfl
    rw [if_neg e5, if_neg e5]
    by_cases e6 : y = 6
    · rw [if_pos e6, if_pos e6]; exact ok_v h _ (q_dueP h.1 hp)
    rw [if_neg e6, if_neg e6]
    by_cases e7 : y = 7
    · rw [if_pos e7, if_pos e7, q_mayBuild h.1 hp]; exact ok_v h _ rfl
    rw [if_neg e7, if_neg e7, q_sheetP h.1 hp, q_revP h.1 hp]
    exact ok_v h _ (g_fieldsOf h.1 hp)
theorem rd_work (h : SR d Os T M) (x y : Int32) : OKF [3, 1] d ((sX7_work Os T x y).1, (sX7_work Os T x y).2, (Os, T)) (sX8_work M x y) := by
  unfold sX7_work sX8_work
  rw [q_hasW h.1]
  cases c0 : sX8_hasWork (M.1.2 1) x
  · exact ok_x h (k := 3) (z := 1) 0 0 (by decide) (by decide) rfl
  obtain ⟨w, hw, rfl⟩ := hasW_of h.1.c c0
  have h30 := nW_le h.1.c
  rw [if_pos (by decide)]
  cases c : sX8_in y.toInt64 0 4
  · rw [rng_f (by decide) (by decide) c, if_pos (by decide)]
    exact ok_x h _ _ (by decide) (by decide) rfl
  · obtain ⟨c1, c2⟩ := rng_t (a := 0) (b := 4) (by decide) (by decide) c
    rw [if_neg c1, if_pos c2, if_neg (by decide), ix294 (by omega), ix324 (by omega), ix354 (by omega), ix384 (by omega)]
    unfold sX1_workNumber
    by_cases e0 : y = 0
    · rw [if_pos e0, if_pos e0]; exact ok_v h _ (q_siteW h.1 hw)
    rw [if_neg e0, if_neg e0]
    by_cases e1 : y = 1
    · rw [if_pos e1, if_pos e1]; exact ok_v h _ (q_sheetW h.1 hw)
    rw [if_neg e1, if_neg e1]
    by_cases e2 : y = 2
    · rw [if_pos e2, if_pos e2]; exact ok_v h _ (q_fieldW h.1 hw)
    rw [if_neg e2, if_neg e2]
    by_cases e3 : y = 3
    · rw [if_pos e3, if_pos e3]; exact ok_v h _ (q_revW h.1 hw)
    rw [if_neg e3, if_neg e3, q_isWrong h.1 hw]
    exact ok_v h _ rfl
theorem rd_setting (h : SR d Os T M) (x : Int32) : OKF [1] d ((sX7_setting Os T x).1, (sX7_setting Os T x).2, (Os, T)) (sX8_setting M x) := by
  unfold sX7_setting sX8_setting sX1_settingOf
  rw [q_isSetting]
  cases c : sX8_in x.toInt64 0 2
  · rw [if_neg (by decide), if_pos (by decide)]
    exact ok_x h _ _ (by decide) (by decide) rfl
  · have h1 := (in_iff32 x 0 2).mp c
    have e4 : (0 : Int64).toInt = 0 := rfl
    have e2 : (2 : Int64).toInt = 2 := rfl
    obtain ⟨w, ew, hw, -⟩ := i_ex (x := x) (by omega)
    subst ew
    show OKF [1] d (0, (Os 0).2 4 (nI w).toNatClampNeg, (Os, T)) (M.1.2 1 (5 + nI w).toNatClampNeg, msS M 0 0)
    rw [ix5 (by omega), ixN (by omega)]
    exact ok_v h _ (h.1.1.2.1 w (by omega))
theorem rd_truePrint (h : SR d Os T M) (x y : Int32) : OKF [3] d ((sX7_truePrint Os T x y).1, (sX7_truePrint Os T x y).2, (Os, T)) (sX8_truePrint M x y) := by
  unfold sX7_truePrint sX8_truePrint
  rw [need0 h, q_isSite]
  cases c : sX8_isSite x
  · exact ok_x h (k := 3) (z := 1) 0 0 (by decide) (by decide) rfl
  cases c0 : sX8_hasSheet (M.1.2 1) y
  · exact ok_x h (k := 3) (z := 1) 0 0 (by decide) (by decide) rfl
  rw [if_pos rfl, if_pos (by decide), if_neg (by decide)]
  exact ok_v h _ (g_first h.1 x y)
theorem fetch_2 (hc : IVc (M.1.2 1)) (x : Int32) : ∀ n i f, i + n = nP (M.1.2 1) → (LX8_fetch_22 M x (n + 1) f (nI i)).2 = msS M 0 (b2i (if 0 ≤ x then false else true)) := by
  have e2' : M.1.2 1 (1 : Int32).toNatClampNeg = nI (nP (M.1.2 1)) := nP_e hc
  have hm := nP_lt hc
  intro n
  induction n with
  | zero => intro i f hi; rw [LX8_fetch_22_eq, e2', if_pos (nI_le (by omega) (by omega))]
  | succ n ih =>
    intro i f hi
    rw [LX8_fetch_22_eq, e2', if_neg (nI_ge (by omega) hm), nI_1]
    exact ih (i + 1) _ (by omega)
theorem rd_fetch (h : SR d Os T M) (x : Int32) : OKF [1] d ((sX7_fetch Os T x).1, (sX7_fetch Os T x).2, (Os, T)) (sX8_fetch M x) := by
  unfold sX7_fetch sX8_fetch
  have e2' : M.1.2 1 (1 : Int32).toNatClampNeg = nI (nP (M.1.2 1)) := nP_e h.1.c
  have hm := nP_lt h.1.c
  by_cases c : 0 ≤ x
  · have hb : (if 0 ≤ x then false else true) = false := if_pos c
    have k1 := g_fetch (M := M) h.1 x M rfl
    have k2 := fetch_2 h.1.c x (nP (M.1.2 1)) 0 (-1) (by omega)
    rw [e2', upM_n0 hm] at k1
    rw [hb] at k2
    rw [if_pos c, hb, if_neg (by decide), e2', upM_n0 hm]
    refine ⟨Or.inl ⟨rfl, ?_, k1⟩, ?_⟩
    · show (LX8_fetch_22 M x (nP (M.1.2 1) + 1) (-1) (nI 0)).2.1.1 0 = 0
      rw [k2]; rfl
    · show SR d Os T (LX8_fetch_22 M x (nP (M.1.2 1) + 1) (-1) (nI 0)).2
      rw [k2]; exact h
  · have hb : (if 0 ≤ x then false else true) = true := if_neg c
    rw [if_neg c, hb, if_pos (by decide)]
    exact ok_x h (k := 1) (z := 1) 0 0 (by decide) (by decide) rfl
theorem common_2 (hr : TRr (M.1.2 1)) (p t : Int32) : ∀ n x m, n ≤ 10 → pre (M.1.2 1) n x → n ≤ m → (LX8_common_38 M p t (m + 1) x).2 = msS M 0 (b2i (if (sX8_hasSheet (M.1.2 1) p) = true then (if (sX8_hasSheet (M.1.2 1) t) = true then false else true) else true)) := by
  have h10 := hr.1
  intro n
  induction n with
  | zero =>
    intro x m _ hx _
    rcases hx with rfl | ⟨j, h1, _⟩
    · rw [LX8_common_38_eq, if_pos rfl]
    · exact absurd h1 (Nat.not_lt_zero j)
  | succ n ih =>
    intro x m hn hx hm
    rcases hx with rfl | ⟨j, h1, h2, rfl⟩
    · rw [LX8_common_38_eq, if_pos rfl]
    · obtain ⟨m', rfl⟩ : ∃ m', m = m' + 1 := ⟨m - 1, by omega⟩
      rw [LX8_common_38_eq, if_neg (nI_m1 (by omega)), ix10 (by omega)]
      by_cases c : sX8_isUnder (M.1.2 1) t (nI j) = true
      · rw [if_pos c]
      · rw [if_neg c]
        exact ih _ m' (by omega) (pre_par hr h2 (by omega)) (by omega)
theorem rd_common (h : SR d Os T M) (x y : Int32) : OKF [3] d ((sX7_common Os T x y).1, (sX7_common Os T x y).2, (Os, T)) (sX8_common M x y) := by
  unfold sX7_common sX8_common
  rw [need0 h, need0 h]
  cases c0 : sX8_hasSheet (M.1.2 1) x
  · exact ok_x h (k := 3) (z := 1) 0 0 (by decide) (by decide) rfl
  cases c : sX8_hasSheet (M.1.2 1) y
  · exact ok_x h (k := 3) (z := 1) 0 0 (by decide) (by decide) rfl
  obtain ⟨s, hs, rfl⟩ := hasS_of h.1.c c0
  obtain ⟨t, ht, rfl⟩ := hasS_of h.1.c c
  have hr := h.1.tr
  have h10 := nS_le h.1.c
  have hp : pre (M.1.2 1) 10 (nI s) := pre_mono (pre_nI hs) (by omega)
  have k2 := common_2 hr (nI s) (nI t) _ _ _ (pre_dn hr hp).2 (pre_dn hr hp).1 (Nat.le_refl _)
  rw [c0, c] at k2
  have k1 := g_common h.1 hs ht
  show OKF [3] d (0, sX4_lowestOverBoth (Os 0) (nI s) (nI t), (Os, T)) (LX8_common_38 M (nI s) (nI t) (dnM (nI s) + 1) (nI s))
  refine ⟨Or.inl ⟨rfl, ?_, k1⟩, ?_⟩
  · rw [k2]; rfl
  · show SR d Os T (LX8_common_38 M (nI s) (nI t) (dnM (nI s) + 1) (nI s)).2
    rw [k2]; exact h
/-! copies of a row -/
theorem copy_e (a b : Nat → Int32) : sX8_copy a b = fb_put a b 0 414 := by
  have key : ∀ n i, i + n = 414 → LX8_copy_2 a b (n + 1) (nI i) (fb_put a b 0 i) = fb_put a b 0 414 := by
    intro n
    induction n with
    | zero =>
      intro i hi
      have : i = 414 := by omega
      subst this
      rw [LX8_copy_2_eq]; exact if_pos (by decide)
    | succ n ih =>
      intro i hi
      have u := fb_put_succ a b 0 i
      rw [Nat.zero_add] at u
      rw [LX8_copy_2_eq, if_neg (ge414 (by omega)), ixN (by omega), u, nI_1]
      exact ih (i + 1) (by omega)
  have k0 := key 414 0 (by omega)
  rw [fb_put_0] at k0
  unfold sX8_copy
  rw [show upM 414 0 = 414 from upM_n0 (m := 414) (by decide)]
  exact k0
theorem copy_eq (a b : Nat → Int32) : eqR 0 414 (sX8_copy a b) b := fun k _ h2 => by
  rw [copy_e, fb_put_in (by omega) (by omega)]
  rfl
theorem rd_coming (h : SR d Os T M) (hd : d ≤ 1000000) (x : Int32) : OKF [1] d ((sX7_coming Os T x).1, (sX7_coming Os T x).2, (Os, T)) (sX8_coming M x) := by
  unfold sX7_coming sX8_coming
  rw [q_isDays]
  cases c : sX8_in x.toInt64 1 30
  · exact ok_x h (k := 1) (z := 1) 0 0 (by decide) (by decide) rfl
  · obtain ⟨n, -, hn, rfl⟩ := days_of c
    have h2 := h.1.congr (copy_eq (M.1.2 2) (M.1.2 1))
    exact ⟨Or.inl ⟨rfl, rfl, g_coming h2 hd (by omega)⟩, h⟩
theorem rd_ifRevised (h : SR d Os T M) (hd : d ≤ 1000000) (x y z : Int32) : OKF [3, 1, 2] d ((sX7_ifRevised Os T x y z).1, (sX7_ifRevised Os T x y z).2, (Os, T)) (sX8_ifRevised M x y z) := by
  unfold sX7_ifRevised sX8_ifRevised
  rw [need0 h, q_isCloud]
  cases c0 : sX8_hasSheet (M.1.2 1) x
  · exact ok_x h (k := 3) (z := 1) 0 0 (by decide) (by decide) rfl
  cases c1 : sX8_isCloud y
  · exact ok_x h (k := 1) (z := 2) 0 0 (by decide) (by decide) rfl
  obtain ⟨s, hs, rfl⟩ := hasS_of h.1.c c0
  have h10 := nS_le h.1.c
  cases c2 : sX8_in z.toInt64 0 3
  · have t := rng_f (a := 0) (b := 3) (by decide) (by decide) c2 ((1, 0) : Nat × Int32) (if sX4_revisionOf (Os 0) (nI s) < 99 then (if z = 0 then (0, sX3_recallCountOf (Os 0) (nI s)) else (if z = 1 then (0, sX1_worksMadeWrong (Os 0) (nI s) y) else (if z = 2 then (0, sX4_aboveNotToCheck (Os 0) (nI s)) else (0, sX1_sitesWithTruePrint (Os 0) (nI s))))) else (2, 0))
    rw [if_pos (by decide), if_pos rfl, t]
    exact ok_x h (k := 1) (z := 2) 0 0 (by decide) (by decide) rfl
  obtain ⟨d1, d2⟩ := rng_t (a := 0) (b := 3) (by decide) (by decide) c2
  rw [if_pos (by decide), if_pos rfl, if_neg d1, if_pos d2, q_rev h.1 hs]
  have h2 := h.1.congr (copy_eq (M.1.2 2) (M.1.2 1))
  have es : sX8_copy (M.1.2 2) (M.1.2 1) (20 + s) = M.1.2 1 (20 + s) := copy_eq _ _ _ (by omega) (by omega)
  have e8 : sX8_copy (M.1.2 2) (M.1.2 1) 8 = M.1.2 1 8 := copy_eq _ _ _ (by omega) (by omega)
  have en : nS (sX8_copy (M.1.2 2) (M.1.2 1)) = nS (M.1.2 1) := nS_c (copy_eq _ _ _ (by omega) (by omega))
  have hs2 : s < nS (sX8_copy (M.1.2 2) (M.1.2 1)) := by rw [en]; exact hs
  have z9 : (99 : Int32).toInt = 99 := rfl
  by_cases c3 : M.1.2 1 (20 + s) < 99
  · have c4 : sX8_canRevise (M.1.2 1) (nI s) = true := by
      unfold sX8_canRevise
      rw [ix20 (by omega), if_neg (fun q => by have := i32_le.mp q; have := i32_lt.mp c3; omega)]
    have c5 := i32_lt.mp c3
    rw [c4, if_pos c3, if_neg (show ¬ refB (if true = true then (if true = true then (if true = true then (if true = true then (0 : Int32) else 3) else 2) else 2) else 1) = true by decide), goRevise_e h2.2 hs2]
    have h99 : (sX8_copy (M.1.2 2) (M.1.2 1) (20 + s)).toInt < 99 := by rw [es]; omega
    by_cases e0 : z = 0
    · rw [if_pos e0, if_pos e0]
      exact ⟨Or.inl ⟨rfl, rfl, k_recallCount h2 (nI s)⟩, h⟩
    rw [if_neg e0, if_neg e0]
    by_cases e1 : z = 1
    · rw [if_pos e1, if_pos e1]
      refine ⟨Or.inl ⟨rfl, rfl, ?_⟩, h⟩
      show sX1_worksMadeWrong (Os 0) (nI s) y = sX8_wrong _ - sX8_wrong (M.1.2 1)
      rw [g_madeWrong h2 hs2 y h99, ← g_wrong h2, ← g_wrong h.1]
    rw [if_neg e1, if_neg e1]
    by_cases e2 : z = 2
    · have k8 := g_aboveNot h2 hs2 y
      rw [e8] at k8
      rw [if_pos e2, if_pos e2, cl_8, ← k8]
      exact ⟨Or.inl ⟨rfl, rfl, rfl⟩, h⟩
    rw [if_neg e2, if_neg e2]
    refine ⟨Or.inl ⟨rfl, rfl, ?_⟩, h⟩
    exact g_sitesLost (M := msA (msA (msS M 0 0) 2 (sX8_copy (M.1.2 2) (M.1.2 1))) 2 (rvR (sX8_copy (M.1.2 2) (M.1.2 1)) s y)) h.1 s (fun a => rv_first h2 hd hs2 y a)
  · have c4 : sX8_canRevise (M.1.2 1) (nI s) = false := by
      unfold sX8_canRevise
      rw [ix20 (by omega), if_pos (i32_le.mpr (by have : ¬ (M.1.2 1 (20 + s)).toInt < (99 : Int32).toInt := fun q => c3 (i32_lt.mpr q); omega))]
    rw [c4, if_neg c3]
    exact ok_x h (k := 2) (z := 3) 0 0 (by decide) (by decide) rfl
end
