/-! math: the face's actions -/
section
variable {d : Nat} {Os : Nat → OF} {T : OF} {M : MS} (h : SR d Os T M)
theorem fc_draw (h : SR d Os T M) (x : Int32) : OKF [3, 2] d (sX7_draw Os T x) (sX8_draw M x) := by
  have hV : sX7_draw Os T x = sX7_keptAnswer (va_up (sX0_hold Os T).1 0 (sX1_addSheet ((sX0_hold Os T).1 0) x).2) T (sX1_addSheet ((sX0_hold Os T).1 0) x).1 := kept_z _ _ _
  rw [hold_0 h] at hV
  rcases a_draw h.1 x with ⟨c1, c2, e⟩ | ⟨c1, c2, e⟩ | ⟨c1, c2, e⟩
  · refine fc_x h hV e (kept_r2 _ _) (by decide) (by decide) (z := 1) ?_ rfl
    unfold sX8_draw; rw [if_neg c1, c2]; rfl
  · refine fc_x h hV e (kept_r4 _ _) (by decide) (by decide) (z := 2) ?_ rfl
    unfold sX8_draw
    by_cases c : x = -1
    · rw [if_pos c, c2]; rfl
    · rw [if_neg c, c1.resolve_left c, c2]; rfl
  · refine fc_v (Nat.le_refl _) h hV e ?_
    unfold sX8_draw
    have e0 := (rem_1 h).1
    by_cases c : x = -1
    · rw [if_pos c, c2]
      show ((sX8_goDraw ((sX8_remember (msS M 0 0)).1.2 1) x).1, msA (sX8_remember (msS M 0 0)) 1 (sX8_goDraw ((sX8_remember (msS M 0 0)).1.2 1) x).2) = _
      rw [e0]
    · rw [if_neg c, c1.resolve_left c, c2]
      show ((sX8_goDraw ((sX8_remember (msS M 0 0)).1.2 1) x).1, msA (sX8_remember (msS M 0 0)) 1 (sX8_goDraw ((sX8_remember (msS M 0 0)).1.2 1) x).2) = _
      rw [e0]
theorem fc_revise (h : SR d Os T M) (hd : d ≤ 1000000) (x y : Int32) : OKF [3, 1, 2] d (sX7_revise Os T x y) (sX8_revise M x y) := by
  have hV : sX7_revise Os T x y = sX7_keptAnswer (va_up (sX0_hold Os T).1 0 (sX1_reviseSheet ((sX0_hold Os T).1 0) x y).2) T (sX1_reviseSheet ((sX0_hold Os T).1 0) x y).1 := kept_z _ _ _
  rw [hold_0 h] at hV
  rcases a_revise h.1 hd x y with ⟨c1, e⟩ | ⟨c1, c2, e⟩ | ⟨c1, c2, c3, e⟩ | ⟨c1, c2, c3, e⟩
  · refine fc_x h hV e (kept_r2 _ _) (by decide) (by decide) (z := 1) ?_ rfl
    unfold sX8_revise; rw [c1]; rfl
  · refine fc_x h hV e (kept_r3 _ _) (by decide) (by decide) (z := 2) ?_ rfl
    unfold sX8_revise; rw [c1, c2]; rfl
  · refine fc_x h hV e (kept_r4 _ _) (by decide) (by decide) (z := 3) ?_ rfl
    unfold sX8_revise; rw [c1, c2, c3]; rfl
  · refine fc_v (Nat.le_refl _) h hV e ?_
    unfold sX8_revise
    have e0 := (rem_1 h).1
    rw [c1, c2, c3]
    show ((sX8_goRevise ((sX8_remember (msS M 0 0)).1.2 1) x y).1, msA (sX8_remember (msS M 0 0)) 1 (sX8_goRevise ((sX8_remember (msS M 0 0)).1.2 1) x y).2) = _
    rw [e0]
theorem fc_check (h : SR d Os T M) (x : Int32) : OKF [3, 2] d (sX7_check Os T x) (sX8_check M x) := by
  have hV : sX7_check Os T x = sX7_keptAnswer (va_up (sX0_hold Os T).1 0 (sX1_checkSheet ((sX0_hold Os T).1 0) x).2) T (sX1_checkSheet ((sX0_hold Os T).1 0) x).1 := kept_z _ _ _
  rw [hold_0 h] at hV
  rcases a_check h.1 x with ⟨c1, e⟩ | ⟨c1, c2, e⟩ | ⟨c1, c2, e⟩
  · refine fc_x h hV e (kept_r2 _ _) (by decide) (by decide) (z := 1) ?_ rfl
    unfold sX8_check; rw [c1]; rfl
  · refine fc_x h hV e (kept_r4 _ _) (by decide) (by decide) (z := 2) ?_ rfl
    unfold sX8_check; rw [c1, cl_8, c2]; rfl
  · refine fc_v (Nat.le_refl _) h hV e ?_
    unfold sX8_check
    have e0 := (rem_1 h).1
    rw [c1, cl_8, c2]
    show ((sX8_goCheck ((sX8_remember (msS M 0 0)).1.2 1) x).1, msA (sX8_remember (msS M 0 0)) 1 (sX8_goCheck ((sX8_remember (msS M 0 0)).1.2 1) x).2) = _
    rw [e0]
theorem fc_print (h : SR d Os T M) (x y : Int32) : OKF [3, 2] d (sX7_print Os T x y) (sX8_print M x y) := by
  have hV : sX7_print Os T x y = sX7_keptAnswer (va_up (sX0_hold Os T).1 0 (sX1_addPrint ((sX0_hold Os T).1 0) x y).2) T (sX1_addPrint ((sX0_hold Os T).1 0) x y).1 := kept_z _ _ _
  rw [hold_0 h] at hV
  rcases a_print h.1 x y with ⟨c1, e⟩ | ⟨⟨c1, c2⟩, c3, e⟩ | ⟨⟨c1, c2⟩, c3, e⟩
  · refine fc_x h hV e (kept_r2 _ _) (by decide) (by decide) (z := 1) ?_ rfl
    unfold sX8_print
    rcases c1 with c1 | c1
    · rw [c1]; rfl
    · rw [c1]; cases sX8_hasSheet (M.1.2 1) x <;> rfl
  · refine fc_x h hV e (kept_r4 _ _) (by decide) (by decide) (z := 2) ?_ rfl
    unfold sX8_print; rw [c1, c2, c3]; rfl
  · refine fc_v (Nat.le_refl _) h hV e ?_
    unfold sX8_print
    have e0 := (rem_1 h).1
    rw [c1, c2, c3]
    show ((sX8_goPrint ((sX8_remember (msS M 0 0)).1.2 1) x y).1, msA (sX8_remember (msS M 0 0)) 1 (sX8_goPrint ((sX8_remember (msS M 0 0)).1.2 1) x y).2) = _
    rw [e0]
theorem fc_stamp (h : SR d Os T M) (x y : Int32) : OKF [3, 2] d (sX7_stamp Os T x y) (sX8_stamp M x y) := by
  have hV : sX7_stamp Os T x y = sX7_keptAnswer (va_up (sX0_hold Os T).1 0 (sX1_stampPrint ((sX0_hold Os T).1 0) x y).2) T (sX1_stampPrint ((sX0_hold Os T).1 0) x y).1 := kept_z _ _ _
  rw [hold_0 h] at hV
  rcases a_stamp h.1 x y with ⟨c1, e⟩ | ⟨⟨c1, c2⟩, c3, e⟩ | ⟨⟨c1, c2⟩, c3, e⟩
  · refine fc_x h hV e (kept_r2 _ _) (by decide) (by decide) (z := 1) ?_ rfl
    unfold sX8_stamp
    rcases c1 with c1 | c1
    · rw [c1]; rfl
    · rw [c1]; cases sX8_hasPrint (M.1.2 1) x <;> rfl
  · refine fc_x h hV e (kept_r4 _ _) (by decide) (by decide) (z := 2) ?_ rfl
    unfold sX8_stamp; rw [c1, c2, c3]; rfl
  · refine fc_v (Nat.le_refl _) h hV e ?_
    unfold sX8_stamp
    have e0 := (rem_1 h).1
    rw [c1, c2, c3]
    show ((sX8_goStamp ((sX8_remember (msS M 0 0)).1.2 1) x y).1, msA (sX8_remember (msS M 0 0)) 1 (sX8_goStamp ((sX8_remember (msS M 0 0)).1.2 1) x y).2) = _
    rw [e0]
theorem fc_back (h : SR d Os T M) (hd : d ≤ 1000000) (x : Int32) : OKF [3, 2] d (sX7_back Os T x) (sX8_back M x) := by
  have hV : sX7_back Os T x = sX7_keptAnswer (va_up (sX0_hold Os T).1 0 (sX1_takeBack ((sX0_hold Os T).1 0) x).2) T (sX1_takeBack ((sX0_hold Os T).1 0) x).1 := kept_z _ _ _
  rw [hold_0 h] at hV
  rcases a_back h.1 hd x with ⟨c1, e⟩ | ⟨c1, c2, e⟩ | ⟨c1, c2, e⟩
  · refine fc_x h hV e (kept_r2 _ _) (by decide) (by decide) (z := 1) ?_ rfl
    unfold sX8_back; rw [c1]; rfl
  · refine fc_x h hV e (kept_r4 _ _) (by decide) (by decide) (z := 2) ?_ rfl
    unfold sX8_back; rw [c1, c2]; rfl
  · refine fc_v (Nat.le_refl _) h hV e ?_
    unfold sX8_back
    have e0 := (rem_1 h).1
    rw [c1, c2]
    show ((sX8_goBack ((sX8_remember (msS M 0 0)).1.2 1) x).1, msA (sX8_remember (msS M 0 0)) 1 (sX8_goBack ((sX8_remember (msS M 0 0)).1.2 1) x).2) = _
    rw [e0]
theorem fc_build (h : SR d Os T M) (x y : Int32) : OKF [3, 2] d (sX7_build Os T x y) (sX8_build M x y) := by
  have hV : sX7_build Os T x y = sX7_keptAnswer (va_up (sX0_hold Os T).1 0 (sX1_buildField ((sX0_hold Os T).1 0) x y).2) T (sX1_buildField ((sX0_hold Os T).1 0) x y).1 := kept_z _ _ _
  rw [hold_0 h] at hV
  rcases a_build h.1 x y with ⟨c1, e⟩ | ⟨⟨c1, c2⟩, c3, e⟩ | ⟨⟨c1, c2⟩, c3, e⟩
  · refine fc_x h hV e (kept_r2 _ _) (by decide) (by decide) (z := 1) ?_ rfl
    unfold sX8_build
    rcases c1 with c1 | c1
    · rw [c1]; rfl
    · rw [c1]; cases sX8_hasPrint (M.1.2 1) x <;> rfl
  · refine fc_x h hV e (kept_r4 _ _) (by decide) (by decide) (z := 2) ?_ rfl
    unfold sX8_build; rw [c1, c2, c3]; rfl
  · refine fc_v (Nat.le_refl _) h hV e ?_
    unfold sX8_build
    have e0 := (rem_1 h).1
    rw [c1, c2, c3]
    show ((sX8_goBuild ((sX8_remember (msS M 0 0)).1.2 1) x y).1, msA (sX8_remember (msS M 0 0)) 1 (sX8_goBuild ((sX8_remember (msS M 0 0)).1.2 1) x y).2) = _
    rw [e0]
theorem fc_mend (h : SR d Os T M) (x : Int32) : OKF [3, 2] d (sX7_mend Os T x) (sX8_mend M x) := by
  have hV : sX7_mend Os T x = sX7_keptAnswer (va_up (sX0_hold Os T).1 0 (sX1_mendWork ((sX0_hold Os T).1 0) x).2) T (sX1_mendWork ((sX0_hold Os T).1 0) x).1 := kept_z _ _ _
  rw [hold_0 h] at hV
  rcases a_mend h.1 x with ⟨c1, e⟩ | ⟨c1, c2, e⟩ | ⟨c1, c2, e⟩
  · refine fc_x h hV e (kept_r2 _ _) (by decide) (by decide) (z := 1) ?_ rfl
    unfold sX8_mend; rw [c1]; rfl
  · refine fc_x h hV e (kept_r4 _ _) (by decide) (by decide) (z := 2) ?_ rfl
    unfold sX8_mend; rw [c1, c2]; rfl
  · refine fc_v (Nat.le_refl _) h hV e ?_
    unfold sX8_mend
    have e0 := (rem_1 h).1
    rw [c1, c2]
    show ((sX8_goMend ((sX8_remember (msS M 0 0)).1.2 1) x).1, msA (sX8_remember (msS M 0 0)) 1 (sX8_goMend ((sX8_remember (msS M 0 0)).1.2 1) x).2) = _
    rw [e0]
theorem fc_run (h : SR d Os T M) (hd : d ≤ 1000000) (x : Int32) : OKF [1] (d + 30) (sX7_run Os T x) (sX8_run M x) := by
  have hV : sX7_run Os T x = sX7_keptAnswer (va_up (sX0_hold Os T).1 0 (sX1_passDays ((sX0_hold Os T).1 0) x).2) T (sX1_passDays ((sX0_hold Os T).1 0) x).1 := kept_z _ _ _
  rw [hold_0 h] at hV
  rcases a_run h.1 hd x with ⟨c1, e⟩ | ⟨c1, e⟩
  · refine fc_x (h.mono (by omega)) hV e (kept_r3 _ _) (by decide) (by decide) (z := 1) ?_ rfl
    unfold sX8_run; rw [c1]; rfl
  · refine fc_v (by omega) h hV e ?_
    unfold sX8_run
    have e0 := (rem_1 h).1
    rw [c1]
    show ((sX8_goRun ((sX8_remember (msS M 0 0)).1.2 1) x).1, msA (sX8_remember (msS M 0 0)) 1 (sX8_goRun ((sX8_remember (msS M 0 0)).1.2 1) x).2) = _
    rw [e0]
theorem fc_set (h : SR d Os T M) (x y : Int32) : OKF [1] d (sX7_set Os T x y) (sX8_set M x y) := by
  have hV : sX7_set Os T x y = sX7_keptAnswer (va_up (sX0_hold Os T).1 0 (sX1_changeSetting ((sX0_hold Os T).1 0) x y).2) T (sX1_changeSetting ((sX0_hold Os T).1 0) x y).1 := kept_z _ _ _
  rw [hold_0 h] at hV
  rcases a_set h.1 x y with ⟨c1, e⟩ | ⟨c1, e⟩
  · refine fc_x h hV e (kept_r3 _ _) (by decide) (by decide) (z := 1) ?_ rfl
    unfold sX8_set; rw [c1]; rfl
  · refine fc_v (Nat.le_refl _) h hV e ?_
    unfold sX8_set
    have e0 := (rem_1 h).1
    rw [c1]
    show ((sX8_remember (msS M 0 0)).1.2 1 (5 + x).toNatClampNeg, msA (sX8_remember (msS M 0 0)) 1 (upd ((sX8_remember (msS M 0 0)).1.2 1) (5 + x).toNatClampNeg y)) = _
    rw [e0]
/-! the text -/
theorem fc_append (h : SR d Os T M) (x : Int32) : OKF [1, 2] d (sX7_append Os T x) (sX8_append M x) := by
  obtain ⟨t1, t2, t3⟩ := h.2.1
  have z120 : (120 : Int32).toInt = 120 := rfl
  unfold sX7_append sX8_append
  rw [t2]
  cases c : sX8_in x.toInt64 0 255
  · rw [rng_f (by decide) (by decide) c]
    exact ok_x h (k := 1) (z := 1) 0 0 (by decide) (by decide) rfl
  · obtain ⟨c1, c2⟩ := rng_t (a := 0) (b := 255) (by decide) (by decide) c
    have h1 := (in_iff32 x 0 255).mp c
    have e4 : (0 : Int64).toInt = 0 := rfl
    have e2 : (255 : Int64).toInt = 255 := rfl
    obtain ⟨q, eq, hq, -⟩ := i_ex (x := x) (by omega)
    obtain ⟨n, en, hn, en2⟩ := i_ex t1.1
    rw [if_neg c1, if_pos c2]
    unfold sX2_isFull
    rw [en]
    by_cases c3 : n = 120
    · subst c3
      rw [if_neg (show ¬ nI 120 < 120 by decide), if_pos (show nI 120 = 120 from rfl)]
      exact ok_x h (k := 2) (z := 2) 0 0 (by decide) (by decide) rfl
    · have c4 : nI n < 120 := nI_lt (b := 120) (by omega) (by decide)
      have c5 : ¬ nI n = 120 := fun z => c3 ((nI_eq (b := 120) (by omega) (by decide)).mp z)
      have c6 : ¬ 120 ≤ nI n := nI_ge (b := 120) (by omega) (by decide)
      rw [if_pos c4, if_neg c5]
      have ev : vp_nar .char ((x.toUInt32 % 65536).toInt32) = nI q := by
        rw [eq, (sb_byte q (by omega)).2.1]
        unfold vp_nar
        rw [(pk_charN (q := q) (by omega)).1]
      have ea : sX2_add T ((x.toUInt32 % 65536).toInt32) = (nI (n + 1), stS (stA T 2 (upd (T.2 2) n (nI q))) 0 (nI (n + 1))) := by
        unfold sX2_add
        rw [en, if_neg (nI_pos (by omega)), if_neg c6, ev, ixN (by omega), nI_1]
      show OKF [1, 2] d (0, (sX2_add T ((x.toUInt32 % 65536).toInt32)).1, (Os, (sX2_add T ((x.toUInt32 % 65536).toInt32)).2)) (nI n + 1, msS (msA (msS M 0 0) 7 (upd (M.1.2 7) (nI n).toNatClampNeg x)) 2 (nI n + 1))
      rw [ea, nI_1, ixN (by omega), eq]
      refine ⟨Or.inl ⟨rfl, rfl, rfl⟩, h.1, ⟨?_, rfl, fun k hk => ?_⟩, h.2.2⟩
      · show 0 ≤ (nI (n + 1)).toInt ∧ (nI (n + 1)).toInt ≤ 120
        rw [nI_toInt (by omega)]; omega
      · have hk : (k : Int) < (nI (n + 1)).toInt := hk
        rw [nI_toInt (by omega)] at hk
        show upd (T.2 2) n (nI q) k = upd (M.1.2 7) n (nI q) k ∧ 0 ≤ (upd (M.1.2 7) n (nI q) k).toInt ∧ (upd (M.1.2 7) n (nI q) k).toInt ≤ 255
        by_cases ck : k = n
        · subst ck
          rw [pk_us, pk_us, nI_toInt (by omega)]
          exact ⟨rfl, by omega, by omega⟩
        · rw [pk_un ck, pk_un ck]
          exact t3 k (by omega)
theorem fc_clearText (h : SR d Os T M) : (sX7_clearText Os T).1 = (sX8_clearText M).1 ∧ SR d (sX7_clearText Os T).2.1 (sX7_clearText Os T).2.2 (sX8_clearText M).2 := by
  refine ⟨h.2.1.2.1.symm, h.1, ⟨by show 0 ≤ (0 : Int32).toInt ∧ (0 : Int32).toInt ≤ 120; decide, rfl, fun k hk => ?_⟩, h.2.2⟩
  have hk : (k : Int) < (0 : Int32).toInt := hk
  have z : (0 : Int32).toInt = 0 := rfl
  omega
theorem worst_2 : ∀ n i b, i + n = 4 → (LX8_worst_9 M (n + 1) b (nI i)).2 = msS M 0 0 := by
  intro n
  induction n with
  | zero =>
    intro i b hi
    have : i = 4 := by omega
    subst this
    rw [LX8_worst_9_eq, if_pos (show (4 : Int32) ≤ nI 4 by decide)]
  | succ n ih =>
    intro i b hi
    rw [LX8_worst_9_eq, if_neg (ge4 (by omega)), nI_1]
    exact ih (i + 1) _ (by omega)
theorem fc_worst (h : SR d Os T M) (hd : d ≤ 1000000) : sX7_worst Os T = (sX8_worst M).1 ∧ SR d Os T (sX8_worst M).2 := by
  refine ⟨g_worst h.1 hd, ?_⟩
  have e : (sX8_worst M).2 = msS M 0 0 := by
    unfold sX8_worst
    rw [show upM 4 1 = 3 from upM_nI (m := 4) (i := 1) (by decide) (by decide)]
    exact worst_2 3 1 0 (by decide)
  rw [e]
  exact h
end
