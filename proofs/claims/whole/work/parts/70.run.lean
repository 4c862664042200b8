/-! math: days that go by -/
section
variable {d : Nat} {O : OF} {r : Nat → Int32} (h : RO d O r)
/-- the days of n, from today on, on which a print is overdue -/
def ovN (r : Nat → Int32) (n p : Nat) : Nat := if (sX8_isOut r (nI p) && sX8_isRecalled r (nI p)) = true then min n ((r 3).toInt + n - (r (270 + p)).toInt).toNat else 0
theorem day_ov {k : Nat} (hk : k < 1000) (t : Int32) : sX8_isOverdue r (nI k) t = ((sX8_isOut r (nI k) && sX8_isRecalled r (nI k)) && decide ((r (270 + k)).toInt < t.toInt)) := by
  unfold sX8_isOverdue
  rw [ix270 hk]
  cases sX8_isOut r (nI k)
  · rfl
  · cases sX8_isRecalled r (nI k)
    · rfl
    · by_cases c : t ≤ r (270 + k)
      · have : ¬ (r (270 + k)).toInt < t.toInt := by have := i32_le.mp c; omega
        simp [c, this]
      · have : (r (270 + k)).toInt < t.toInt := by have : ¬ t.toInt ≤ (r (270 + k)).toInt := fun q => c (i32_le.mpr q); omega
        simp [c, this]
theorem sum_loop {α : Type} {L : Nat → Int32 → Int32 → α} {E : Int32 → α} {g : Nat → Nat} {m : Nat} (b : Int32)
    (hE : ∀ n a, L (n + 1) a (nI m) = E a)
    (hS : ∀ n a i, i < m → L (n + 1) a (nI i) = L n (a + nI (g i)) (nI (i + 1))) :
    ∀ n i, i + n = m → L (n + 1) (b + nI (fb_sm g i)) (nI i) = E (b + nI (fb_sm g m)) := by
  intro n
  induction n with
  | zero => intro i hi; have e : i = m := by omega
            subst e; exact hE _ _
  | succ n ih =>
    intro i hi
    rw [hS _ _ _ (by omega), ← ih (i + 1) (by omega), fb_sm_succ, Int32.add_assoc, nI_add]
theorem ov_next (k : Nat) (n : Nat) : ovN r (n + 1) k = ovN r n k + (if ((sX8_isOut r (nI k) && sX8_isRecalled r (nI k)) && decide ((r (270 + k)).toInt < (r 3).toInt + (n + 1))) = true then 1 else 0) := by
  unfold ovN
  cases (sX8_isOut r (nI k) && sX8_isRecalled r (nI k))
  · rfl
  · rw [if_pos rfl, if_pos rfl, Bool.true_and]
    by_cases c : (r (270 + k)).toInt < (r 3).toInt + (n + 1)
    · rw [if_pos (decide_eq_true c)]
      have h1 : ((r 3).toInt + ((n + 1 : Nat) : Int) - (r (270 + k)).toInt).toNat = ((r 3).toInt + (n : Int) - (r (270 + k)).toInt).toNat + 1 ∨ (((r 3).toInt + ((n + 1 : Nat) : Int) - (r (270 + k)).toInt).toNat = 0) := by omega
      omega
    · rw [if_neg (by simpa using c)]
      omega
theorem ct_sm (p : Nat → Bool) : ∀ n, fb_ct p n = fb_sm (fun k => if p k = true then 1 else 0) n := by
  intro n
  induction n with
  | zero => rfl
  | succ n ih => rw [fb_ct_succ, fb_sm_succ, ih]
theorem k_cost (h : RO d O r) (hd : d ≤ 1000000) {n : Nat} (hn : n ≤ 1000) : sX1_costOfNext O (nI n) = nI (fb_sm (ovN r n) (nP r)) * r 7 := by
  have h24 := nP_le h.c
  have e1 := nP_e h.c
  have hm := nP_lt h.c
  have es : sX3_size O = nI (nP r) := by rw [← e1]; exact h.1.1.2.2.1
  have e7 : O.2 4 (2 : Int32).toNatClampNeg = r 7 := h.1.2.1 2 (by decide)
  have et : O.1 5 = r 3 := h.1.1.2.2.2.2.2.1
  have ht := today_ge h
  have en := nI_toInt (n := n) (by omega)
  have eT : (r 3 + nI n).toInt = (r 3).toInt + n := by rw [fb_addI (by omega) (by omega), en]
  have key := sum_loop (L := LX1_costOfNext_4 O (nI n)) (E := fun a => a * r 7) (g := ovN r n) (m := nP r) 0 (fun m a => by
    rw [LX1_costOfNext_4_eq, es, e7, if_pos (nI_le (Nat.le_refl _) hm)]) (fun m a i hi => by
    rw [LX1_costOfNext_4_eq, es, if_neg (nI_ge hi hm), et, q_over h hd hi (by omega) (by omega), nI_1]
    congr 1
    congr 1
    have hdue := (h.2.2.2.2.2.1 i hi).2.2.2
    have hov := day_ov (r := r) (k := i) (by omega) (r 3 + nI n)
    rw [eT] at hov
    unfold ovN
    cases q : (sX8_isOut r (nI i) && sX8_isRecalled r (nI i))
    · rw [q, Bool.false_and] at hov
      rw [hov]
      simp only [Bool.false_eq_true, if_false]
      by_cases c : (0 : Int32) < nI n
      · rw [if_pos c]; rfl
      · rw [if_neg c]
        have : ¬ (0 : Int) < n := fun z => c (i32_lt.mpr (by rw [en]; exact z))
        have : n = 0 := by omega
        subst this; rfl
    · rw [q, Bool.true_and] at hov
      rw [if_pos rfl]
      by_cases c : (r (270 + i)).toInt < (r 3).toInt + n
      · rw [hov, decide_eq_true c]
        simp only [if_true]
        have eD : (r 3 + nI n - r (270 + i)).toInt = (r 3).toInt + n - (r (270 + i)).toInt := by rw [fb_subI (by omega) (by omega), eT]
        by_cases c2 : r 3 + nI n - r (270 + i) < nI n
        · rw [if_pos c2]
          have := i32_lt.mp c2
          exact i_of (by omega)
        · rw [if_neg c2]
          have : ¬ (r 3 + nI n - r (270 + i)).toInt < (nI n).toInt := fun z => c2 (i32_lt.mpr z)
          exact congrArg nI (by omega)
      · rw [hov, decide_eq_false c]
        simp only [Bool.false_eq_true, if_false]
        by_cases c2 : (0 : Int32) < nI n
        · rw [if_pos c2]
          show nI 0 = _
          exact congrArg nI (by omega)
        · rw [if_neg c2]
          have : ¬ (0 : Int) < n := fun z => c2 (i32_lt.mpr (by rw [en]; exact z))
          exact congrArg nI (by omega)) (nP r) 0 (by omega)
  unfold sX1_costOfNext
  rw [es, upM_n0 hm]
  have z : (0 : Int32) + nI (fb_sm (ovN r n) 0) = 0 := rfl
  rw [z, Int32.zero_add] at key
  exact key
/-- the reference's row on a later day -/
theorem overdue_day (hc : IVc r) (t u : Int32) : sX8_overdue (upd r 3 t) u = sX8_overdue r u := by
  have e : ∀ k, k ≠ 3 → upd r 3 t k = r k := fun k hk => pk_un hk
  have hc2 : IVc (upd r 3 t) := IVc_c (e 0 (by decide)) (e 1 (by decide)) (e 2 (by decide)) hc
  have h24 := nP_le hc
  rw [t_overdue hc2, t_overdue hc, nP_c (e 1 (by decide))]
  refine congrArg nI (fb_ct_cong (fun k hk => ?_))
  unfold sX8_isOverdue sX8_isOut
  rw [rec_e _ (by omega), rec_e _ (by omega), ix270 (by omega), e (270 + k) (by omega), cl_9, e 9 (by decide)]
theorem goRun_e (h : RO d O r) (hd : d ≤ 1000000) {n : Nat} (hn : n ≤ 1000) : sX8_goRun r (nI n) = (nI (fb_sm (ovN r n) (nP r)) * r 7, upd (upd r 3 (r 3 + nI n)) 4 (r 4 + nI (fb_sm (ovN r n) (nP r)) * r 7)) := by
  have h24 := nP_le h.c
  have ht := today_ge h
  have key : ∀ m i, i + m = n → LX8_goRun_4 r (nI n) (m + 1) (nI (fb_sm (ovN r i) (nP r)) * r 7) (nI i) (upd r 3 (r 3 + nI i)) = (nI (fb_sm (ovN r n) (nP r)) * r 7, upd (upd r 3 (r 3 + nI n)) 4 (r 4 + nI (fb_sm (ovN r n) (nP r)) * r 7)) := by
    intro m
    induction m with
    | zero =>
      intro i hi
      have : i = n := by omega
      subst this
      rw [LX8_goRun_4_eq, if_pos (nI_le (Nat.le_refl _) (by omega)), cl_4, pk_un (by decide)]
    | succ m ih =>
      intro i hi
      have en := nI_toInt (n := i + 1) (by omega)
      have eT : (r 3 + nI (i + 1)).toInt = (r 3).toInt + (i + 1 : Nat) := by rw [fb_addI (by omega) (by omega), en]
      rw [LX8_goRun_4_eq, if_neg (nI_ge (by omega) (by omega)), cl_3, cl_7, pk_us, upd_tw, pk_us, pk_un (by decide), Int32.add_assoc, nI_1, overdue_day h.c, ← ih (i + 1) (by omega)]
      congr 1
      rw [t_overdue h.c, ← Int32.add_mul, nI_add]
      congr 2
      rw [ct_sm, ← fb_sm_add]
      refine fb_sm_cong (fun k hk => ?_)
      rw [ov_next, day_ov (by omega), eT]
      rfl
  have k0 := key n 0 (by omega)
  have z : fb_sm (ovN r 0) (nP r) = 0 := by
    have : fb_sm (ovN r 0) (nP r) = fb_sm (fun _ => 0) (nP r) := fb_sm_cong (fun k _ => by
      unfold ovN
      cases (sX8_isOut r (nI k) && sX8_isRecalled r (nI k))
      · rfl
      · rw [if_pos rfl]; omega)
    rw [this, fb_sm_const]
    omega
  have z2 : nI 0 * r 7 = 0 := Int32.zero_mul
  have z3 : r 3 + nI 0 = r 3 := Int32.add_zero _
  rw [z, z2, z3, upd_id] at k0
  unfold sX8_goRun
  rw [upM_n0 (by omega)]
  exact k0
theorem g_coming (h : RO d O r) (hd : d ≤ 1000000) {n : Nat} (hn : n ≤ 1000) : sX1_costOfNext O (nI n) = (sX8_goRun r (nI n)).1 := by
  rw [k_cost h hd hn, goRun_e h hd hn]
theorem cost_ge (h : RO d O r) {n : Nat} (hn : n ≤ 30) : 0 ≤ (nI (fb_sm (ovN r n) (nP r)) * r 7).toInt := by
  have h24 := nP_le h.c
  have h7 := h.2.2.1.2.2.2
  have hb : fb_sm (ovN r n) (nP r) ≤ nP r * n := fb_sm_bound (fun k _ => by
    unfold ovN
    split <;> omega)
  have hb2 : fb_sm (ovN r n) (nP r) ≤ 720 := Nat.le_trans hb (Nat.mul_le_mul h24 hn)
  obtain ⟨c, e7, hc7, -⟩ := i_ex h7.1
  rw [e7, pk_mul, nI_toInt (by
    have : fb_sm (ovN r n) (nP r) * c ≤ 720 * 99 := Nat.mul_le_mul hb2 (by omega)
    omega)]
  omega
theorem ro_run (h : RO d O r) (hd : d ≤ 1000000) {n : Nat} (hn : n ≤ 30) (V : Int32) : RO (d + 30) (stS (stS O 5 (r 3 + nI n)) 6 (r 4 + V)) (upd (upd r 3 (r 3 + nI n)) 4 (r 4 + V)) := by
  have h10 := nS_le h.c
  have h24 := nP_le h.c
  have h30 := nW_le h.c
  have hc := h.1.1
  have ht := today_ge h
  have eT : (r 3 + nI n).toInt = (r 3).toInt + n := by rw [fb_addI (by rw [nI_toInt (by omega)]; omega) (by rw [nI_toInt (by omega)]; omega), nI_toInt (by omega)]
  have h := h.mono (show d ≤ d + 30 by omega)
  have e : ∀ k, k ≠ 3 → k ≠ 4 → upd (upd r 3 (r 3 + nI n)) 4 (r 4 + V) k = r k := fun k h1 h2 => by rw [pk_un h2, pk_un h1]
  have v3 : upd (upd r 3 (r 3 + nI n)) 4 (r 4 + V) 3 = r 3 + nI n := by rw [pk_un (by decide), pk_us]
  have v4 : upd (upd r 3 (r 3 + nI n)) 4 (r 4 + V) 4 = r 4 + V := pk_us
  have e0 := nS_c (e 0 (by decide) (by decide))
  have e1 := nP_c (e 1 (by decide) (by decide))
  have e2 := nW_c (e 2 (by decide) (by decide))
  have hv : ∀ k, k < nS r → (r (20 + k)).toInt ≤ (upd (upd r 3 (r 3 + nI n)) 4 (r 4 + V) (20 + k)).toInt := fun k hk => by rw [e (20 + k) (by omega) (by omega)]; omega
  refine ⟨⟨⟨?_, ?_, ?_, ?_, ?_, ?_, ?_⟩, fun k hk => by rw [e (5 + k) (by omega) (by omega)]; exact h.1.2.1 k hk, ROs_c e0 h10 (fun k h1 h2 => e k (by omega) (by omega)) rfl rfl rfl h.1.2.2.1, ROp_c e1 h24 (fun k h1 h2 => e k (by omega) (by omega)) (fun _ _ _ => rfl) h.1.2.2.2.1, ROw_c e2 h30 (fun k h1 h2 => e k (by omega) (by omega)) (fun _ _ _ => rfl) h.1.2.2.2.2⟩,
    IVc_c (e 0 (by decide) (by decide)) (e 1 (by decide) (by decide)) (e 2 (by decide) (by decide)) h.c, ?_, ⟨?_, ?_⟩, IVs_c e0 h10 (fun k h1 h2 => e k (by omega) (by omega)) h.2.2.2.2.1, IVp_c e1 h24 (by omega) (fun k h1 h2 => e k (by omega) (by omega)) hv h.2.2.2.2.2.1, IVw_c e2 h30 (by omega) (fun k h1 h2 => e k (by omega) (by omega)) hv h.2.2.2.2.2.2⟩
  · rw [e 0 (by decide) (by decide)]; exact hc.1
  · rw [e 8 (by decide) (by decide)]; exact hc.2.1
  · rw [e 1 (by decide) (by decide)]; exact hc.2.2.1
  · rw [e 9 (by decide) (by decide)]; exact hc.2.2.2.1
  · rw [e 2 (by decide) (by decide)]; exact hc.2.2.2.2.1
  · rw [v3]; rfl
  · rw [v4]; rfl
  · unfold IVd
    rw [v3, e 5 (by decide) (by decide), e 6 (by decide) (by decide), e 7 (by decide) (by decide), eT]
    exact ⟨⟨by omega, by omega⟩, h.2.2.1.2⟩
  · rw [e 8 (by decide) (by decide), e0]; exact h.2.2.2.1.1
  · rw [e 9 (by decide) (by decide), e1]; exact h.2.2.2.1.2
theorem days_of {x : Int32} (hx : sX8_in x.toInt64 1 30 = true) : ∃ n, 1 ≤ n ∧ n ≤ 30 ∧ x = nI n := by
  have h1 := (in_iff32 x 1 30).mp hx
  have e2 : (30 : Int64).toInt = 30 := rfl
  have e4 : (1 : Int64).toInt = 1 := rfl
  obtain ⟨k, a, b, -⟩ := i_ex (x := x) (by omega)
  exact ⟨k, by omega, by omega, a⟩
theorem a_run (h : RO d O r) (hd : d ≤ 1000000) (x : Int32) :
    (sX8_in x.toInt64 1 30 = false ∧ sX1_passDays O x = (-3, O)) ∨ (sX8_in x.toInt64 1 30 = true ∧ OKA (d + 30) (sX1_passDays O x) (sX8_goRun r x)) := by
  unfold sX1_passDays
  rw [q_isDays]
  cases c1 : sX8_in x.toInt64 1 30
  · exact Or.inl ⟨rfl, rfl⟩
  · obtain ⟨n, -, hn, rfl⟩ := days_of c1
    rw [if_pos rfl, k_cost h hd (by omega), goRun_e h hd (by omega), h.1.1.2.2.2.2.2.1, h.1.1.2.2.2.2.2.2]
    exact Or.inr ⟨rfl, cost_ge h hn, rfl, ro_run h hd hn _⟩
/-! a setting -/
theorem set_m {w : Nat} (hw : w < 3) (y : Int32) : ∃ m : Int64, sX8_isSetting (nI w) y = sX8_in y.toInt64 0 m ∧ (sX1_mostOfSetting (nI w)).toInt = m.toInt ∧ (w = 0 → m.toInt = 20) ∧ (w = 1 → m.toInt = 3) ∧ (w = 2 → m.toInt = 99) := by
  rcases (show w = 0 ∨ w = 1 ∨ w = 2 by omega) with rfl | rfl | rfl
  · refine ⟨20, ?_, by decide, fun _ => by decide, fun q => by omega, fun q => by omega⟩
    unfold sX8_isSetting
    rw [if_pos (show nI 0 = 0 from rfl), if_neg (show ¬ nI 0 = 1 by decide), if_neg (show ¬ nI 0 = 2 by decide)]
    cases sX8_in y.toInt64 0 20 <;> rfl
  · refine ⟨3, ?_, by decide, fun q => by omega, fun _ => by decide, fun q => by omega⟩
    unfold sX8_isSetting
    rw [if_neg (show ¬ nI 1 = 0 by decide), if_pos (show nI 1 = 1 from rfl), if_neg (show ¬ nI 1 = 2 by decide)]
    cases sX8_in y.toInt64 0 3 <;> rfl
  · refine ⟨99, ?_, by decide, fun q => by omega, fun q => by omega, fun _ => by decide⟩
    unfold sX8_isSetting
    rw [if_neg (show ¬ nI 2 = 0 by decide), if_neg (show ¬ nI 2 = 1 by decide), if_pos (show nI 2 = 2 from rfl)]
    cases sX8_in y.toInt64 0 99 <;> rfl
theorem a_set (h : RO d O r) (x y : Int32) :
    (sX8_isSetting x y = false ∧ sX1_changeSetting O x y = (-3, O)) ∨ (sX8_isSetting x y = true ∧ OKA d (sX1_changeSetting O x y) (r (5 + x).toNatClampNeg, upd r (5 + x).toNatClampNeg y)) := by
  have e4 : (0 : Int64).toInt = 0 := rfl
  have e20 : (20 : Int64).toInt = 20 := rfl
  have e3 : (3 : Int64).toInt = 3 := rfl
  have e99 : (99 : Int64).toInt = 99 := rfl
  have f0 : (0 : Int32).toInt = 0 := rfl
  have f20 : (20 : Int32).toInt = 20 := rfl
  have f3 : (3 : Int32).toInt = 3 := rfl
  have f99 : (99 : Int32).toInt = 99 := rfl
  unfold sX1_changeSetting
  rw [q_isSetting]
  cases c1 : sX8_in x.toInt64 0 2
  · left
    have e2 : (2 : Int64).toInt = 2 := rfl
    have h1 := in_no c1
    have n0 : ¬ x = 0 := fun q => by rw [q] at h1; omega
    have n1 : ¬ x = 1 := fun q => by rw [q] at h1; have : (1 : Int32).toInt = 1 := rfl; omega
    have n2 : ¬ x = 2 := fun q => by rw [q] at h1; have : (2 : Int32).toInt = 2 := rfl; omega
    refine ⟨?_, rfl⟩
    unfold sX8_isSetting
    rw [if_neg n0, if_neg n1, if_neg n2]
  · have h1 := (in_iff32 x 0 2).mp c1
    have e2 : (2 : Int64).toInt = 2 := rfl
    obtain ⟨w, ew, hw, -⟩ := i_ex (x := x) (by omega)
    have hw3 : w < 3 := by omega
    subst ew
    obtain ⟨m, em, hm⟩ := set_m hw3 y
    rw [em, if_pos rfl]
    cases c2 : sX8_in y.toInt64 0 m
    · left
      refine ⟨rfl, ?_⟩
      have h2 := in_no c2
      by_cases c3 : y < 0
      · rw [if_pos c3]
      · have c4 : ¬ y ≤ sX1_mostOfSetting (nI w) := fun z => by
          have z1 := i32_le.mp z
          have z2 : ¬ y.toInt < 0 := fun t => c3 (i32_lt.mpr t)
          omega
        rw [if_neg c3, if_neg c4]
    · right
      have h2 := (in_iff32 y 0 m).mp c2
      have c3 : ¬ y < 0 := fun z => by have := i32_lt.mp z; omega
      have c4 : y ≤ sX1_mostOfSetting (nI w) := i32_le.mpr (by omega)
      rw [if_neg c3, if_pos c4, ix5 (by omega), ixN (by omega), h.1.2.1 w hw3]
      refine ⟨rfl, ?_, rfl, ro_set h hw3 (by omega) (fun q => by have := hm.2.1 q; omega) (fun q => by have := hm.2.2.1 q; omega) (fun q => by have := hm.2.2.2 q; omega)⟩
      show 0 ≤ (r (5 + w)).toInt
      obtain ⟨g1, g2, g3, g4⟩ := h.2.2.1
      rcases (show w = 0 ∨ w = 1 ∨ w = 2 by omega) with rfl | rfl | rfl
      · exact g2.1
      · exact g3.1
      · exact g4.1
end
