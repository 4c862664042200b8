/-! math: the counts of both sides -/
theorem ab2 (a : Int32) (b : Bool) : a + b2i b = if b = true then a + 1 else a := by
  cases b
  · exact Int32.add_zero a
  · rfl
theorem nI_m1 {k : Nat} (h : k < 2 ^ 31) : ¬ nI k = -1 := fun e => by
  have h1 := nI_toInt h
  rw [e] at h1
  have : (-1 : Int32).toInt = -1 := rfl
  omega
section
variable {d : Nat} {O : OF} {r : Nat → Int32} (h : RO d O r)
theorem k_recalled (h : RO d O r) : sX3_recalledCount O = nI (fb_ct (fun p => sX8_isOut r (nI p) && sX8_isRecalled r (nI p)) (nP r)) := by
  have e := h.1.1.2.2.1
  have e2 := nP_e h.c
  have hm := nP_lt h.c
  unfold sX3_recalledCount
  rw [e, e2]
  refine cnt_all (L := LX3_recalledCount_4 O) hm (fun n a => ?_) (fun n a i hi => ?_)
  · rw [LX3_recalledCount_4_eq, e, e2, if_pos (nI_le (Nat.le_refl _) hm)]
  · rw [LX3_recalledCount_4_eq, e, e2, if_neg (nI_ge hi hm), q_oar h hi, nI_1]
    cases (sX8_isOut r (nI i) && sX8_isRecalled r (nI i)) <;> rfl
theorem k_outOf (h : RO d O r) (x : Int32) : sX3_outCountOf O x = nI (fb_ct (fun p => decide (r (150 + p) = x) && sX8_isOut r (nI p)) (nP r)) := by
  have e := h.1.1.2.2.1
  have e2 := nP_e h.c
  have hm := nP_lt h.c
  unfold sX3_outCountOf
  rw [e, e2]
  refine cnt_all (L := LX3_outCountOf_4 O x) hm (fun n a => ?_) (fun n a i hi => ?_)
  · rw [LX3_outCountOf_4_eq, e, e2, if_pos (nI_le (Nat.le_refl _) hm)]
  · rw [LX3_outCountOf_4_eq, e, e2, if_neg (nI_ge hi hm), q_isOut h, q_sheetP h hi, nI_1]
    by_cases c : r (150 + i) = x <;> cases sX8_isOut r (nI i) <;> simp [c]
theorem k_recallCount (h : RO d O r) (x : Int32) : sX3_recallCountOf O x = nI (fb_ct (fun p => decide (r (150 + p) = x) && (sX8_isOut r (nI p) && !sX8_isRecalled r (nI p))) (nP r)) := by
  have e := h.1.1.2.2.1
  have e2 := nP_e h.c
  have hm := nP_lt h.c
  unfold sX3_recallCountOf
  rw [e, e2]
  refine cnt_all (L := LX3_recallCountOf_4 O x) hm (fun n a => ?_) (fun n a i hi => ?_)
  · rw [LX3_recallCountOf_4_eq, e, e2, if_pos (nI_le (Nat.le_refl _) hm)]
  · rw [LX3_recallCountOf_4_eq, e, e2, if_neg (nI_ge hi hm), q_onr h hi, q_sheetP h hi, nI_1]
    by_cases c : r (150 + i) = x <;> cases (sX8_isOut r (nI i) && !sX8_isRecalled r (nI i)) <;> simp [c]
theorem q_over (h : RO d O r) (hd : d ≤ 1000000) {k : Nat} (hk : k < nP r) {t : Int32} (h0 : 0 ≤ t.toInt) (h1 : t.toInt ≤ 1000000000) : sX3_overdueDays O (nI k) t = if sX8_isOverdue r (nI k) t = true then t - r (270 + k) else 0 := by
  have h24 := nP_le h.c
  have hdue := (h.2.2.2.2.2.1 k hk).2.2.2
  have e : (t - r (270 + k)).toInt = t.toInt - (r (270 + k)).toInt := fb_subI (by omega) (by omega)
  have e0 : (0 : Int32).toInt = 0 := rfl
  unfold sX3_overdueDays sX8_isOverdue
  rw [q_oar h hk, q_dueP h hk, ix270 (by omega)]
  cases sX8_isOut r (nI k)
  · rfl
  · cases sX8_isRecalled r (nI k)
    · rfl
    · by_cases c : t ≤ r (270 + k)
      · have c2 : ¬ 0 < t - r (270 + k) := fun q => by
          have q1 := i32_lt.mp q
          have q2 := i32_le.mp c
          omega
        simp [c, c2]
      · have c2 : 0 < t - r (270 + k) := i32_lt.mpr (by
          have q2 : ¬ t.toInt ≤ (r (270 + k)).toInt := fun q => c (i32_le.mpr q)
          omega)
        simp [c, c2]
theorem q_overT (h : RO d O r) (hd : d ≤ 1000000) {k : Nat} (hk : k < nP r) {t : Int32} (h0 : 0 ≤ t.toInt) (h1 : t.toInt ≤ 1000000000) (ho : sX8_isOverdue r (nI k) t = true) : (t - r (270 + k)).toInt = t.toInt - (r (270 + k)).toInt ∧ (r (270 + k)).toInt < t.toInt := by
  have h24 := nP_le h.c
  have hdue := (h.2.2.2.2.2.1 k hk).2.2.2
  refine ⟨fb_subI (by omega) (by omega), ?_⟩
  unfold sX8_isOverdue at ho
  rw [ix270 (by omega)] at ho
  by_cases c : t ≤ r (270 + k)
  · exfalso
    simp [c] at ho
  · have q2 : ¬ t.toInt ≤ (r (270 + k)).toInt := fun q => c (i32_le.mpr q)
    omega
theorem q_overZ (h : RO d O r) (hd : d ≤ 1000000) {k : Nat} (hk : k < nP r) {t : Int32} (h0 : 0 ≤ t.toInt) (h1 : t.toInt ≤ 1000000000) : (sX3_overdueDays O (nI k) t ≤ 0) ↔ sX8_isOverdue r (nI k) t = false := by
  rw [q_over h hd hk h0 h1]
  have e0 : (0 : Int32).toInt = 0 := rfl
  cases ho : sX8_isOverdue r (nI k) t
  · simp
  · have := q_overT h hd hk h0 h1 ho
    simp only [if_true]
    constructor
    · intro q
      have := i32_le.mp q
      omega
    · intro q; exact nomatch q
theorem k_overdue (h : RO d O r) (hd : d ≤ 1000000) (x : Int32) {t : Int32} (h0 : 0 ≤ t.toInt) (h1 : t.toInt ≤ 1000000000) : sX3_overdueCount O x t = nI (fb_ct (fun p => (decide (x = -1) || decide (r (198 + p) = x)) && sX8_isOverdue r (nI p) t) (nP r)) := by
  have e := h.1.1.2.2.1
  have e2 := nP_e h.c
  have hm := nP_lt h.c
  unfold sX3_overdueCount
  rw [e, e2]
  refine cnt_all (L := LX3_overdueCount_5 O x t) hm (fun n a => ?_) (fun n a i hi => ?_)
  · rw [LX3_overdueCount_5_eq, e, e2, if_pos (nI_le (Nat.le_refl _) hm)]
  · rw [LX3_overdueCount_5_eq, e, e2, if_neg (nI_ge hi hm), q_siteP h hi, nI_1]
    have hz := q_overZ h hd hi h0 h1
    by_cases c : x = -1 <;> by_cases c2 : r (198 + i) = x <;> cases ho : sX8_isOverdue r (nI i) t <;> rw [ho] at hz <;> simp [c, c2, hz]
theorem k_wrong (h : RO d O r) (a b : Int32) : sX1_wrongWorks O a b = nI (fb_ct (fun w => (decide (a = -1) || decide (r (294 + w) = a)) && (decide (b = -1) || decide (r (324 + w) = b)) && sX8_isWrong r (nI w)) (nW r)) := by
  have e : sX6_size O = r 2 := h.1.1.2.2.2.2.1
  have e2 := nW_e h.c
  have hm := nW_lt h.c
  unfold sX1_wrongWorks
  rw [e, e2]
  refine cnt_all (L := LX1_wrongWorks_5 O a b) hm (fun n x => ?_) (fun n x i hi => ?_)
  · rw [LX1_wrongWorks_5_eq, e, e2, if_pos (nI_le (Nat.le_refl _) hm)]
  · rw [LX1_wrongWorks_5_eq, e, e2, if_neg (nI_ge hi hm), q_siteW h hi, q_sheetW h hi, q_isWrong h hi, nI_1]
    by_cases c : a = -1 <;> by_cases c2 : r (294 + i) = a <;> by_cases c3 : b = -1 <;> by_cases c4 : r (324 + i) = b <;> cases sX8_isWrong r (nI i) <;> simp [c, c2, c3, c4]
end
section
variable {r : Nat → Int32} (hc : IVc r)
theorem t_out (hc : IVc r) (b : Bool) : sX8_out r b = nI (fb_ct (fun p => sX8_isOut r (nI p) && (!b || sX8_isRecalled r (nI p))) (nP r)) := by
  have e2 : r (1 : Int32).toNatClampNeg = nI (nP r) := nP_e hc
  have hm := nP_lt hc
  unfold sX8_out
  rw [e2]
  refine cnt_all (L := LX8_out_4 r b) hm (fun n a => ?_) (fun n a i hi => ?_)
  · rw [LX8_out_4_eq, e2, if_pos (nI_le (Nat.le_refl _) hm)]
  · rw [LX8_out_4_eq, e2, if_neg (nI_ge hi hm), ab2, nI_1]
    cases sX8_isOut r (nI i) <;> cases b <;> cases sX8_isRecalled r (nI i) <;> rfl
theorem t_outOf (hc : IVc r) (x : Int32) : sX8_outOf r x = nI (fb_ct (fun p => decide (r (150 + p) = x) && sX8_isOut r (nI p)) (nP r)) := by
  have e2 : r (1 : Int32).toNatClampNeg = nI (nP r) := nP_e hc
  have hm := nP_lt hc
  have h24 := nP_le hc
  unfold sX8_outOf
  rw [e2]
  refine cnt_all (L := LX8_outOf_4 r x) hm (fun n a => ?_) (fun n a i hi => ?_)
  · rw [LX8_outOf_4_eq, e2, if_pos (nI_le (Nat.le_refl _) hm)]
  · rw [LX8_outOf_4_eq, e2, if_neg (nI_ge hi hm), ab2, nI_1, ix150 (by omega)]
    by_cases c : r (150 + i) = x <;> cases sX8_isOut r (nI i) <;> simp [c]
theorem t_overdue (hc : IVc r) (t : Int32) : sX8_overdue r t = nI (fb_ct (fun p => sX8_isOverdue r (nI p) t) (nP r)) := by
  have e2 : r (1 : Int32).toNatClampNeg = nI (nP r) := nP_e hc
  have hm := nP_lt hc
  unfold sX8_overdue
  rw [e2]
  refine cnt_all (L := LX8_overdue_4 r t) hm (fun n a => ?_) (fun n a i hi => ?_)
  · rw [LX8_overdue_4_eq, e2, if_pos (nI_le (Nat.le_refl _) hm)]
  · rw [LX8_overdue_4_eq, e2, if_neg (nI_ge hi hm), ab2, nI_1]
    cases sX8_isOverdue r (nI i) t <;> rfl
theorem t_wrong (hc : IVc r) : sX8_wrong r = nI (fb_ct (fun w => sX8_isWrong r (nI w)) (nW r)) := by
  have e2 : r (2 : Int32).toNatClampNeg = nI (nW r) := nW_e hc
  have hm := nW_lt hc
  unfold sX8_wrong
  rw [e2]
  refine cnt_all (L := LX8_wrong_4 r) hm (fun n a => ?_) (fun n a i hi => ?_)
  · rw [LX8_wrong_4_eq, e2, if_pos (nI_le (Nat.le_refl _) hm)]
  · rw [LX8_wrong_4_eq, e2, if_neg (nI_ge hi hm), ab2, nI_1]
    cases sX8_isWrong r (nI i) <;> rfl
theorem t_wrongOf (hc : IVc r) (x : Int32) : sX8_wrongOf r x = nI (fb_ct (fun w => decide (r (324 + w) = x) && sX8_isWrong r (nI w)) (nW r)) := by
  have e2 : r (2 : Int32).toNatClampNeg = nI (nW r) := nW_e hc
  have hm := nW_lt hc
  have h30 := nW_le hc
  unfold sX8_wrongOf
  rw [e2]
  refine cnt_all (L := LX8_wrongOf_4 r x) hm (fun n a => ?_) (fun n a i hi => ?_)
  · rw [LX8_wrongOf_4_eq, e2, if_pos (nI_le (Nat.le_refl _) hm)]
  · rw [LX8_wrongOf_4_eq, e2, if_neg (nI_ge hi hm), ab2, nI_1, ix324 (by omega)]
    by_cases c : r (324 + i) = x <;> cases sX8_isWrong r (nI i) <;> simp [c]
end
/-! the same counts -/
section
variable {d : Nat} {O : OF} {r : Nat → Int32} (h : RO d O r)
theorem g_recalled (h : RO d O r) : sX3_recalledCount O = sX8_out r true := by
  rw [k_recalled h, t_out h.c]
  exact congrArg nI (fb_ct_cong (fun k _ => by cases sX8_isOut r (nI k) <;> cases sX8_isRecalled r (nI k) <;> rfl))
theorem g_out (h : RO d O r) : sX3_outCount O = sX8_out r false := by
  have h24 := nP_le h.c
  have hb := h.2.2.2.1.2
  unfold sX3_outCount
  rw [t_out h.c, h.1.1.2.2.2.1, bc_eq (fun i hi hbt => by have := hb i hi hbt; omega), ct_more (m := nP r) h24 (fun k h1 h2 => by
    cases e : bt (r 9) k
    · rfl
    · have := hb k (by omega) e
      omega)]
  refine congrArg nI (fb_ct_cong (fun k hk => ?_))
  rw [out_bt r (by omega)]
  cases bt (r 9) k <;> rfl
theorem g_toCheck (h : RO d O r) : sX4_toCheckCount O = sX8_many (r 8) := by
  have h10 := nS_le h.c
  unfold sX4_toCheckCount
  rw [h.1.1.2.1]
  exact bc_many (fun i hi hbt => by have := h.2.2.2.1.1 i hi hbt; omega)
theorem today_ge (h : RO d O r) : 0 ≤ (r 3).toInt ∧ (r 3).toInt ≤ d := h.2.2.1.1
theorem g_overdue (h : RO d O r) (hd : d ≤ 1000000) : sX3_overdueCount O (-1) (O.1 5) = sX8_overdue r (r 3) := by
  have ht := today_ge h
  rw [h.1.1.2.2.2.2.2.1, k_overdue h hd _ ht.1 (by omega), t_overdue h.c]
  exact congrArg nI (fb_ct_cong (fun k _ => by simp))
theorem g_wrong (h : RO d O r) : sX1_wrongWorks O (-1) (-1) = sX8_wrong r := by
  rw [k_wrong h, t_wrong h.c]
  exact congrArg nI (fb_ct_cong (fun k _ => by simp))
theorem g_wrongOf (h : RO d O r) {x : Int32} (hx : ¬ x = -1) : sX1_wrongWorks O (-1) x = sX8_wrongOf r x := by
  rw [k_wrong h, t_wrongOf h.c]
  exact congrArg nI (fb_ct_cong (fun k _ => by simp [hx]))
theorem g_outOf (h : RO d O r) (x : Int32) : sX3_outCountOf O x = sX8_outOf r x := by
  rw [k_outOf h, t_outOf h.c]
theorem g_fieldsOf (h : RO d O r) {k : Nat} (hk : k < nP r) : sX4_fieldsDrawn O (r (150 + k)) 0 (r (174 + k)) = sX8_fieldsOf r (nI k) := by
  have h24 := nP_le h.c
  have h10 := nS_le h.c
  obtain ⟨s, hs, es⟩ := ofP h hk
  unfold sX4_fieldsDrawn sX8_fieldsOf
  rw [es]
  have hu : upM 12 0 = 12 := upM_n0 (m := 12) (by decide)
  rw [hu]
  refine two_loops (L := LX4_fieldsDrawn_6 O (nI s) 0 (r (174 + k))) (L' := LX8_fieldsOf_4 r (nI k)) (m := 12) (fun n a => ?_) (fun n a i hi => ?_) 12 0 0 rfl
  · rw [LX4_fieldsDrawn_6_eq, LX8_fieldsOf_4_eq]
    rfl
  · refine ⟨a ||| (if r (174 + k) < r (30 + (12 * s + i)) then (0 : Int32) else 1 <<< (nI i &&& 31)), ?_, ?_⟩
    · have hn := ((h.2.2.2.2.1 s hs).2.2 i hi).1
      have c0 : ¬ r (30 + (12 * s + i)) < 0 := fun q => by
        have := i32_lt.mp q
        have e0 : (0 : Int32).toInt = 0 := rfl
        omega
      rw [LX4_fieldsDrawn_6_eq, if_neg (ge12 hi), q_drawn h hs hi, if_neg c0, nI_1]
      by_cases c : r (174 + k) < r (30 + (12 * s + i))
      · rw [if_pos c, if_pos c, Int32.or_zero]
      · rw [if_neg c, if_neg c]
    · rw [LX8_fieldsOf_4_eq, if_neg (ge12 hi), ix174 (by omega), ix150 (by omega), es, ixF (by omega) (by omega), nI_1]
theorem g_drawnOf {M : MS} (h : RO d O (M.1.2 1)) {s : Nat} (hs : s < nS (M.1.2 1)) (x : Int32) : sX4_fieldsDrawn O (nI s) x x = sX8_drawnOf M (nI s) x := by
  have h10 := nS_le h.c
  unfold sX4_fieldsDrawn sX8_drawnOf
  have hu : upM 12 0 = 12 := upM_n0 (m := 12) (by decide)
  rw [hu]
  refine two_loops (L := LX4_fieldsDrawn_6 O (nI s) x x) (L' := LX8_drawnOf_5 M (nI s) x) (m := 12) (fun n a => ?_) (fun n a i hi => ?_) 12 0 0 rfl
  · rw [LX4_fieldsDrawn_6_eq, LX8_drawnOf_5_eq]
    rfl
  · refine ⟨a ||| (if M.1.2 1 (30 + (12 * s + i)) = x then 1 <<< (nI i &&& 31) else (0 : Int32)), ?_, ?_⟩
    · rw [LX4_fieldsDrawn_6_eq, if_neg (ge12 hi), q_drawn h hs hi, nI_1]
      by_cases c : M.1.2 1 (30 + (12 * s + i)) = x
      · have c1 : ¬ x < x := fun q => by have := i32_lt.mp q; omega
        rw [c, if_neg c1, if_neg c1, if_pos rfl]
      · rw [if_neg c, Int32.or_zero]
        by_cases c1 : M.1.2 1 (30 + (12 * s + i)) < x
        · rw [if_pos c1]
        · have c2 : x < M.1.2 1 (30 + (12 * s + i)) := i32_lt.mpr (by
            have q1 : ¬ (M.1.2 1 (30 + (12 * s + i))).toInt < x.toInt := fun q => c1 (i32_lt.mpr q)
            have q2 : (M.1.2 1 (30 + (12 * s + i))).toInt ≠ x.toInt := fun q => c (Int32.toInt_inj.mp q)
            omega)
          rw [if_neg c1, if_pos c2]
    · rw [LX8_drawnOf_5_eq, if_neg (ge12 hi), ixF (by omega) (by omega), nI_1]
/-! the first, the last -/
def fstP (P : Nat → Bool) (f : Int32) : Nat → Nat → Int32
  | 0, _ => f
  | n + 1, i => if P i = true then nI i else fstP P f n (i + 1)
def lstP (P : Nat → Bool) : Int32 → Nat → Nat → Int32
  | f, 0, _ => f
  | f, n + 1, i => lstP P (if P i = true then nI i else f) n (i + 1)
def dwnP (P : Nat → Bool) : Nat → Int32 → Int32
  | 0, f => f
  | j + 1, f => dwnP P j (if P j = true then nI j else f)
theorem fst_end (P : Nat → Bool) (f : Int32) : ∀ n i, fstP P f (n + 1) i = fstP P (if P (i + n) = true then nI (i + n) else f) n i := by
  intro n
  induction n with
  | zero => intro i; rfl
  | succ n ih =>
    intro i
    show (if P i = true then nI i else fstP P f (n + 1) (i + 1)) = (if P i = true then nI i else fstP P (if P (i + (n + 1)) = true then nI (i + (n + 1)) else f) n (i + 1))
    rw [ih (i + 1)]
    have e : i + 1 + n = i + (n + 1) := by omega
    rw [e]
theorem dwn_fst (P : Nat → Bool) : ∀ n f, dwnP P n f = fstP P f n 0 := by
  intro n
  induction n with
  | zero => intro f; rfl
  | succ n ih =>
    intro f
    show dwnP P n (if P n = true then nI n else f) = _
    rw [ih, fst_end, Nat.zero_add]
theorem fst_cong {P Q : Nat → Bool} {f : Int32} : ∀ n i, (∀ k, i ≤ k → k < i + n → P k = Q k) → fstP P f n i = fstP Q f n i := by
  intro n
  induction n with
  | zero => intro i _; rfl
  | succ n ih =>
    intro i hk
    show (if P i = true then nI i else fstP P f n (i + 1)) = (if Q i = true then nI i else fstP Q f n (i + 1))
    rw [hk i (by omega) (by omega), ih (i + 1) (fun k h1 h2 => hk k (by omega) (by omega))]
theorem fst_none {P : Nat → Bool} {f : Int32} : ∀ n i, (∀ k, i ≤ k → k < i + n → P k = false) → fstP P f n i = f := by
  intro n
  induction n with
  | zero => intro i _; rfl
  | succ n ih =>
    intro i hk
    show (if P i = true then nI i else fstP P f n (i + 1)) = f
    rw [hk i (by omega) (by omega), ih (i + 1) (fun k h1 h2 => hk k (by omega) (by omega))]
    rfl
theorem lst_none {P : Nat → Bool} : ∀ n i f, (∀ k, i ≤ k → k < i + n → P k = false) → lstP P f n i = f := by
  intro n
  induction n with
  | zero => intro i f _; rfl
  | succ n ih =>
    intro i f hk
    show lstP P (if P i = true then nI i else f) n (i + 1) = f
    rw [hk i (by omega) (by omega), ih (i + 1) _ (fun k h1 h2 => hk k (by omega) (by omega))]
    rfl
/-- where one place alone has it -/
theorem fst_lst {P : Nat → Bool} : ∀ n i f, (∀ k j, P k = true → P j = true → k < i + n → j < i + n → k = j) → fstP P f n i = lstP P f n i := by
  intro n
  induction n with
  | zero => intro i f _; rfl
  | succ n ih =>
    intro i f hk
    show (if P i = true then nI i else fstP P f n (i + 1)) = lstP P (if P i = true then nI i else f) n (i + 1)
    cases e : P i
    · exact ih (i + 1) f (fun k j h1 h2 h3 h4 => hk k j h1 h2 (by omega) (by omega))
    · refine (lst_none n (i + 1) _ (fun k h1 h2 => ?_)).symm
      cases e2 : P k
      · rfl
      · have := hk k i e2 e (by omega) (by omega)
        omega
theorem t_first (hc : IVc r) (a b : Int32) : sX8_first r a b = fstP (fun p => decide (r (198 + p) = a) && (decide (r (150 + p) = b) && sX8_mayBuild r (nI p))) (-1) (nP r) 0 := by
  have e2 : r (1 : Int32).toNatClampNeg = nI (nP r) := nP_e hc
  have hm := nP_lt hc
  have h24 := nP_le hc
  rw [← dwn_fst]
  unfold sX8_first
  rw [e2]
  have key : ∀ j f, j ≤ 24 → LX8_first_9 r a b (j + 1) f (nI j - 1) = dwnP (fun p => decide (r (198 + p) = a) && (decide (r (150 + p) = b) && sX8_mayBuild r (nI p))) j f := by
    intro j
    induction j with
    | zero => intro f _; rw [LX8_first_9_eq]; exact if_pos (by decide)
    | succ j ih =>
      intro f hj
      rw [nI_pred, LX8_first_9_eq, if_neg (nI_pos (by omega)), ix198 (by omega), ix150 (by omega), ← Int32.sub_eq_add_neg, ih _ (by omega)]
      refine congrArg (dwnP _ j) ?_
      by_cases c : r (198 + j) = a <;> by_cases c2 : r (150 + j) = b <;> cases e : sX8_mayBuild r (nI j) <;> simp [c, c2, e]
  have hf : dnM (nI (nP r) - 1) = nP r := by
    unfold dnM
    rw [fb_subI (by rw [nI_toInt hm]; show _ ≤ _ - (1 : Int); omega) (by rw [nI_toInt hm]; show _ - (1 : Int) < _; omega), nI_toInt hm]
    show ((nP r : Int) - 1 + 1).toNat = _
    omega
  rw [hf]
  exact key _ _ h24
theorem g_first (h : RO d O r) (a b : Int32) : sX1_firstTruePrint O a b = sX8_first r a b := by
  have e : sX3_size O = r 1 := h.1.1.2.2.1
  have e2 := nP_e h.c
  have hm := nP_lt h.c
  rw [t_first h.c]
  unfold sX1_firstTruePrint
  rw [e, e2, upM_n0 hm]
  have key : ∀ n i, i + n = nP r → LX1_firstTruePrint_2 O a b (n + 1) (nI i) = fstP (fun p => decide (r (198 + p) = a) && (decide (r (150 + p) = b) && sX8_mayBuild r (nI p))) (-1) n i := by
    intro n
    induction n with
    | zero => intro i hi; rw [LX1_firstTruePrint_2_eq, e, e2]; exact if_pos (nI_le (by omega) (by omega))
    | succ n ih =>
      intro i hi
      rw [LX1_firstTruePrint_2_eq, e, e2, if_neg (nI_ge (by omega) hm), q_siteP h (by omega), q_sheetP h (by omega), q_mayBuild h (by omega), nI_1, ih (i + 1) (by omega)]
      show _ = (if (decide (r (198 + i) = a) && (decide (r (150 + i) = b) && sX8_mayBuild r (nI i))) = true then nI i else fstP _ (-1) n (i + 1))
      by_cases c : r (198 + i) = a <;> by_cases c2 : r (150 + i) = b <;> cases e : sX8_mayBuild r (nI i) <;> simp [c, c2, e]
  exact key (nP r) 0 (by omega)
end
