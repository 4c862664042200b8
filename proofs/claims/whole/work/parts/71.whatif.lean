/-! math: what would be -/
section
variable {d : Nat} {O : OF} {r : Nat → Int32} (h : RO d O r)
def mwC (r : Nat → Int32) (s : Nat) (c : Int32) (w : Nat) : Bool := (decide (r (324 + w) = nI s) && bt c (r (354 + w)).toNatClampNeg) && !sX8_isWrong r (nI w)
theorem k_madeWrong (h : RO d O r) (s : Nat) (c : Int32) : sX1_worksMadeWrong O (nI s) c = nI (fb_ct (mwC r s c) (nW r)) := by
  have e : sX6_size O = r 2 := h.1.1.2.2.2.2.1
  have e2 := nW_e h.c
  have hm := nW_lt h.c
  unfold sX1_worksMadeWrong
  rw [e, e2]
  refine cnt_all (L := LX1_worksMadeWrong_5 O (nI s) c) hm (fun n x => ?_) (fun n x i hi => ?_)
  · rw [LX1_worksMadeWrong_5_eq, e, e2, if_pos (nI_le (Nat.le_refl _) hm)]
  · obtain ⟨-, f, hf, ef⟩ := ofW' h hi
    rw [LX1_worksMadeWrong_5_eq, e, e2, if_neg (nI_ge hi hm), q_sheetW h hi, q_fieldW h hi, q_isWrong h hi, nI_1]
    unfold mwC
    rw [ef, isIn_bt c (by omega), ixN (by omega)]
    by_cases c1 : r (324 + i) = nI s <;> cases c2 : bt c f <;> cases c3 : sX8_isWrong r (nI i) <;> simp [c1]
theorem wrong_rv (h : RO d O r) {s : Nat} (hs : s < nS r) (c : Int32) (h99 : (r (20 + s)).toInt < 99) {w : Nat} (hw : w < nW r) : sX8_isWrong (rvR r s c) (nI w) = (sX8_isWrong r (nI w) || (decide (r (324 + w) = nI s) && bt c (r (354 + w)).toNatClampNeg)) := by
  have h10 := nS_le h.c
  have h24 := nP_le h.c
  have h30 := nW_le h.c
  obtain ⟨⟨s2, hs2, es⟩, f, hf, ef⟩ := ofW' h hw
  have z1 : (1 : Int32).toInt = 1 := rfl
  have hg := (h.2.2.2.2.1 s hs).2.1
  have eR : (r (20 + s) + 1).toInt = (r (20 + s)).toInt + 1 := by rw [fb_addI (by omega) (by omega)]; omega
  have g3 := (h.2.2.2.2.2.2 w hw).2.2
  rw [es, ixN (by omega)] at g3
  unfold sX8_isWrong
  rw [ix324 (by omega), ix354 (by omega), ix384 (by omega), rv_o h24 (k := 324 + w) (by omega) (by omega) (by omega) (by omega), rv_o h24 (k := 354 + w) (by omega) (by omega) (by omega) (by omega), rv_o h24 (k := 384 + w) (by omega) (by omega) (by omega) (by omega), es, ef, ixF (by omega) (by omega), ixN (by omega)]
  by_cases q : s2 = s
  · subst q
    rw [rv_30 (by omega) hf]
    unfold rvG
    cases c2 : bt c f
    · simp
    · have : ¬ r (20 + s2) + 1 ≤ r (384 + w) := fun z => by have := i32_le.mp z; omega
      simp [this]
  · rw [rv_o h24 (k := 30 + (12 * s2 + f)) (by omega) (by omega) (by omega) (by omega)]
    have : ¬ nI s2 = nI s := fun z => q ((nI_eq (by omega) (by omega)).mp z)
    simp [this]
theorem rv_hc (h : RO d O r) {s : Nat} (c : Int32) : IVc (rvR r s c) := by
  have h24 := nP_le h.c
  exact IVc_c (rv_o h24 (by omega) (by omega) (by omega) (by omega)) (rv_o h24 (by omega) (by omega) (by omega) (by omega)) (rv_o h24 (by omega) (by omega) (by omega) (by omega)) h.c
theorem g_madeWrong (h : RO d O r) {s : Nat} (hs : s < nS r) (c : Int32) (h99 : (r (20 + s)).toInt < 99) : sX1_worksMadeWrong O (nI s) c = sX8_wrong (rvR r s c) - sX8_wrong r := by
  have h24 := nP_le h.c
  have e2 : nW (rvR r s c) = nW r := nW_c (rv_o h24 (by omega) (by omega) (by omega) (by omega))
  rw [k_madeWrong h, t_wrong (rv_hc h c), t_wrong h.c, e2]
  have e3 : fb_ct (fun w => sX8_isWrong (rvR r s c) (nI w)) (nW r) = fb_ct (fun w => sX8_isWrong r (nI w) || mwC r s c w) (nW r) := fb_ct_cong (fun w hw => by
    rw [wrong_rv h hs c h99 hw]
    unfold mwC
    cases sX8_isWrong r (nI w) <;> simp)
  rw [e3, fb_ct_or (fun w _ => by unfold mwC; cases sX8_isWrong r (nI w) <;> simp), pk_sub (by omega)]
  exact congrArg nI (by omega)
theorem g_aboveNot (h : RO d O r) {s : Nat} (hs : s < nS r) (c : Int32) : sX4_aboveNotToCheck O (nI s) = sX8_many ((rvR r s c) 8 &&& (r 8 ^^^ (-1))) := by
  have h10 := nS_le h.c
  unfold sX4_aboveNotToCheck
  rw [rv_8, h.1.1.2.1]
  have e : sX4_above O (nI s) &&& (r 8 ^^^ (-1)) = rvV r s &&& (r 8 ^^^ (-1)) := b_ext (fun i hi => by
    rw [b_and, b_and, b_xor, b_m1 i hi, above_bt h hs hi, rvV_bt h hs hi]
    cases bt (r 8) i <;> simp)
  rw [← e]
  refine bc_many (fun i hi hb => ?_)
  rw [b_and, above_bt h hs hi] at hb
  have := ups32 h hs i (of_decide_eq_true (Bool.and_eq_true_iff.mp hb).1)
  omega
theorem rv_first (h : RO d O r) (hd : d ≤ 1000000) {s : Nat} (hs : s < nS r) (c : Int32) (a : Int32) : sX8_first (rvR r s c) a (nI s) = -1 := by
  have h10 := nS_le h.c
  have h24 := nP_le h.c
  have e1 : nP (rvR r s c) = nP r := nP_c (rv_o h24 (by omega) (by omega) (by omega) (by omega))
  rw [t_first (rv_hc h c), e1]
  refine fst_none _ _ (fun k _ hk => ?_)
  have hk : k < nP r := by omega
  rw [rv_o h24 (k := 150 + k) (by omega) (by omega) (by omega) (by omega)]
  by_cases q : r (150 + k) = nI s
  · have : sX8_mayBuild (rvR r s c) (nI k) = false := by
      have t := h.2.2.1
      have eo : sX8_isOut (rvR r s c) (nI k) = sX8_isOut r (nI k) := by
        unfold sX8_isOut
        rw [cl_9, rv_o h24 (k := 9) (by omega) (by omega) (by omega) (by omega)]
      unfold sX8_mayBuild
      rw [eo]
      cases qo : sX8_isOut r (nI k)
      · rfl
      · have er : sX8_isRecalled (rvR r s c) (nI k) = true := by
          rw [rec_e _ (by omega), rv_270 hk]
          unfold rvD
          cases qc : rvC r s k
          · unfold rvC at qc
            rw [decide_eq_true q, qo, Bool.true_and, Bool.true_and, rec_e _ (by omega)] at qc
            rw [if_neg (by decide)]
            cases hq : decide (r (270 + k) = -1)
            · rfl
            · rw [hq] at qc; exact nomatch qc
          · rw [if_pos rfl]
            have : ¬ r 3 + r 5 = -1 := fun z => by
              have e5 : (r 3 + r 5).toInt = (r 3).toInt + (r 5).toInt := fb_addI (by have := t.1; have := t.2.1; omega) (by have := t.1; have := t.2.1; omega)
              rw [z] at e5
              have z1 : (-1 : Int32).toInt = -1 := rfl
              have := t.1; have := t.2.1
              omega
            rw [decide_eq_false this]; rfl
        rw [er]; rfl
    rw [this]
    simp
  · rw [decide_eq_false q]
    simp
/-- the sites that would lose all -/
theorem g_sitesLost {M : MS} (h : RO d O (M.1.2 1)) (s : Nat) (h2 : ∀ a, sX8_first (M.1.2 2) a (nI s) = -1) : sX1_sitesWithTruePrint O (nI s) = sX8_sitesLost M (nI s) := by
  have hu : upM 4 0 = 4 := upM_n0 (m := 4) (by decide)
  unfold sX1_sitesWithTruePrint sX8_sitesLost
  rw [hu]
  refine two_loops (L := LX1_sitesWithTruePrint_4 O (nI s)) (L' := LX8_sitesLost_4 M (nI s)) (m := 4) (fun n a => ?_) (fun n a i hi => ?_) 4 0 0 rfl
  · rw [LX1_sitesWithTruePrint_4_eq, LX8_sitesLost_4_eq]; rfl
  · rw [LX1_sitesWithTruePrint_4_eq, LX8_sitesLost_4_eq, if_neg (ge4 hi), if_neg (ge4 hi), g_first h, h2, nI_1, ab2]
    by_cases q : sX8_first (M.1.2 1) (nI i) (nI s) = -1
    · exact ⟨a, by rw [if_pos q], by rw [if_pos q]; rfl⟩
    · exact ⟨a + 1, by rw [if_neg q], by rw [if_neg q]; rfl⟩
/-! fetch -/
def ltP (r : Nat → Int32) (p q : Nat) : Bool := (sX8_isOut r (nI q) && sX8_isRecalled r (nI q)) && (decide (r (270 + q) < r (270 + p)) || (decide (r (270 + q) = r (270 + p)) && decide (q < p)))
theorem k_before (h : RO d O r) {p : Nat} (hp : p < nP r) : sX3_fetchedBefore O (nI p) = nI (fb_ct (ltP r p) (nP r)) := by
  have e := h.1.1.2.2.1
  have e2 := nP_e h.c
  have hm := nP_lt h.c
  have h24 := nP_le h.c
  unfold sX3_fetchedBefore
  rw [e, e2]
  refine cnt_all (L := LX3_fetchedBefore_4 O (nI p)) hm (fun n a => ?_) (fun n a i hi => ?_)
  · rw [LX3_fetchedBefore_4_eq, e, e2, if_pos (nI_le (Nat.le_refl _) hm)]
  · rw [LX3_fetchedBefore_4_eq, e, e2, if_neg (nI_ge hi hm), q_oar h hi, q_dueP h hi, q_dueP h hp, nI_1]
    have e5 : (nI p ≤ nI i) ↔ ¬ i < p := (nI_leI (by omega) (by omega)).trans (by omega)
    unfold ltP
    simp only [e5]
    cases q1 : (sX8_isOut r (nI i) && sX8_isRecalled r (nI i)) <;> by_cases q2 : r (270 + i) < r (270 + p) <;> by_cases q3 : r (270 + i) = r (270 + p) <;> by_cases q4 : i < p <;> simp [q2, q3, q4]
theorem t_ahead {M : MS} (hc : IVc (M.1.2 1)) {p : Nat} (hp : p < nP (M.1.2 1)) : sX8_ahead M (nI p) = nI (fb_ct (ltP (M.1.2 1) p) (nP (M.1.2 1))) := by
  have e2 : M.1.2 1 (1 : Int32).toNatClampNeg = nI (nP (M.1.2 1)) := nP_e hc
  have hm := nP_lt hc
  have h24 := nP_le hc
  unfold sX8_ahead
  rw [e2]
  refine cnt_all (L := LX8_ahead_4 M (nI p)) hm (fun n a => ?_) (fun n a i hi => ?_)
  · rw [LX8_ahead_4_eq, e2, if_pos (nI_le (Nat.le_refl _) hm)]
  · rw [LX8_ahead_4_eq, e2, if_neg (nI_ge hi hm), ix270 (by omega), ix270 (by omega), ab2, nI_1]
    have e5 : (nI p ≤ nI i) ↔ ¬ i < p := (nI_leI (by omega) (by omega)).trans (by omega)
    unfold ltP
    simp only [e5]
    cases q1 : sX8_isOut (M.1.2 1) (nI i) <;> cases q0 : sX8_isRecalled (M.1.2 1) (nI i) <;> by_cases q2 : M.1.2 1 (270 + i) < M.1.2 1 (270 + p) <;> by_cases q3 : M.1.2 1 (270 + i) = M.1.2 1 (270 + p) <;> by_cases q4 : i < p <;> simp [q2, q3, q4]
/-- no two prints are fetched at the same time -/
theorem lt_one {a b n : Nat} (ha : a < n) (hb : b < n) (oa : (sX8_isOut r (nI a) && sX8_isRecalled r (nI a)) = true) (ob : (sX8_isOut r (nI b) && sX8_isRecalled r (nI b)) = true) (e : fb_ct (ltP r a) n = fb_ct (ltP r b) n) : a = b := by
  have key : ∀ a b : Nat, a < n → (sX8_isOut r (nI a) && sX8_isRecalled r (nI a)) = true → (r (270 + a) < r (270 + b) ∨ (r (270 + a) = r (270 + b) ∧ a < b)) → fb_ct (ltP r a) n < fb_ct (ltP r b) n := by
    intro a b ha oa hab
    have hA : ltP r a a = false := by
      unfold ltP
      have : ¬ r (270 + a) < r (270 + a) := fun z => by have := i32_lt.mp z; omega
      simp [this]
    have u := fb_ct_upd (ltP r a) true (i := a) (n := n) ha
    rw [hA] at u
    have hs : fb_ct (fun k => if k = a then true else ltP r a k) n ≤ fb_ct (ltP r b) n := fb_ct_sub (fun k _ hk => by
      by_cases q : k = a
      · subst q
        unfold ltP
        rw [oa]
        rcases hab with z | ⟨z1, z2⟩
        · simp [z]
        · simp [z1, z2]
      · simp only [q, if_false] at hk
        unfold ltP at hk ⊢
        obtain ⟨k1, k2⟩ := Bool.and_eq_true_iff.mp hk
        rw [k1, Bool.true_and]
        rcases Bool.or_eq_true_iff.mp k2 with k3 | k3
        · have k4 := i32_lt.mp (of_decide_eq_true k3)
          have : r (270 + k) < r (270 + b) := i32_lt.mpr (by
            rcases hab with z | ⟨z1, z2⟩
            · have := i32_lt.mp z; omega
            · rw [z1] at k4; exact k4)
          simp [this]
        · obtain ⟨k4, k5⟩ := Bool.and_eq_true_iff.mp k3
          have k4 := of_decide_eq_true k4
          have k5 := of_decide_eq_true k5
          rcases hab with z | ⟨z1, z2⟩
          · have : r (270 + k) < r (270 + b) := by rw [k4]; exact z
            simp [this]
          · have t1 : r (270 + k) = r (270 + b) := by rw [k4, z1]
            have t2 : k < b := by omega
            simp [t1, t2])
    rw [if_neg (by decide), if_pos rfl] at u
    omega
  by_cases q1 : r (270 + a) = r (270 + b)
  · rcases Nat.lt_trichotomy a b with z | z | z
    · have := key a b ha oa (Or.inr ⟨q1, z⟩); omega
    · exact z
    · have := key b a hb ob (Or.inr ⟨q1.symm, z⟩); omega
  · have q2 : (r (270 + a)).toInt ≠ (r (270 + b)).toInt := fun z => q1 (Int32.toInt_inj.mp z)
    rcases Int.lt_or_le (r (270 + a)).toInt (r (270 + b)).toInt with z | z
    · have := key a b ha oa (Or.inl (i32_lt.mpr z)); omega
    · have := key b a hb ob (Or.inl (i32_lt.mpr (by omega))); omega
def feP (r : Nat → Int32) (x : Int32) (p : Nat) : Bool := (sX8_isOut r (nI p) && sX8_isRecalled r (nI p)) && decide (nI (fb_ct (ltP r p) (nP r)) = x)
theorem g_fetch {M : MS} (h : RO d O (M.1.2 1)) (x : Int32) (m : MS) (hm0 : m.1.2 1 = M.1.2 1) : sX3_toFetch O x = (LX8_fetch_22 M x (upM (M.1.2 1 (1 : Int32).toNatClampNeg) 0 + 1) (-1) 0).1 := by
  obtain ⟨r, er⟩ : ∃ r, M.1.2 1 = r := ⟨_, rfl⟩
  have e := h.1.1.2.2.1
  have hc := h.c
  rw [er] at h e hc
  have e2 := nP_e hc
  have e2' : M.1.2 1 (1 : Int32).toNatClampNeg = nI (nP r) := by rw [er]; exact e2
  have hm := nP_lt hc
  have h24 := nP_le hc
  have kc : ∀ n i, i + n = nP r → LX3_toFetch_2 O x (n + 1) (nI i) = fstP (feP r x) (-1) n i := by
    intro n
    induction n with
    | zero => intro i hi; rw [LX3_toFetch_2_eq, e, e2]; exact if_pos (nI_le (by omega) (by omega))
    | succ n ih =>
      intro i hi
      rw [LX3_toFetch_2_eq, e, e2, if_neg (nI_ge (by omega) hm), q_oar h (by omega), k_before h (by omega), nI_1, ih (i + 1) (by omega)]
      show _ = (if feP r x i = true then nI i else fstP _ (-1) n (i + 1))
      unfold feP
      cases q1 : (sX8_isOut r (nI i) && sX8_isRecalled r (nI i)) <;> by_cases q2 : nI (fb_ct (ltP r i) (nP r)) = x <;> simp [q2]
  have kr : ∀ n i f, i + n = nP r → (LX8_fetch_22 M x (n + 1) f (nI i)).1 = lstP (feP r x) f n i := by
    intro n
    induction n with
    | zero => intro i f hi; rw [LX8_fetch_22_eq, e2', if_pos (nI_le (by omega) (by omega))]; rfl
    | succ n ih =>
      intro i f hi
      have ea : sX8_ahead (msS M 0 (b2i (if 0 ≤ x then false else true))) (nI i) = nI (fb_ct (ltP r i) (nP r)) := by
        have t := t_ahead (M := msS M 0 (b2i (if 0 ≤ x then false else true))) (p := i) (by show IVc (M.1.2 1); rw [er]; exact hc) (by show i < nP (M.1.2 1); rw [er]; omega)
        rw [t]
        show nI (fb_ct (ltP (M.1.2 1) i) (nP (M.1.2 1))) = _
        rw [er]
      rw [LX8_fetch_22_eq, e2', if_neg (nI_ge (by omega) hm), ea, er, nI_1, ih (i + 1) _ (by omega)]
      show lstP _ _ n (i + 1) = lstP _ (if feP r x i = true then nI i else f) n (i + 1)
      congr 1
      unfold feP
      cases q1 : sX8_isOut r (nI i) <;> cases q0 : sX8_isRecalled r (nI i) <;> by_cases q2 : nI (fb_ct (ltP r i) (nP r)) = x <;> simp [q2]
  unfold sX3_toFetch
  rw [e, e2, e2', upM_n0 hm]
  have k1 := kc (nP r) 0 (by omega)
  have k2 := kr (nP r) 0 (-1) (by omega)
  refine Eq.trans k1 (Eq.trans ?_ k2.symm)
  refine fst_lst _ _ _ (fun k j hk hj h3 h4 => ?_)
  unfold feP at hk hj
  obtain ⟨a1, a2⟩ := Bool.and_eq_true_iff.mp hk
  obtain ⟨b1, b2⟩ := Bool.and_eq_true_iff.mp hj
  have a3 := of_decide_eq_true a2
  have b3 := of_decide_eq_true b2
  have t1 := fb_ct_le (ltP r k) (nP r)
  have t2 := fb_ct_le (ltP r j) (nP r)
  exact lt_one (n := nP r) (by omega) (by omega) a1 b1 ((nI_eq (by omega) (by omega)).mp (a3.trans b3.symm))
/-! the worst site -/
def odC (r : Nat → Int32) (a p : Nat) : Bool := decide (r (198 + p) = nI a) && sX8_isOverdue r (nI p) (r 3)
def wrC (r : Nat → Int32) (a w : Nat) : Bool := decide (r (294 + w) = nI a) && sX8_isWrong r (nI w)
theorem sm_100 (p : Nat → Bool) : ∀ n, fb_sm (fun k => if p k = true then 100 else 0) n = 100 * fb_ct p n := by
  intro n
  induction n with
  | zero => rfl
  | succ n ih => rw [fb_sm_succ, fb_ct_succ, ih]; split <;> omega
theorem t_badness {M : MS} (hc : IVc (M.1.2 1)) (a : Nat) : sX8_badness M (nI a) = nI (100 * fb_ct (odC (M.1.2 1) a) (nP (M.1.2 1)) + fb_ct (wrC (M.1.2 1) a) (nW (M.1.2 1))) := by
  obtain ⟨r, er⟩ : ∃ r, M.1.2 1 = r := ⟨_, rfl⟩
  rw [er] at hc
  have e1 : M.1.2 1 (1 : Int32).toNatClampNeg = nI (nP r) := by rw [er]; exact nP_e hc
  have e2 : M.1.2 1 (2 : Int32).toNatClampNeg = nI (nW r) := by rw [er]; exact nW_e hc
  have hm1 := nP_lt hc
  have hm2 := nW_lt hc
  have h24 := nP_le hc
  have h30 := nW_le hc
  have k2 : ∀ x : Int32, LX8_badness_62 M (nI a) (upM (M.1.2 1 (2 : Int32).toNatClampNeg) 0 + 1) x 0 = x + nI (fb_ct (wrC r a) (nW r)) := by
    intro x
    rw [e2, upM_n0 hm2]
    have t := cnt_loop (L := LX8_badness_62 M (nI a)) (P := wrC r a) (m := nW r) x (fun n y => by
      rw [LX8_badness_62_eq, e2, if_pos (nI_le (Nat.le_refl _) hm2)]) (fun n y i hi => by
      rw [LX8_badness_62_eq, e2, if_neg (nI_ge hi hm2), ix294 (by omega), er, ab2, nI_1]
      unfold wrC
      by_cases q : r (294 + i) = nI a <;> cases sX8_isWrong r (nI i) <;> simp [q]) (nW r) 0 (by omega)
    have z : x + nI (fb_ct (wrC r a) 0) = x := Int32.add_zero x
    rw [z] at t
    exact t
  have t := sum_loop (L := LX8_badness_4 M (nI a)) (E := fun y => y + nI (fb_ct (wrC r a) (nW r))) (g := fun p => if odC r a p = true then 100 else 0) (m := nP r) 0 (fun n y => by
    rw [LX8_badness_4_eq, e1, if_pos (nI_le (Nat.le_refl _) hm1), k2]) (fun n y i hi => by
    rw [LX8_badness_4_eq, e1, if_neg (nI_ge hi hm1), ix198 (by omega), er, cl_3, nI_1]
    congr 2
    unfold odC
    by_cases q : r (198 + i) = nI a <;> cases sX8_isOverdue r (nI i) (r 3) <;> simp [q] <;> rfl) (nP r) 0 (by omega)
  have z : (0 : Int32) + nI (fb_sm (fun p => if odC r a p = true then 100 else 0) 0) = 0 := rfl
  rw [z, sm_100, Int32.zero_add, nI_add] at t
  unfold sX8_badness
  rw [e1, er, upM_n0 hm1]
  exact t
theorem g_worst {M : MS} (h : RO d O (M.1.2 1)) (hd : d ≤ 1000000) : sX1_worstSite O = (sX8_worst M).1 := by
  obtain ⟨r, er⟩ : ∃ r, M.1.2 1 = r := ⟨_, rfl⟩
  rw [er] at h
  have h24 := nP_le h.c
  have h30 := nW_le h.c
  have ht := today_ge h
  have et : O.1 5 = r 3 := h.1.1.2.2.2.2.2.1
  have hod : ∀ a, a < 4 → sX3_overdueCount O (nI a) (O.1 5) = nI (fb_ct (odC r a) (nP r)) := fun a ha => by
    rw [et, k_overdue h hd _ ht.1 (by omega)]
    refine congrArg nI (fb_ct_cong (fun k _ => ?_))
    rw [decide_eq_false (nI_m1 (k := a) (by omega))]
    rfl
  have hwr : ∀ a, a < 4 → sX1_wrongWorks O (nI a) (-1) = nI (fb_ct (wrC r a) (nW r)) := fun a ha => by
    rw [k_wrong h]
    refine congrArg nI (fb_ct_cong (fun k _ => ?_))
    rw [decide_eq_false (nI_m1 (k := a) (by omega))]
    unfold wrC
    simp
  have hbd : ∀ a, a < 4 → sX8_badness (msS M 0 0) (nI a) = nI (100 * fb_ct (odC r a) (nP r) + fb_ct (wrC r a) (nW r)) := fun a ha => by
    have t := t_badness (M := msS M 0 0) (by show IVc (M.1.2 1); rw [er]; exact h.c) a
    have e9 : (msS M 0 0).1.2 1 = r := er
    rw [e9] at t
    exact t
  have key : ∀ n i b, i + n = 4 → b < 4 → LX1_worstSite_25 O (n + 1) (nI b) (nI (fb_ct (odC r b) (nP r))) (nI (fb_ct (wrC r b) (nW r))) (nI i) = (LX8_worst_9 M (n + 1) (nI b) (nI i)).1 := by
    intro n
    induction n with
    | zero =>
      intro i b hi hb
      have : i = 4 := by omega
      subst this
      rw [LX1_worstSite_25_eq, LX8_worst_9_eq, if_pos (show (4 : Int32) ≤ nI 4 by decide), if_pos (show (4 : Int32) ≤ nI 4 by decide)]
    | succ n ih =>
      intro i b hi hb
      have hi4 : i < 4 := by omega
      rw [LX1_worstSite_25_eq, LX8_worst_9_eq, if_neg (ge4 hi4), if_neg (ge4 hi4), hod i hi4, hwr i hi4, hbd i hi4, hbd b hb, nI_1]
      have a1 := fb_ct_le (odC r i) (nP r)
      have a2 := fb_ct_le (odC r b) (nP r)
      have a3 := fb_ct_le (wrC r i) (nW r)
      have a4 := fb_ct_le (wrC r b) (nW r)
      have k1 := ih (i + 1) i (by omega) hi4
      have k2 := ih (i + 1) b (by omega) hb
      generalize fb_ct (odC r i) (nP r) = oi at *
      generalize fb_ct (odC r b) (nP r) = ob at *
      generalize fb_ct (wrC r i) (nW r) = wi at *
      generalize fb_ct (wrC r b) (nW r) = wb at *
      have e1 : (nI ob < nI oi) ↔ ob < oi := nI_ltI (by omega) (by omega)
      have e2 : (nI oi = nI ob) ↔ oi = ob := nI_eq (by omega) (by omega)
      have e3 : (nI wi ≤ nI wb) ↔ wi ≤ wb := nI_leI (by omega) (by omega)
      have e4 : (nI (100 * oi + wi) ≤ nI (100 * ob + wb)) ↔ 100 * oi + wi ≤ 100 * ob + wb := nI_leI (by omega) (by omega)
      by_cases c1 : ob < oi
      · rw [if_pos (e1.mpr c1), if_neg (fun z => by have := e4.mp z; omega)]
        exact k1
      · rw [if_neg (fun z => c1 (e1.mp z))]
        by_cases c2 : oi = ob
        · rw [if_pos (e2.mpr c2)]
          by_cases c3 : wi ≤ wb
          · rw [if_pos (e3.mpr c3), if_pos (e4.mpr (by omega))]
            exact k2
          · rw [if_neg (fun z => c3 (e3.mp z)), if_neg (fun z => by have := e4.mp z; omega)]
            exact k1
        · rw [if_neg (fun z => c2 (e2.mp z)), if_pos (e4.mpr (by omega))]
          exact k2
  have hu : upM 4 1 = 3 := upM_nI (m := 4) (i := 1) (by decide) (by decide)
  unfold sX1_worstSite sX8_worst
  rw [hu]
  have z1 := hod 0 (by decide)
  have z2 := hwr 0 (by decide)
  have z3 : nI 0 = 0 := rfl
  rw [z3] at z1 z2
  rw [z1, z2]
  exact key 3 1 0 (by decide) (by decide)
end
