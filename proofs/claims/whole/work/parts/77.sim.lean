/-! math: simulations, scripts -/
theorem cmp_lt (x y : Int64) : lg_cmp x y < 0 ↔ x < y := by
  unfold lg_cmp
  by_cases c1 : x > y
  · rw [if_pos c1]
    have h1 := Int64.lt_iff_toInt_lt.mp c1
    exact ⟨fun q => absurd q (by decide), fun q => by have := Int64.lt_iff_toInt_lt.mp q; omega⟩
  · rw [if_neg c1]
    by_cases c2 : x = y
    · subst c2
      rw [if_pos rfl]
      exact ⟨fun q => absurd q (by decide), fun q => by have := Int64.lt_iff_toInt_lt.mp q; omega⟩
    · rw [if_neg c2]
      refine ⟨fun _ => Int64.lt_iff_toInt_lt.mpr ?_, fun _ => by decide⟩
      have h1 : ¬ y.toInt < x.toInt := fun q => c1 (Int64.lt_iff_toInt_lt.mpr q)
      have h2 : x.toInt ≠ y.toInt := fun q => c2 (Int64.toInt_inj.mp q)
      omega
theorem cmp_eq (x y : Int64) : lg_cmp x y = 0 ↔ x = y := by
  unfold lg_cmp
  by_cases c1 : x > y
  · rw [if_pos c1]
    have h1 := Int64.lt_iff_toInt_lt.mp c1
    exact ⟨fun q => absurd q (by decide), fun q => by rw [q] at h1; omega⟩
  · rw [if_neg c1]
    by_cases c2 : x = y
    · rw [if_pos c2]; exact ⟨fun _ => c2, fun _ => rfl⟩
    · rw [if_neg c2]; exact ⟨fun q => absurd q (by decide), fun q => absurd q c2⟩
def TN (d : Nat) (M : MS) (O' : OF) (N : MS) : Prop := ∃ r', N = msA M 2 r' ∧ RO d O' r'
section
variable {d : Nat} {O : OF} {M : MS} (h : RO d O (M.1.2 2))
theorem tn_rn {d : Nat} {c : Int32 × OF} {w : Bool × MS} (h : RN d M c w) : TN (d + 30) M c.2 w.2 := by
  obtain ⟨b, r', h1, h2, h3⟩ := h
  exact ⟨r', by rw [h2], h3.mono (by omega)⟩
theorem tn_rn' {d : Nat} {c : Int32 × OF} {w : Bool × MS} (h : RN d M c w) : TN d M c.2 w.2 := by
  obtain ⟨b, r', h1, h2, h3⟩ := h
  exact ⟨r', by rw [h2], h3⟩
theorem tn_no (h : RO d O (M.1.2 2)) {c : Int32 × OF} {a : Int32} (hc : c = (a, O)) : TN (d + 30) M c.2 M := ⟨M.1.2 2, by rw [msA_id], by rw [hc]; exact h.mono (by omega)⟩
theorem tn_ok {c : Int32 × OF} {g : Int32 × (Nat → Int32)} (hk : OKA d c g) : TN (d + 30) M c.2 (msA M 2 g.2) := ⟨g.2, rfl, hk.2.2.mono (by omega)⟩
theorem dq {g a b : Nat} {x y : Int32} (hg : g < 2 ^ 31) (ha : 0 < a) (hb : 0 < b) (ha2 : a < 2 ^ 31) (hb2 : b < 2 ^ 31) (hx : x = nI a) (hy : y = nI b) : nI g / x - nI g / x / y * y = nI (g / a % b) := by
  rw [hx, hy, pk_div hg ha ha2, pk_rem (by have := Nat.div_le_self g a; omega) hb hb2]
theorem tn_draw (h : RO d O (M.1.2 2)) {k : Nat} (hk : k < 2 ^ 31) : TN (d + 30) M (sX1_addSheet O (nI k)).2 (if (sX8_hasSheet (M.1.2 2) (nI k)) = true then (if (sX8_canDraw (M.1.2 2)) = true then (msA M 2 (((sX8_goDraw (M.1.2 2) (nI k))).2)) else M) else M) := by
  rcases a_draw h (nI k) with ⟨c1, c2, e⟩ | ⟨c1, c2, e⟩ | ⟨c1, c2, e⟩
  · rw [c2]; exact tn_no h e
  · rw [c1.resolve_left (nI_m1 hk), c2]; exact tn_no h e
  · rw [c1.resolve_left (nI_m1 hk), c2]; exact tn_ok e
theorem tn_revise (h : RO d O (M.1.2 2)) (hd : d ≤ 1000000) (x : Int32) {c : Int32} (hc : sX8_isCloud c = true) : TN (d + 30) M (sX1_reviseSheet O x c).2 (if (sX8_hasSheet (M.1.2 2) x) = true then (if (sX8_canRevise (M.1.2 2) x) = true then (msA M 2 (((sX8_goRevise (M.1.2 2) x c)).2)) else M) else M) := by
  rcases a_revise h hd x c with ⟨c1, e⟩ | ⟨c1, c2, e⟩ | ⟨c1, c2, c3, e⟩ | ⟨c1, c2, c3, e⟩
  · rw [c1]; exact tn_no h e
  · rw [hc] at c2; exact nomatch c2
  · rw [c1, c3]; exact tn_no h e
  · rw [c1, c3]; exact tn_ok e
theorem tn_mend (h : RO d O (M.1.2 2)) (x : Int32) : TN (d + 30) M (sX1_mendWork O x).2 (if (sX8_hasWork (M.1.2 2) x) = true then (if (sX8_isWrong (M.1.2 2) x) = true then (msA M 2 (((sX8_goMend (M.1.2 2) x)).2)) else M) else M) := by
  rcases a_mend h x with ⟨c1, e⟩ | ⟨c1, c2, e⟩ | ⟨c1, c2, e⟩
  · rw [c1]; exact tn_no h e
  · rw [c1, c2]; exact tn_no h e
  · rw [c1, c2]; exact tn_ok e
theorem tn_all (h : RO d O (M.1.2 2)) (hd : d ≤ 1000000) {q : Nat} (hq : q < 2 ^ 31) : TN (d + 30) M (sX7_takeTurn O (nI q)) (sX8_stir M (nI q)) := by
  have e1 : nI q / 16 - nI q / 16 / 10 * 10 = nI (q / 16 % 10) := dq (a := 16) (b := 10) hq (by decide) (by decide) (by decide) (by decide) rfl rfl
  have hcl : sX8_isCloud (1 + (nI q / 256 - nI q / 256 / 4095 * 4095)) = true := by
    have e2 : nI q / 256 - nI q / 256 / 4095 * 4095 = nI (q / 256 % 4095) := dq (a := 256) (b := 4095) hq (by decide) (by decide) (by decide) (by decide) rfl rfl
    have hm : q / 256 % 4095 < 4095 := Nat.mod_lt _ (by decide)
    have e3 : (1 : Int32) + nI (q / 256 % 4095) = nI (1 + q / 256 % 4095) := nI_add 1 _
    rw [e2, e3]
    unfold sX8_isCloud
    rw [in_iff32, nI_toInt (by omega)]
    have z1 : (1 : Int64).toInt = 1 := rfl
    have z2 : (4095 : Int64).toInt = 4095 := rfl
    omega
  unfold sX7_takeTurn sX8_stir
  by_cases c0 : nI q - nI q / 16 * 16 = 0
  · rw [if_pos c0, if_pos c0, e1]; exact tn_draw h (by omega)
  rw [if_neg c0, if_neg c0]
  by_cases c1 : nI q - nI q / 16 * 16 = 1
  · rw [if_pos c1, if_pos c1]; exact tn_revise h hd _ hcl
  rw [if_neg c1, if_neg c1]
  by_cases c2 : nI q - nI q / 16 * 16 = 2
  · rw [if_pos c2, if_pos c2]; exact tn_revise h hd _ hcl
  rw [if_neg c2, if_neg c2]
  by_cases c3 : nI q - nI q / 16 * 16 = 3
  · rw [if_pos c3, if_pos c3]; exact tn_rn (rn_check h _)
  rw [if_neg c3, if_neg c3]
  by_cases c4 : nI q - nI q / 16 * 16 = 4
  · rw [if_pos c4, if_pos c4]; exact tn_rn (rn_print h _ _)
  rw [if_neg c4, if_neg c4]
  by_cases c5 : nI q - nI q / 16 * 16 = 5
  · rw [if_pos c5, if_pos c5]; exact tn_rn (rn_print h _ _)
  rw [if_neg c5, if_neg c5]
  by_cases c6 : nI q - nI q / 16 * 16 = 6
  · rw [if_pos c6, if_pos c6]; exact tn_rn (rn_print h _ _)
  rw [if_neg c6, if_neg c6]
  by_cases c7 : nI q - nI q / 16 * 16 = 7
  · rw [if_pos c7, if_pos c7]; exact tn_rn (rn_stamp h _ _)
  rw [if_neg c7, if_neg c7]
  by_cases c8 : nI q - nI q / 16 * 16 = 8
  · rw [if_pos c8, if_pos c8]; exact tn_rn (rn_stamp h _ _)
  rw [if_neg c8, if_neg c8]
  by_cases c9 : nI q - nI q / 16 * 16 = 9
  · rw [if_pos c9, if_pos c9]; exact tn_rn (rn_back h hd _)
  rw [if_neg c9, if_neg c9]
  by_cases c10 : nI q - nI q / 16 * 16 = 10
  · rw [if_pos c10, if_pos c10]; exact tn_rn (rn_build h _ _)
  rw [if_neg c10, if_neg c10]
  by_cases c11 : nI q - nI q / 16 * 16 = 11
  · rw [if_pos c11, if_pos c11]; exact tn_rn (rn_build h _ _)
  rw [if_neg c11, if_neg c11]
  by_cases c12 : nI q - nI q / 16 * 16 = 12
  · rw [if_pos c12, if_pos c12]; exact tn_rn (rn_build h _ _)
  rw [if_neg c12, if_neg c12]
  by_cases c13 : nI q - nI q / 16 * 16 = 13
  · rw [if_pos c13, if_pos c13]; exact tn_mend h _
  rw [if_neg c13, if_neg c13]
  exact tn_rn' (rn_days h hd _)
end
theorem shr33 (x : Int64) : ∃ q, q < 2 ^ 31 ∧ ((x.toUInt64 >>> ((33 : Int32).toInt64.toUInt64 &&& Int64.toUInt64 63)).toInt64).toInt32 = nI q := by
  obtain ⟨n, hn, rfl⟩ := wb_of x
  refine ⟨n / 2 ^ 33, by omega, ?_⟩
  have e := wb_shr (n := n) (k := 33) hn (by decide)
  have e2 : ((lN n).toUInt64 >>> ((33 : Int32).toInt64.toUInt64 &&& Int64.toUInt64 63)).toInt64 = lN (n / 2 ^ 33) := e
  rw [e2, lN_i]
section
variable {d : Nat} {Os : Nat → OF} {T : OF} {M : MS} (h : SR d Os T M)
theorem SR_1 (h : SR d Os T M) {Os9 : Nat → OF} (h9 : ∀ k, k ≠ 1 → Os9 k = Os k) (r9 : Nat → Int32) : SR d Os9 T (msA (msS M 0 0) 2 r9) := by
  obtain ⟨n, c, h1, h2, h3, h4, h5, h6⟩ := h.2.2.1
  refine ⟨?_, h.2.1, ⟨n, c, h1, h2, h3, h4, h5, fun j hj => ?_⟩, fun s hs => ⟨(h.2.2.2 s hs).1, fun q => ?_⟩⟩
  · rw [h9 0 (by decide)]; exact h.1
  · rw [h9 _ (by omega)]; exact h6 j hj
  · rw [h9 _ (by omega)]; exact (h.2.2.2 s hs).2 q
theorem up_1 {Os9 : Nat → OF} (h9 : ∀ k, k ≠ 1 → Os9 k = Os k) (O' : OF) : ∀ k, k ≠ 1 → va_up Os9 1 O' k = Os k := fun k hk => by rw [va_up_ne _ _ hk, h9 k hk]
theorem sim_loop (h : SR d Os T M) (p : Int64) {m : Nat} (hm : m ≤ 80) (hd : d ≤ 900000) : ∀ n i x Os9 r9, i + n = m → (∀ k, k ≠ 1 → Os9 k = Os k) → RO (d + 30 * i) (Os9 1) r9 → OKF [1] d (LX7_simulate_39 Os T p (nI m) (n + 1) x (nI i) Os9 T) (LX8_simulate_43 M p (nI m) (n + 1) x (nI i) (msA (msS M 0 0) 2 r9)) := by
  intro n
  induction n with
  | zero =>
    intro i x Os9 r9 hi h9 ho
    have : i = m := by omega
    subst this
    rw [LX7_simulate_39_eq, LX8_simulate_43_eq, if_pos (nI_le (Nat.le_refl _) (by omega)), if_pos (nI_le (Nat.le_refl _) (by omega))]
    refine ⟨Or.inl ⟨rfl, rfl, ?_⟩, SR_1 h h9 r9⟩
    show 1000 * sX1_wrongWorks (Os9 1) (-1) (-1) + (if (Os9 1).1 6 - (Os9 0).1 6 < 999 then (Os9 1).1 6 - (Os9 0).1 6 else 999) = 1000 * sX8_wrong r9 + (if 999 ≤ r9 4 - M.1.2 1 4 then 999 else r9 4 - M.1.2 1 4)
    rw [g_wrong ho, h9 0 (by decide), ho.1.1.2.2.2.2.2.2, h.1.1.1.2.2.2.2.2.2]
    by_cases c : r9 4 - M.1.2 1 4 < 999
    · have c2 : ¬ 999 ≤ r9 4 - M.1.2 1 4 := fun q => by have := i32_le.mp q; have := i32_lt.mp c; omega
      rw [if_pos c, if_neg c2]
    · have c2 : 999 ≤ r9 4 - M.1.2 1 4 := i32_le.mpr (by have : ¬ (r9 4 - M.1.2 1 4).toInt < (999 : Int32).toInt := fun q => c (i32_lt.mpr q); omega)
      rw [if_neg c, if_pos c2]
  | succ n ih =>
    intro i x Os9 r9 hi h9 ho
    rw [LX7_simulate_39_eq, LX8_simulate_43_eq, if_neg (nI_ge (by omega) (by omega)), if_neg (nI_ge (by omega) (by omega)), nI_1]
    obtain ⟨q, hq, eq⟩ := shr33 (x * (6364136223846793005 : Int64) + (1442695040888963407 : Int64))
    rw [eq]
    have e2 : (msA (msS M 0 0) 2 r9).1.2 2 = r9 := msA_at _ _ _
    obtain ⟨r', e3, h3⟩ := tn_all (M := msA (msS M 0 0) 2 r9) (O := Os9 1) (by rw [e2]; exact ho) (by omega) hq
    have e4 : msA (msA (msS M 0 0) 2 r9) 2 r' = msA (msS M 0 0) 2 r' := by
      show (stA (stA _ 2 r9) 2 r', _) = _
      rw [stA_tw]
      rfl
    rw [e3, e4]
    refine ih (i + 1) _ _ r' (by omega) (up_1 h9 _) ?_
    rw [va_up_self]
    exact h3.mono (by omega)
theorem fc_simulate (h : SR d Os T M) (hd : d ≤ 900000) (x : Int64) (y : Int32) : OKF [1] d (sX7_simulate Os T x y) (sX8_simulate M x y) := by
  unfold sX7_simulate sX8_simulate
  cases c : sX8_in y.toInt64 1 80
  · rw [rng_f (by decide) (by decide) c]
    exact ok_x h (k := 1) (z := 1) 0 0 (by decide) (by decide) rfl
  · obtain ⟨c1, c2⟩ := rng_t (a := 1) (b := 80) (by decide) (by decide) c
    have h1 := (in_iff32 y 1 80).mp c
    have z1 : (1 : Int64).toInt = 1 := rfl
    have z2 : (80 : Int64).toInt = 80 := rfl
    obtain ⟨m, em, hm, -⟩ := i_ex (x := y) (by omega)
    subst em
    rw [if_neg c1, if_pos c2, if_neg (show ¬ refB (b2i (if true = true then false else true)) = true by decide), upM_n0 (by omega)]
    refine sim_loop h x (by omega) hd m 0 x _ _ (by omega) (up_1 (fun _ _ => rfl) _) ?_
    rw [va_up_self]
    exact copyO (h.1.congr (copy_eq _ _))
/-! scripts -/
theorem gd_e {S k : Nat} (hS : S < 2 ^ 63) (hk : k ≤ 3) : sX7_groupsDropped (lN S) (nI k) = lN (S / 1000000 ^ k) := by
  have key : ∀ n i, i + n = k → LX7_groupsDropped_5 (lN S) (nI k) (n + 1) (lN (S / 1000000 ^ i)) (nI i) = lN (S / 1000000 ^ k) := by
    intro n
    induction n with
    | zero =>
      intro i hi
      have : i = k := by omega
      subst this
      rw [LX7_groupsDropped_5_eq, if_pos (nI_le (Nat.le_refl _) (by omega))]
    | succ n ih =>
      intro i hi
      have e : lN (S / 1000000 ^ i) / (1000000 : Int64) = lN (S / 1000000 ^ (i + 1)) := by
        have t := pk_lDiv (a := S / 1000000 ^ i) (b := 1000000) (by have := Nat.div_le_self S (1000000 ^ i); omega) (by decide) (by decide)
        rw [Nat.div_div_eq_div_mul, ← Nat.pow_succ] at t
        exact t
      rw [LX7_groupsDropped_5_eq, if_neg (nI_ge (by omega) (by omega)), e, nI_1]
      exact ih (i + 1) (by omega)
  have k0 := key k 0 (by omega)
  rw [Nat.pow_zero, Nat.div_one] at k0
  unfold sX7_groupsDropped
  rw [upM_n0 (by omega)]
  exact k0
theorem tens_e {k : Nat} (hk : k ≤ 1000) : sX8_tens (nI k) = lN (10 ^ k) := by
  have key : ∀ n i, i + n = k → LX8_tens_4 (nI k) (n + 1) (lN (10 ^ i)) (nI i) = lN (10 ^ k) := by
    intro n
    induction n with
    | zero =>
      intro i hi
      have : i = k := by omega
      subst this
      rw [LX8_tens_4_eq, if_pos (nI_le (Nat.le_refl _) (by omega))]
    | succ n ih =>
      intro i hi
      have e : lN (10 ^ i) * (10 : Int64) = lN (10 ^ (i + 1)) := lN_mul _ 10
      rw [LX8_tens_4_eq, if_neg (nI_ge (by omega) (by omega)), e, nI_1]
      exact ih (i + 1) (by omega)
  have k0 := key k 0 (by omega)
  unfold sX8_tens
  rw [upM_n0 (by omega)]
  exact k0
theorem p10 (k : Nat) : 10 ^ (6 * k) = 1000000 ^ k := by rw [Nat.pow_mul]
theorem grp_e {S m i : Nat} (hS : S < 2 ^ 63) (hm : m ≤ 3) (hi : i < m) : ∃ g, g < 1000000 ∧ ((sX7_groupsDropped (lN S) ((nI m - 1) - nI i)) - (sX7_groupsDropped (lN S) ((nI m - 1) - nI i)) / (1000000 : Int64) * (1000000 : Int64)).toInt32 = nI g ∧ (((lN S) / (sX8_tens (6 * ((nI m - 1) - nI i)))) - ((lN S) / (sX8_tens (6 * ((nI m - 1) - nI i)))) / (1000000 : Int64) * (1000000 : Int64)).toInt32 = nI g := by
  obtain ⟨k, hk, hk3⟩ : ∃ k, (nI m - 1) - nI i = nI k ∧ k ≤ 2 := by
    refine ⟨m - 1 - i, ?_, by omega⟩
    obtain ⟨m', rfl⟩ : ∃ m', m = m' + 1 := ⟨m - 1, by omega⟩
    rw [nI_pred, pk_sub (by omega)]
    exact congrArg nI (by omega)
  have hlt : S / 1000000 ^ k < 2 ^ 63 := by have := Nat.div_le_self S (1000000 ^ k); omega
  have e6 : (6 : Int32) * nI k = nI (6 * k) := pk_mul 6 k
  have et : lN S / sX8_tens (nI (6 * k)) = lN (S / 1000000 ^ k) := by
    rw [tens_e (by omega), p10]
    refine pk_lDiv hS (Nat.pow_pos (by decide)) ?_
    have : 1000000 ^ k ≤ 1000000 ^ 2 := Nat.pow_le_pow_right (by decide) hk3
    omega
  have er : (lN (S / 1000000 ^ k) - lN (S / 1000000 ^ k) / (1000000 : Int64) * (1000000 : Int64)).toInt32 = nI (S / 1000000 ^ k % 1000000) := by
    have t := pk_lRem (a := S / 1000000 ^ k) (b := 1000000) hlt (by decide) (by decide)
    have t2 : lN (S / 1000000 ^ k) - lN (S / 1000000 ^ k) / (1000000 : Int64) * (1000000 : Int64) = lN (S / 1000000 ^ k % 1000000) := t
    rw [t2, lN_i]
  refine ⟨S / 1000000 ^ k % 1000000, Nat.mod_lt _ (by decide), ?_, ?_⟩
  · rw [hk, gd_e hS (by omega)]; exact er
  · rw [hk, e6, et]; exact er
theorem scr_loop (h : SR d Os T M) {S m : Nat} (hS : S < 2 ^ 63) (hm : m ≤ 3) (hd : d ≤ 900000) : ∀ n i Os9 r9, i + n = m → (∀ k, k ≠ 1 → Os9 k = Os k) → RO (d + 30 * i) (Os9 1) r9 → OKF [1] d (LX7_runScript_61 Os T (nI m) (lN S) (n + 1) (nI i) Os9 T) (LX8_runScript_57 M (nI m) (lN S) (n + 1) (nI i) (msA (msS M 0 0) 2 r9)) := by
  intro n
  induction n with
  | zero =>
    intro i Os9 r9 hi h9 ho
    have : i = m := by omega
    subst this
    rw [LX7_runScript_61_eq, LX8_runScript_57_eq, if_pos (nI_le (Nat.le_refl _) (by omega)), if_pos (nI_le (Nat.le_refl _) (by omega))]
    exact ⟨Or.inl ⟨rfl, rfl, rfl⟩, SR_1 h h9 r9⟩
  | succ n ih =>
    intro i Os9 r9 hi h9 ho
    obtain ⟨g, hg, e1, e2⟩ := grp_e hS hm (show i < m by omega)
    rw [LX7_runScript_61_eq, LX8_runScript_57_eq, if_neg (nI_ge (by omega) (by omega)), if_neg (nI_ge (by omega) (by omega)), e1, e2, nI_1]
    have e3 : (msA (msS M 0 0) 2 r9).1.2 2 = r9 := msA_at _ _ _
    obtain ⟨r', e4, h4⟩ := cm_all (M := msA (msS M 0 0) 2 r9) (O := Os9 1) (by rw [e3]; exact ho) (by omega) hg
    have e5 : msA (msA (msS M 0 0) 2 r9) 2 r' = msA (msS M 0 0) 2 r' := by
      show (stA (stA _ 2 r9) 2 r', _) = _
      rw [stA_tw]
      rfl
    rw [e4, e5]
    cases c : (sX7_succeeds (Os9 1) (nI g)).1
    · dsimp only
      rw [if_neg Bool.false_ne_true, if_neg Bool.false_ne_true]
      exact ⟨Or.inl ⟨rfl, rfl, rfl⟩, SR_1 h (up_1 h9 _) r'⟩
    · dsimp only
      rw [if_pos rfl, if_pos rfl]
      refine ih (i + 1) _ r' (by omega) (up_1 h9 _) ?_
      rw [va_up_self]
      exact h4.mono (by omega)
theorem fc_runScript (h : SR d Os T M) (hd : d ≤ 900000) (x : Int32) (y : Int64) : OKF [1] d (sX7_runScript Os T x y) (sX8_runScript M x y) := by
  unfold sX7_runScript sX8_runScript
  have z1 : (1 : Int64).toInt = 1 := rfl
  have z3 : (3 : Int64).toInt = 3 := rfl
  have z0 : (0 : Int64).toInt = 0 := rfl
  cases c : sX8_in x.toInt64 1 3
  · rw [rng_f (by decide) (by decide) c]
    exact ok_x h (k := 1) (z := 1) 0 0 (by decide) (by decide) rfl
  · obtain ⟨c1, c2⟩ := rng_t (a := 1) (b := 3) (by decide) (by decide) c
    have h1 := (in_iff32 x 1 3).mp c
    obtain ⟨m, em, hm, -⟩ := i_ex (x := x) (by omega)
    subst em
    have hm3 : m ≤ 3 := by omega
    rw [if_neg c1, if_pos c2]
    by_cases cy : y < 0
    · have c3 : sX8_in y 0 (sX8_tens (6 * nI m) - 1) = false := by
        cases e : sX8_in y 0 (sX8_tens (6 * nI m) - 1)
        · rfl
        · have := ((in_iff y 0 _).mp e).1
          have := Int64.lt_iff_toInt_lt.mp cy
          omega
      rw [if_pos ((cmp_lt y 0).mpr cy), c3]
      exact ok_x h (k := 1) (z := 1) 0 0 (by decide) (by decide) rfl
    · obtain ⟨S, hS, rfl⟩ := pk_lOf cy
      have hp : 1000000 ^ m ≤ 1000000 ^ 3 := Nat.pow_le_pow_right (by decide) hm3
      have hp0 : 0 < 1000000 ^ m := Nat.pow_pos (by decide)
      have e6 : (6 : Int32) * nI m = nI (6 * m) := pk_mul 6 m
      have et : sX8_tens (6 * nI m) - 1 = lN (1000000 ^ m - 1) := by
        rw [e6, tens_e (by omega), p10]
        exact lN_sub (b := 1) (by omega)
      rw [if_neg (fun q => cy ((cmp_lt _ _).mp q)), gd_e hS hm3, et]
      have eq : (lg_cmp (lN (S / 1000000 ^ m)) 0 = 0) ↔ S < 1000000 ^ m := by
        rw [cmp_eq]
        refine Iff.trans (pk_lEQ (b := 0) (by have := Nat.div_le_self S (1000000 ^ m); omega) (by decide)) ?_
        rw [Nat.div_eq_zero_iff]
        omega
      by_cases cS : S < 1000000 ^ m
      · have c3 : sX8_in (lN S) 0 (lN (1000000 ^ m - 1)) = true := (in_iff _ _ _).mpr (by rw [pk_lT hS, pk_lT (by omega), z0]; omega)
        rw [if_pos (eq.mpr cS), c3, if_neg (show ¬ refB (b2i (if true = true then (if true = true then false else true) else true)) = true by decide), upM_n0 (by omega)]
        refine scr_loop h hS hm3 hd m 0 _ _ (by omega) (up_1 (fun _ _ => rfl) _) ?_
        rw [va_up_self]
        exact copyO (h.1.congr (copy_eq _ _))
      · have c3 : sX8_in (lN S) 0 (lN (1000000 ^ m - 1)) = false := by
          cases e : sX8_in (lN S) 0 (lN (1000000 ^ m - 1))
          · rfl
          · have := (in_iff _ _ _).mp e
            rw [pk_lT hS, pk_lT (by omega), z0] at this
            omega
        rw [if_neg (fun q => cS (eq.mp q)), c3]
        exact ok_x h (k := 1) (z := 1) 0 0 (by decide) (by decide) rfl
end
