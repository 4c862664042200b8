/-! math: the actions that make something: print, build, draw -/
theorem cl_1 : (1 : Int32).toNatClampNeg = 1 := rfl
theorem cl_0 : (0 : Int32).toNatClampNeg = 0 := rfl
theorem cl_2 : (2 : Int32).toNatClampNeg = 2 := rfl
theorem cl_3 : (3 : Int32).toNatClampNeg = 3 := rfl
theorem cl_4 : (4 : Int32).toNatClampNeg = 4 := rfl
theorem cl_5 : (5 : Int32).toNatClampNeg = 5 := rfl
theorem cl_7 : (7 : Int32).toNatClampNeg = 7 := rfl
theorem cl_8 : (8 : Int32).toNatClampNeg = 8 := rfl
theorem cl_9 : (9 : Int32).toNatClampNeg = 9 := rfl
theorem up_e {a b : Nat → Int32} {k : Nat} {x y : Int32} {i : Nat} (h : i ≠ k → a i = b i) (e : i = k → x = b i) : upd a k x i = b i := by
  by_cases c : i = k
  · subst c; rw [pk_us]; exact e rfl
  · rw [pk_un c]; exact h c
section
variable {d : Nat} {O : OF} {r : Nat → Int32} (h : RO d O r)
def prR (r : Nat → Int32) (n s : Nat) (q : Int32) : Nat → Int32 := upd (upd (upd (upd (upd (upd (upd (upd r (150 + n) (nI s)) (174 + n) (r (20 + s))) (198 + n) q) (222 + n) (r 3)) (246 + n) 0) (270 + n) (-1)) 9 (r 9 ||| (1 <<< (nI n &&& 31)))) 1 (nI (n + 1))
theorem goPrint_e {n s : Nat} {q : Int32} (hn : n < 24) (hs : s < 10) (e1 : r 1 = nI n) : sX8_goPrint r (nI s) q = (nI n, prR r n s q) := by
  unfold sX8_goPrint prR
  simp (disch := omega) only [cl_1, cl_3, cl_9, e1, ix150, ix174, ix198, ix222, ix246, ix270, ix20, pk_un, nI_1]
theorem pr_o {n s : Nat} {q : Int32} {k : Nat} (h1 : k ≠ 1) (h9 : k ≠ 9) (ha : k ≠ 150 + n) (hb : k ≠ 174 + n) (hc : k ≠ 198 + n) (hd : k ≠ 222 + n) (he : k ≠ 246 + n) (hf : k ≠ 270 + n) : prR r n s q k = r k := by
  unfold prR
  rw [pk_un h1, pk_un h9, pk_un hf, pk_un he, pk_un hd, pk_un hc, pk_un hb, pk_un ha]
theorem ro_print (h : RO d O r) {s : Nat} {q : Int32} (hs : s < nS r) (hn : nP r < 24) : RO d (stS (stS (stA (stA (stA (stA (stA (stA O 8 (upd (O.2 8) (nP r) (nI s))) 9 (upd (O.2 9) (nP r) (r (20 + s)))) 10 (upd (O.2 10) (nP r) q)) 11 (upd (O.2 11) (nP r) (r 3))) 12 (upd (O.2 12) (nP r) 0)) 13 (upd (O.2 13) (nP r) (-1))) 3 (r 9 ||| (1 <<< (nI (nP r) &&& 31)))) 2 (nI (nP r + 1))) (prR r (nP r) s q) := by
  have h10 := nS_le h.c
  have h30 := nW_le h.c
  obtain ⟨n, en⟩ : ∃ n, nP r = n := ⟨_, rfl⟩
  have hP := h.1.2.2.2.1
  have hQ := h.2.2.2.2.2.1
  have hB := h.2.2.2.1
  have hc := h.1.1
  have hcc := h.c
  unfold ROp at hP
  unfold IVp at hQ
  unfold IVb at hB
  rw [en] at hP hQ hB hn ⊢
  have e : ∀ k, k ≠ 1 → k ≠ 9 → (k < 150 ∨ 294 ≤ k) → prR r n s q k = r k := fun k h1 h9 hk => pr_o h1 h9 (by omega) (by omega) (by omega) (by omega) (by omega) (by omega)
  have v1 : prR r n s q 1 = nI (n + 1) := pk_us
  have v9 : prR r n s q 9 = (r 9 ||| (1 <<< (nI n &&& 31))) := by unfold prR; rw [pk_un (by decide), pk_us]
  have e0 := nS_c (e 0 (by decide) (by decide) (by omega))
  have e1 : nP (prR r n s q) = n + 1 := by unfold nP; rw [v1]; exact ixN (by omega)
  have e2 := nW_c (e 2 (by decide) (by decide) (by omega))
  have hv : ∀ k, k < nS r → (r (20 + k)).toInt ≤ (prR r n s q (20 + k)).toInt := fun k hk => by rw [e (20 + k) (by omega) (by omega) (by omega)]; omega
  refine ⟨⟨⟨?_, ?_, ?_, ?_, ?_, ?_, ?_⟩, fun k hk => ?_, ROs_c e0 h10 (fun k h1 h2 => e k (by omega) (by omega) (by omega)) rfl rfl rfl h.1.2.2.1, fun k hk => ?_, ROw_c e2 h30 (fun k h1 h2 => e k (by omega) (by omega) (by omega)) (fun j h1 h2 => ?_) h.1.2.2.2.2⟩,
    ⟨by rw [e 0 (by decide) (by decide) (by omega)]; exact hcc.1, by rw [v1, nI_toInt (by omega)]; omega, by rw [e 2 (by decide) (by decide) (by omega)]; exact hcc.2.2⟩, IVd_c (e 3 (by decide) (by decide) (by omega)) (e 5 (by decide) (by decide) (by omega)) (e 6 (by decide) (by decide) (by omega)) (e 7 (by decide) (by decide) (by omega)) h.2.2.1, ⟨?_, ?_⟩, IVs_c e0 h10 (fun k h1 h2 => e k (by omega) (by omega) (by omega)) h.2.2.2.2.1, fun k hk => ?_, IVw_c e2 h30 (by omega) (fun k h1 h2 => e k (by omega) (by omega) (by omega)) hv h.2.2.2.2.2.2⟩
  · rw [e 0 (by decide) (by decide) (by omega)]; exact hc.1
  · rw [e 8 (by decide) (by decide) (by omega)]; exact hc.2.1
  · rw [v1]; rfl
  · rw [v9]; rfl
  · rw [e 2 (by decide) (by decide) (by omega)]; exact hc.2.2.2.2.1
  · rw [e 3 (by decide) (by decide) (by omega)]; exact hc.2.2.2.2.2.1
  · rw [e 4 (by decide) (by decide) (by omega)]; exact hc.2.2.2.2.2.2
  · rw [e (5 + k) (by omega) (by omega) (by omega)]; exact h.1.2.1 k hk
  · rw [e1] at hk
    show upd (O.2 8) n (nI s) k = _ ∧ upd (O.2 9) n (r (20 + s)) k = _ ∧ upd (O.2 10) n q k = _ ∧ upd (O.2 11) n (r 3) k = _ ∧ upd (O.2 12) n 0 k = _ ∧ upd (O.2 13) n (-1) k = _
    by_cases c : k = n
    · subst c
      unfold prR
      simp (disch := omega) only [pk_us, pk_un, and_self]
    · rw [pr_o (k := 150 + k) (by omega) (by omega) (by omega) (by omega) (by omega) (by omega) (by omega) (by omega), pr_o (k := 174 + k) (by omega) (by omega) (by omega) (by omega) (by omega) (by omega) (by omega) (by omega), pr_o (k := 198 + k) (by omega) (by omega) (by omega) (by omega) (by omega) (by omega) (by omega) (by omega), pr_o (k := 222 + k) (by omega) (by omega) (by omega) (by omega) (by omega) (by omega) (by omega) (by omega), pr_o (k := 246 + k) (by omega) (by omega) (by omega) (by omega) (by omega) (by omega) (by omega) (by omega), pr_o (k := 270 + k) (by omega) (by omega) (by omega) (by omega) (by omega) (by omega) (by omega) (by omega), pk_un c, pk_un c, pk_un c, pk_un c, pk_un c, pk_un c]
      exact hP k (by omega)
  · match j, h1, h2 with
    | 14, _, _ => rfl
    | 15, _, _ => rfl
    | 16, _, _ => rfl
    | 17, _, _ => rfl
    | j + 18, _, h2 => exact absurd h2 (by omega)
  · intro i hi hb
    rw [e 8 (by decide) (by decide) (by omega)] at hb
    rw [e0]
    exact hB.1 i hi hb
  · intro i hi hb
    rw [v9, b_set (by omega) hi] at hb
    rw [e1]
    rcases Bool.or_eq_true_iff.mp hb with b | b
    · have := hB.2 i hi b; omega
    · have := of_decide_eq_true b; omega
  · rw [e1] at hk
    by_cases c : k = n
    · subst c
      have w1 : prR r k s q (150 + k) = nI s := by unfold prR; simp (disch := omega) only [pk_us, pk_un]
      have w2 : prR r k s q (174 + k) = r (20 + s) := by unfold prR; simp (disch := omega) only [pk_us, pk_un]
      have w3 : prR r k s q (246 + k) = 0 := by unfold prR; simp (disch := omega) only [pk_us, pk_un]
      have w4 : prR r k s q (270 + k) = -1 := by unfold prR; simp (disch := omega) only [pk_us, pk_un]
      rw [w1, w2, w3, w4, e0, nI_toInt (by omega), ixN (by omega), e (20 + s) (by omega) (by omega) (by omega)]
      have := (h.2.2.2.2.1 s hs).2.1
      have z : (-1 : Int32).toInt = -1 := rfl
      refine ⟨⟨by omega, by omega⟩, ⟨this.1, by omega⟩, fun i _ hb => ?_, by omega, by omega⟩
      rw [b_0] at hb
      exact nomatch hb
    · rw [pr_o (k := 150 + k) (by omega) (by omega) (by omega) (by omega) (by omega) (by omega) (by omega) (by omega), pr_o (k := 174 + k) (by omega) (by omega) (by omega) (by omega) (by omega) (by omega) (by omega) (by omega), pr_o (k := 246 + k) (by omega) (by omega) (by omega) (by omega) (by omega) (by omega) (by omega) (by omega), pr_o (k := 270 + k) (by omega) (by omega) (by omega) (by omega) (by omega) (by omega) (by omega) (by omega), e0]
      have g := hQ k (by omega)
      rw [e (20 + (r (150 + k)).toNatClampNeg) (by rw [cl_eq]; omega) (by rw [cl_eq]; omega) (by rw [cl_eq]; omega)]
      exact g
theorem site_of {x : Int32} : sX8_isSite x = true ↔ ∃ q, q < 4 ∧ x = nI q := by
  unfold sX8_isSite
  rw [in_iff32]
  have e2 : (3 : Int64).toInt = 3 := rfl
  have e4 : (0 : Int64).toInt = 0 := rfl
  constructor
  · intro h1
    obtain ⟨k, a, b, -⟩ := i_ex (x := x) (by omega)
    exact ⟨k, by omega, a⟩
  · rintro ⟨q, hq, rfl⟩
    rw [nI_toInt (by omega)]
    omega
theorem a_print (h : RO d O r) (x y : Int32) :
    ((sX8_hasSheet r x = false ∨ sX8_isSite y = false) ∧ sX1_addPrint O x y = (-2, O)) ∨ ((sX8_hasSheet r x = true ∧ sX8_isSite y = true) ∧ sX8_canPrint r = false ∧ sX1_addPrint O x y = (-4, O)) ∨
    ((sX8_hasSheet r x = true ∧ sX8_isSite y = true) ∧ sX8_canPrint r = true ∧ OKA d (sX1_addPrint O x y) (sX8_goPrint r x y)) := by
  unfold sX1_addPrint
  rw [q_hasS h, q_isSite]
  cases c1 : sX8_hasSheet r x
  · exact Or.inl ⟨Or.inl rfl, rfl⟩
  · cases c2 : sX8_isSite y
    · exact Or.inl ⟨Or.inr rfl, rfl⟩
    · obtain ⟨s, hs, rfl⟩ := hasS_of h.c c1
      have h10 := nS_le h.c
      have h24 := nP_le h.c
      have e1 := nP_e h.c
      have ec : O.1 2 = nI (nP r) := by rw [h.1.1.2.2.1, e1]
      have e9 : sX8_canPrint r = decide (nP r < 24) := by
        unfold sX8_canPrint
        rw [show r (1 : Int32).toNatClampNeg = nI (nP r) from e1]
        by_cases c : nP r < 24
        · rw [if_neg (ge24 c), decide_eq_true c]
        · rw [if_pos (show (24 : Int32) ≤ nI (nP r) from nI_le (a := 24) (b := nP r) (by omega) (by omega)), decide_eq_false c]
      rw [if_pos rfl, if_pos rfl, e9, q_rev h hs]
      unfold sX3_add
      rw [ec, if_neg (nI_pos (by omega))]
      by_cases c : nP r < 24
      · rw [if_pos (show nI (nP r) < 24 from nI_lt (b := 24) c (by decide)), decide_eq_true c]
        refine Or.inr (Or.inr ⟨⟨rfl, rfl⟩, rfl, ?_⟩)
        rw [goPrint_e c (by omega) e1, ixN (by omega), nI_1, h.1.1.2.2.2.1, h.1.1.2.2.2.2.2.1]
        refine ⟨?_, rfl, ro_print h hs c⟩
        show 0 ≤ (nI (nP r)).toInt
        rw [nI_toInt (by omega)]
        omega
      · rw [if_neg (show ¬ nI (nP r) < 24 from nI_nlt (b := 24) (by omega) (by omega)), decide_eq_false c]
        exact Or.inr (Or.inl ⟨⟨rfl, rfl⟩, rfl, rfl⟩)
/-! build -/
def buR (r : Nat → Int32) (n p f : Nat) : Nat → Int32 := upd (upd (upd (upd (upd r (294 + n) (r (198 + p))) (324 + n) (r (150 + p))) (354 + n) (nI f)) (384 + n) (r (174 + p))) 2 (nI (n + 1))
theorem goBuild_e {n p f : Nat} (hn : n < 30) (hp : p < 24) (e2 : r 2 = nI n) : sX8_goBuild r (nI p) (nI f) = (nI n, buR r n p f) := by
  unfold sX8_goBuild buR
  simp (disch := omega) only [cl_2, e2, ix294, ix324, ix354, ix384, ix198, ix150, ix174, pk_un, nI_1]
theorem bu_o {n p f : Nat} {k : Nat} (h2 : k ≠ 2) (ha : k ≠ 294 + n) (hb : k ≠ 324 + n) (hc : k ≠ 354 + n) (hd : k ≠ 384 + n) : buR r n p f k = r k := by
  unfold buR
  rw [pk_un h2, pk_un hd, pk_un hc, pk_un hb, pk_un ha]
theorem ro_build (h : RO d O r) {p f : Nat} (hp : p < nP r) (hf : f < 12) (hn : nW r < 30) : RO d (stS (stA (stA (stA (stA O 14 (upd (O.2 14) (nW r) (r (198 + p)))) 15 (upd (O.2 15) (nW r) (r (150 + p)))) 16 (upd (O.2 16) (nW r) (nI f))) 17 (upd (O.2 17) (nW r) (r (174 + p)))) 4 (nI (nW r + 1))) (buR r (nW r) p f) := by
  have h10 := nS_le h.c
  have h24 := nP_le h.c
  obtain ⟨n, en⟩ : ∃ n, nW r = n := ⟨_, rfl⟩
  have hP := h.1.2.2.2.2
  have hQ := h.2.2.2.2.2.2
  have hB := h.2.2.2.1
  have hc := h.1.1
  have hcc := h.c
  unfold ROw at hP
  unfold IVw at hQ
  rw [en] at hP hQ hn ⊢
  have e : ∀ k, k ≠ 2 → k < 294 → buR r n p f k = r k := fun k h1 hk => bu_o h1 (by omega) (by omega) (by omega) (by omega)
  have v2 : buR r n p f 2 = nI (n + 1) := pk_us
  have e0 := nS_c (e 0 (by decide) (by omega))
  have e1 := nP_c (e 1 (by decide) (by omega))
  have e2 : nW (buR r n p f) = n + 1 := by unfold nW; rw [v2]; exact ixN (by omega)
  have hv : ∀ k, k < nS r → (r (20 + k)).toInt ≤ (buR r n p f (20 + k)).toInt := fun k hk => by rw [e (20 + k) (by omega) (by omega)]; omega
  refine ⟨⟨⟨?_, ?_, ?_, ?_, ?_, ?_, ?_⟩, fun k hk => ?_, ROs_c e0 h10 (fun k h1 h2 => e k (by omega) (by omega)) rfl rfl rfl h.1.2.2.1, ROp_c e1 h24 (fun k h1 h2 => e k (by omega) (by omega)) (fun j h1 h2 => ?_) h.1.2.2.2.1, fun k hk => ?_⟩,
    ⟨by rw [e 0 (by decide) (by omega)]; exact hcc.1, by rw [e 1 (by decide) (by omega)]; exact hcc.2.1, by rw [v2, nI_toInt (by omega)]; omega⟩, IVd_c (e 3 (by decide) (by omega)) (e 5 (by decide) (by omega)) (e 6 (by decide) (by omega)) (e 7 (by decide) (by omega)) h.2.2.1, ⟨?_, ?_⟩, IVs_c e0 h10 (fun k h1 h2 => e k (by omega) (by omega)) h.2.2.2.2.1, IVp_c e1 h24 (by omega) (fun k h1 h2 => e k (by omega) (by omega)) hv h.2.2.2.2.2.1, fun k hk => ?_⟩
  · rw [e 0 (by decide) (by omega)]; exact hc.1
  · rw [e 8 (by decide) (by omega)]; exact hc.2.1
  · rw [e 1 (by decide) (by omega)]; exact hc.2.2.1
  · rw [e 9 (by decide) (by omega)]; exact hc.2.2.2.1
  · rw [v2]; rfl
  · rw [e 3 (by decide) (by omega)]; exact hc.2.2.2.2.2.1
  · rw [e 4 (by decide) (by omega)]; exact hc.2.2.2.2.2.2
  · rw [e (5 + k) (by omega) (by omega)]; exact h.1.2.1 k hk
  · match j, h1, h2 with
    | 8, _, _ => rfl
    | 9, _, _ => rfl
    | 10, _, _ => rfl
    | 11, _, _ => rfl
    | 12, _, _ => rfl
    | 13, _, _ => rfl
    | j + 14, _, h2 => exact absurd h2 (by omega)
  · rw [e2] at hk
    show upd (O.2 14) n (r (198 + p)) k = _ ∧ upd (O.2 15) n (r (150 + p)) k = _ ∧ upd (O.2 16) n (nI f) k = _ ∧ upd (O.2 17) n (r (174 + p)) k = _
    by_cases c : k = n
    · subst c
      unfold buR
      simp (disch := omega) only [pk_us, pk_un, and_self]
    · rw [bu_o (k := 294 + k) (by omega) (by omega) (by omega) (by omega) (by omega), bu_o (k := 324 + k) (by omega) (by omega) (by omega) (by omega) (by omega), bu_o (k := 354 + k) (by omega) (by omega) (by omega) (by omega) (by omega), bu_o (k := 384 + k) (by omega) (by omega) (by omega) (by omega) (by omega), pk_un c, pk_un c, pk_un c, pk_un c]
      exact hP k (by omega)
  · rw [e 8 (by decide) (by omega), e0]; exact hB.1
  · rw [e 9 (by decide) (by omega), e1]; exact hB.2
  · rw [e2] at hk
    by_cases c : k = n
    · subst c
      have w1 : buR r k p f (324 + k) = r (150 + p) := by unfold buR; simp (disch := omega) only [pk_us, pk_un]
      have w2 : buR r k p f (354 + k) = nI f := by unfold buR; simp (disch := omega) only [pk_us, pk_un]
      have w3 : buR r k p f (384 + k) = r (174 + p) := by unfold buR; simp (disch := omega) only [pk_us, pk_un]
      obtain ⟨g1, g2, -⟩ := h.2.2.2.2.2.1 p hp
      rw [w1, w2, w3, e0, nI_toInt (by omega), e (20 + (r (150 + p)).toNatClampNeg) (by rw [cl_eq]; omega) (by rw [cl_eq]; omega)]
      exact ⟨g1, ⟨by omega, by omega⟩, g2⟩
    · rw [bu_o (k := 324 + k) (by omega) (by omega) (by omega) (by omega) (by omega), bu_o (k := 354 + k) (by omega) (by omega) (by omega) (by omega) (by omega), bu_o (k := 384 + k) (by omega) (by omega) (by omega) (by omega) (by omega), e0]
      have g := hQ k (by omega)
      rw [e (20 + (r (324 + k)).toNatClampNeg) (by rw [cl_eq]; omega) (by rw [cl_eq]; omega)]
      exact g
theorem a_build (h : RO d O r) (x y : Int32) :
    ((sX8_hasPrint r x = false ∨ sX8_isField y = false) ∧ sX1_buildField O x y = (-2, O)) ∨ ((sX8_hasPrint r x = true ∧ sX8_isField y = true) ∧ sX8_canBuild r x = false ∧ sX1_buildField O x y = (-4, O)) ∨
    ((sX8_hasPrint r x = true ∧ sX8_isField y = true) ∧ sX8_canBuild r x = true ∧ OKA d (sX1_buildField O x y) (sX8_goBuild r x y)) := by
  unfold sX1_buildField
  rw [q_hasP h, q_isField]
  cases c1 : sX8_hasPrint r x
  · exact Or.inl ⟨Or.inl rfl, rfl⟩
  · cases c2 : sX8_isField y
    · exact Or.inl ⟨Or.inr rfl, rfl⟩
    · obtain ⟨p, hp, rfl⟩ := hasP_of h.c c1
      obtain ⟨f, hf, rfl⟩ := field_of c2
      have h24 := nP_le h.c
      have h30 := nW_le h.c
      have e1 := nW_e h.c
      have ec : O.1 4 = nI (nW r) := by rw [h.1.1.2.2.2.2.1, e1]
      have e9 : sX8_canBuild r (nI p) = (sX8_mayBuild r (nI p) && decide (nW r < 30)) := by
        unfold sX8_canBuild
        rw [show r (2 : Int32).toNatClampNeg = nI (nW r) from e1]
        cases sX8_mayBuild r (nI p)
        · rfl
        · by_cases c : nW r < 30
          · rw [if_pos rfl, if_neg (ge30 c), decide_eq_true c]; rfl
          · rw [if_pos rfl, if_pos (show (30 : Int32) ≤ nI (nW r) from nI_le (a := 30) (b := nW r) (by omega) (by omega)), decide_eq_false c]; rfl
      rw [if_pos rfl, if_pos rfl, e9, q_mayBuild h hp, q_siteP h hp, q_sheetP h hp, q_revP h hp]
      cases c3 : sX8_mayBuild r (nI p)
      · exact Or.inr (Or.inl ⟨⟨rfl, rfl⟩, rfl, rfl⟩)
      · unfold sX6_add
        rw [if_pos rfl, ec, if_neg (nI_pos (by omega))]
        by_cases c : nW r < 30
        · rw [if_pos (show nI (nW r) < 30 from nI_lt (b := 30) c (by decide)), decide_eq_true c]
          refine Or.inr (Or.inr ⟨⟨rfl, rfl⟩, rfl, ?_⟩)
          rw [goBuild_e c (by omega) e1, ixN (by omega), nI_1]
          refine ⟨?_, rfl, ro_build h hp hf c⟩
          show 0 ≤ (nI (nW r)).toInt
          rw [nI_toInt (by omega)]
          omega
        · rw [if_neg (show ¬ nI (nW r) < 30 from nI_nlt (b := 30) (by omega) (by omega)), decide_eq_false c]
          exact Or.inr (Or.inl ⟨⟨rfl, rfl⟩, rfl, rfl⟩)
end
