theorem copy_at (r r2 : Nat → Int32) : ∀ k : Nat, k < 414 → sX8_copy r r2 k = r2 k := by
  have h : ∀ (n : Nat) (x2 : Int32) (O9 : Nat → Int32), ¬ x2 < 0 → upM 414 x2 < n → (∀ k : Nat, k < x2.toNatClampNeg → k < 414 → O9 k = r2 k) → ∀ k : Nat, k < 414 → LX8_copy_2 r r2 n x2 O9 k = r2 k := by
    intro n
    induction n with
    | zero => intro x2 O9 _ hm; exact absurd hm (Nat.not_lt_zero _)
    | succ n ih =>
      intro x2 O9 i0 hm h k hk
      rw [LX8_copy_2_eq]
      by_cases c : 414 ≤ x2
      · rw [if_pos c]
        refine h k ?_ hk
        have h1 : (414 : Int32).toInt ≤ x2.toInt := i32_le.mp c
        have e1 : (414 : Int32).toInt = 414 := rfl
        rw [cl_eq]
        omega
      · rw [if_neg c]
        have h3 : vp_in x2 414 := vp_a rfl i0 c
        have h4 := cl_in h3
        have h5 : (x2 + 1).toNatClampNeg = x2.toNatClampNeg + 1 := by
          have e1 : (1 : Int32).toInt = 1 := rfl
          rw [cl_eq, Int32.toInt_add, e1, h4.1, Int.bmod_eq_of_le (by omega) (by omega)]
          omega
        refine ih _ _ ?_ ?_ ?_ k hk
        · exact nn_inc i0 c
        · exact upM_s c hm
        intro k' hk' h6
        rw [h5] at hk'
        by_cases e : k' = x2.toNatClampNeg
        · unfold upd; rw [if_pos e, e]
        · rw [up_ne e]; exact h k' (by omega) h6
  intro k hk
  unfold sX8_copy
  refine h _ _ _ ?_ ?_ ?_ k hk
  · decide
  · exact Nat.lt_succ_self _
  · intro k' hk' _
    have e0 : (0 : Int32).toNatClampNeg = 0 := rfl
    rw [e0] at hk'
    omega
theorem MV_copy {r r2 : Nat → Int32} (h : MV r2) : MV (sX8_copy r r2) := by
  obtain ⟨h1, h2, h3, h4, h5, h6⟩ := h
  have e := copy_at r r2
  unfold MV
  rw [e 0 (by omega), e 1 (by omega), e 2 (by omega)]
  refine ⟨h1, h2, h3, fun k hk => ?_, fun k hk => ?_, fun k hk => ?_⟩
  · rw [e (10 + k) (by omega)]; exact h4 k hk
  · rw [e (150 + k) (by omega)]; exact h5 k hk
  · rw [e (324 + k) (by omega), e (354 + k) (by omega)]; exact h6 k hk
theorem cp_le {r r2 : Nat → Int32} (h : MV r2) : (sX8_copy r r2 1).toInt ≤ 24 := by
  rw [copy_at r r2 1 (by decide)]; exact h.2.1.2
/-- the places of a row that say how many, what is under what and what belongs to what -/
def ixM (k : Nat) : Prop := k < 3 ∨ (10 ≤ k ∧ k < 20) ∨ (150 ≤ k ∧ k < 174) ∨ (324 ≤ k ∧ k < 384)
def sameM (O r : Nat → Int32) : Prop := ∀ k : Nat, ixM k → O k = r k
theorem MV_of {r r' : Nat → Int32} (h : MV r) (e : sameM r' r) : MV r' := by
  obtain ⟨h1, h2, h3, h4, h5, h6⟩ := h
  unfold MV
  rw [e 0 (by unfold ixM; omega), e 1 (by unfold ixM; omega), e 2 (by unfold ixM; omega)]
  refine ⟨h1, h2, h3, fun k hk => ?_, fun k hk => ?_, fun k hk => ?_⟩
  · rw [e (10 + k) (by unfold ixM; omega)]; exact h4 k hk
  · rw [e (150 + k) (by unfold ixM; omega)]; exact h5 k hk
  · rw [e (324 + k) (by unfold ixM; omega), e (354 + k) (by unfold ixM; omega)]; exact h6 k hk
theorem sm_rfl (r : Nat → Int32) : sameM r r := fun _ _ => rfl
theorem sm_up {O r : Nat → Int32} {i : Nat} {v : Int32} (h : sameM O r) (hi : ¬ ixM i) : sameM (upd O i v) r := fun k hk => (up_ne (fun e => hi (by rw [← e]; exact hk))).trans (h k hk)
theorem nx_3 : ¬ ixM (3 : Int32).toNatClampNeg := by show ¬ ixM 3; unfold ixM; omega
theorem nx_4 : ¬ ixM (4 : Int32).toNatClampNeg := by show ¬ ixM 4; unfold ixM; omega
theorem nx_8 : ¬ ixM (8 : Int32).toNatClampNeg := by show ¬ ixM 8; unfold ixM; omega
theorem nx_9 : ¬ ixM (9 : Int32).toNatClampNeg := by show ¬ ixM 9; unfold ixM; omega
theorem nx_off {k x : Int32} {K n : Nat} (e : k.toInt = (K : Int)) (h : vp_in x n) (hn : K + n ≤ 100000) (hK : ∀ j, j < n → ¬ ixM (K + j)) : ¬ ixM (k + x).toNatClampNeg := by
  rw [cl_off e h hn]
  exact hK _ (cl_in h).2
theorem nx_5 {x : Int32} (h : vp_in x 3) : ¬ ixM (5 + x).toNatClampNeg := nx_off (K := 5) rfl h (by omega) (fun j hj => by unfold ixM; omega)
theorem nx_20 {x : Int32} (h : vp_in x 10) : ¬ ixM (20 + x).toNatClampNeg := nx_off (K := 20) rfl h (by omega) (fun j hj => by unfold ixM; omega)
theorem nx_174 {x : Int32} (h : vp_in x 24) : ¬ ixM (174 + x).toNatClampNeg := nx_off (K := 174) rfl h (by omega) (fun j hj => by unfold ixM; omega)
theorem nx_198 {x : Int32} (h : vp_in x 24) : ¬ ixM (198 + x).toNatClampNeg := nx_off (K := 198) rfl h (by omega) (fun j hj => by unfold ixM; omega)
theorem nx_222 {x : Int32} (h : vp_in x 24) : ¬ ixM (222 + x).toNatClampNeg := nx_off (K := 222) rfl h (by omega) (fun j hj => by unfold ixM; omega)
theorem nx_246 {x : Int32} (h : vp_in x 24) : ¬ ixM (246 + x).toNatClampNeg := nx_off (K := 246) rfl h (by omega) (fun j hj => by unfold ixM; omega)
theorem nx_270 {x : Int32} (h : vp_in x 24) : ¬ ixM (270 + x).toNatClampNeg := nx_off (K := 270) rfl h (by omega) (fun j hj => by unfold ixM; omega)
theorem nx_294 {x : Int32} (h : vp_in x 30) : ¬ ixM (294 + x).toNatClampNeg := nx_off (K := 294) rfl h (by omega) (fun j hj => by unfold ixM; omega)
theorem nx_384 {x : Int32} (h : vp_in x 30) : ¬ ixM (384 + x).toNatClampNeg := nx_off (K := 384) rfl h (by omega) (fun j hj => by unfold ixM; omega)
theorem nx_30 {s f : Int32} (h : vp_in s 10) (h2 : vp_in f 12) : ¬ ixM ((30 + (12 * s)) + f).toNatClampNeg := by
  rw [cl_dr2 h h2]
  have a1 := (cl_in h).2
  have a2 := (cl_in h2).2
  unfold ixM; omega
theorem MV_check {r : Nat → Int32} (p : Int32) (h : MV r) : MV (sX8_goCheck r p).2 := MV_of h (sm_up (sm_rfl r) nx_8)
theorem MV_stamp {r : Nat → Int32} {p : Int32} (q : Int32) (h : MV r) (h1 : vp_in p 24) : MV (sX8_goStamp r p q).2 := MV_of h (sm_up (sm_rfl r) (nx_246 h1))
theorem MV_back {r : Nat → Int32} (p : Int32) (h : MV r) : MV (sX8_goBack r p).2 := MV_of h (sm_up (sm_rfl r) nx_9)
theorem MV_set {r : Nat → Int32} {p : Int32} (v : Int32) (h : MV r) (h1 : vp_in p 3) : MV (upd r (5 + p).toNatClampNeg v) := MV_of h (sm_up (sm_rfl r) (nx_5 h1))
theorem MV_run {r : Nat → Int32} (p : Int32) (h : MV r) : MV (sX8_goRun r p).2 := by
  have h4 : ∀ n x2 x3 O9, sameM O9 r → sameM (LX8_goRun_4 r p n x2 x3 O9).2 r := by
    intro n
    induction n with
    | zero => intro x2 x3 O9 _; exact sm_rfl r
    | succ n ih =>
      intro x2 x3 O9 h
      rw [LX8_goRun_4_eq]
      by_cases c : p ≤ x3
      · rw [if_pos c]; exact sm_up h nx_4
      · rw [if_neg c]
        refine ih _ _ _ ?_
        exact sm_up h nx_3
  refine MV_of h ?_
  unfold sX8_goRun
  refine h4 _ _ _ _ ?_
  exact sm_rfl r
theorem MV_revise {r : Nat → Int32} {p : Int32} (q : Int32) (hv : MV r) (h1 : inS r p) : MV (sX8_goRevise r p q).2 := by
  have h98 : ∀ n x3 x4 O9, ¬ x4 < 0 → sameM O9 r → sameM (LX8_goRevise_98 r p q n x3 x4 O9).2 r := by
    intro n
    induction n with
    | zero => intro x3 x4 O9 _ _; exact sm_rfl r
    | succ n ih =>
      intro x3 x4 O9 i0 h
      rw [LX8_goRevise_98_eq]
      by_cases c : O9 (1 : Int32).toNatClampNeg ≤ x4
      · rw [if_pos c]; exact h
      · rw [if_neg c]
        have e1 : O9 (1 : Int32).toNatClampNeg = r 1 := h 1 (by unfold ixM; omega)
        have h4 : vp_in x4 24 := cnt_in (b := O9 (1 : Int32).toNatClampNeg) (by rw [e1]; exact hv.2.1.2) i0 c
        have i1 : ¬ x4 + 1 < 0 := nn_inc i0 c
        split
        · split
          · split
            · refine ih _ _ _ ?_ ?_
              · exact i1
              · exact h
            · refine ih _ _ _ ?_ ?_
              · exact i1
              · exact sm_up h (nx_270 h4)
          · refine ih _ _ _ ?_ ?_
            · exact i1
            · exact h
        · refine ih _ _ _ ?_ ?_
          · exact i1
          · exact h
  have h68 : ∀ n x3 O9, sameM O9 r → sameM (LX8_goRevise_68 r p q n x3 O9).2 r := by
    intro n
    induction n with
    | zero => intro x3 O9 _; exact sm_rfl r
    | succ n ih =>
      intro x3 O9 h
      rw [LX8_goRevise_68_eq]
      by_cases c : x3 = (-1)
      · rw [if_pos c]
        refine h98 _ _ _ _ ?_ ?_
        · decide
        · exact h
      · rw [if_neg c]
        refine ih _ _ ?_
        exact sm_up h nx_8
  have h12 : ∀ n x3 O9, ¬ x3 < 0 → sameM O9 r → sameM (LX8_goRevise_12 r p q n x3 O9).2 r := by
    intro n
    induction n with
    | zero => intro x3 O9 _ _; exact sm_rfl r
    | succ n ih =>
      intro x3 O9 i0 h
      rw [LX8_goRevise_12_eq]
      by_cases c : 12 ≤ x3
      · rw [if_pos c]
        refine h68 _ _ _ ?_
        exact sm_up h nx_8
      · rw [if_neg c]
        split
        · refine ih _ _ ?_ ?_
          · exact nn_inc i0 c
          · exact sm_up h (nx_30 (h1.v hv) (vp_a rfl i0 c))
        · refine ih _ _ ?_ ?_
          · exact nn_inc i0 c
          · exact h
  refine MV_of hv ?_
  unfold sX8_goRevise
  refine h12 _ _ _ ?_ ?_
  · decide
  · exact sm_up (sm_rfl r) (nx_20 (h1.v hv))
theorem up_eq {f : Nat → Int32} {i : Nat} {v : Int32} : upd f i v i = v := by
  unfold upd
  rw [if_pos rfl]
theorem inc_ti {x : Int32} {n : Nat} (h : vp_in x n) (hn : n ≤ 100000) : (x + 1).toInt = x.toInt + 1 := by
  obtain ⟨h1, h2⟩ := vp_in_iff.mp h
  have e1 : (1 : Int32).toInt = 1 := rfl
  rw [Int32.toInt_add, e1]
  exact Int.bmod_eq_of_le (by omega) (by omega)
theorem MV_draw0 {r O : Nat → Int32} {p : Int32} (hv : MV r) (h0 : vp_in (r 0) 10) (hp : at1 r p) (h : sameM O (upd r (10 + r (0 : Int32).toNatClampNeg).toNatClampNeg p)) : MV (upd O (0 : Int32).toNatClampNeg (O (0 : Int32).toNatClampNeg + 1)) := by
  obtain ⟨h1, h2, h3, h4, h5, h6⟩ := hv
  have e0 : (10 + r (0 : Int32).toNatClampNeg).toNatClampNeg = 10 + (r 0).toNatClampNeg := cl_off (K := 10) rfl h0 (by omega)
  rw [e0] at h
  have c0 := cl_in h0
  have z0 : (0 : Int32).toNatClampNeg = 0 := rfl
  rw [z0]
  have a0 : O 0 = r 0 := (h 0 (by unfold ixM; omega)).trans (up_ne (by omega))
  rw [a0]
  have a1 : upd O 0 (r 0 + 1) 1 = r 1 := (up_ne (by omega)).trans ((h 1 (by unfold ixM; omega)).trans (up_ne (by omega)))
  have a2 : upd O 0 (r 0 + 1) 2 = r 2 := (up_ne (by omega)).trans ((h 2 (by unfold ixM; omega)).trans (up_ne (by omega)))
  have a3 : ∀ k, 3 ≤ k → ixM k → k ≠ 10 + (r 0).toNatClampNeg → upd O 0 (r 0 + 1) k = r k := fun k hk hi hn => (up_ne (by omega)).trans ((h k hi).trans (up_ne hn))
  have a4 : upd O 0 (r 0 + 1) (10 + (r 0).toNatClampNeg) = p := (up_ne (by omega)).trans ((h _ (by unfold ixM; omega)).trans up_eq)
  have a5 := inc_ti h0 (by omega)
  unfold MV
  rw [up_eq, a1, a2, a5]
  refine ⟨by omega, h2, h3, fun k hk => ?_, fun k hk => ?_, fun k hk => ?_⟩
  · by_cases e : k = (r 0).toNatClampNeg
    · rw [e, a4]; exact ⟨hp.1, by have := hp.2; omega⟩
    · rw [a3 (10 + k) (by omega) (by unfold ixM; omega) (by omega)]; exact h4 k (by omega)
  · rw [a3 (150 + k) (by omega) (by unfold ixM; omega) (by omega)]; have := h5 k hk; omega
  · rw [a3 (324 + k) (by omega) (by unfold ixM; omega) (by omega), a3 (354 + k) (by omega) (by unfold ixM; omega) (by omega)]; have := h6 k hk; omega
theorem MV_draw {r : Nat → Int32} {p : Int32} (hv : MV r) (h0 : vp_in (r 0) 10) (hp : at1 r p) : MV (sX8_goDraw r p).2 := by
  have h20 : ∀ n x3 O9, ¬ x3 < 0 → upM 12 x3 < n → sameM O9 (upd r (10 + r (0 : Int32).toNatClampNeg).toNatClampNeg p) → MV (LX8_goDraw_20 r p n x3 O9).2 := by
    intro n
    induction n with
    | zero => intro x3 O9 _ hm; exact absurd hm (Nat.not_lt_zero _)
    | succ n ih =>
      intro x3 O9 i0 hm h
      rw [LX8_goDraw_20_eq]
      by_cases c : 12 ≤ x3
      · rw [if_pos c]; exact MV_draw0 hv h0 hp h
      · rw [if_neg c]
        refine ih _ _ ?_ ?_ ?_
        · exact nn_inc i0 c
        · exact upM_s c hm
        · exact sm_up h (nx_30 h0 (vp_a rfl i0 c))
  unfold sX8_goDraw
  refine h20 _ _ _ ?_ ?_ ?_
  · decide
  · exact Nat.lt_succ_self _
  · exact sm_up (sm_rfl _) (nx_20 h0)
theorem MV_print0 {r O : Nat → Int32} {p : Int32} (hv : MV r) (h0 : vp_in (r 1) 24) (hp : inS r p) (h : sameM O (upd r (150 + r (1 : Int32).toNatClampNeg).toNatClampNeg p)) : MV (upd O (1 : Int32).toNatClampNeg (O (1 : Int32).toNatClampNeg + 1)) := by
  obtain ⟨h1, h2, h3, h4, h5, h6⟩ := hv
  have e0 : (150 + r (1 : Int32).toNatClampNeg).toNatClampNeg = 150 + (r 1).toNatClampNeg := cl_off (K := 150) rfl h0 (by omega)
  rw [e0] at h
  have c0 := cl_in h0
  have z0 : (1 : Int32).toNatClampNeg = 1 := rfl
  rw [z0]
  have a0 : O 1 = r 1 := (h 1 (by unfold ixM; omega)).trans (up_ne (by omega))
  rw [a0]
  have a1 : upd O 1 (r 1 + 1) 0 = r 0 := (up_ne (by omega)).trans ((h 0 (by unfold ixM; omega)).trans (up_ne (by omega)))
  have a2 : upd O 1 (r 1 + 1) 2 = r 2 := (up_ne (by omega)).trans ((h 2 (by unfold ixM; omega)).trans (up_ne (by omega)))
  have a3 : ∀ k, 3 ≤ k → ixM k → k ≠ 150 + (r 1).toNatClampNeg → upd O 1 (r 1 + 1) k = r k := fun k hk hi hn => (up_ne (by omega)).trans ((h k hi).trans (up_ne hn))
  have a4 : upd O 1 (r 1 + 1) (150 + (r 1).toNatClampNeg) = p := (up_ne (by omega)).trans ((h _ (by unfold ixM; omega)).trans up_eq)
  have a5 := inc_ti h0 (by omega)
  unfold MV
  rw [up_eq, a1, a2, a5]
  refine ⟨h1, by omega, h3, fun k hk => ?_, fun k hk => ?_, fun k hk => ?_⟩
  · rw [a3 (10 + k) (by omega) (by unfold ixM; omega) (by omega)]; exact h4 k hk
  · by_cases e : k = (r 1).toNatClampNeg
    · rw [e, a4]; exact hp
    · rw [a3 (150 + k) (by omega) (by unfold ixM; omega) (by omega)]; exact h5 k (by omega)
  · rw [a3 (324 + k) (by omega) (by unfold ixM; omega) (by omega), a3 (354 + k) (by omega) (by unfold ixM; omega) (by omega)]; exact h6 k hk
theorem MV_print {r : Nat → Int32} {p : Int32} (q : Int32) (hv : MV r) (h0 : vp_in (r 1) 24) (hp : inS r p) : MV (sX8_goPrint r p q).2 := by
  have g0 : vp_in (r (1 : Int32).toNatClampNeg) 24 := h0
  unfold sX8_goPrint
  refine MV_print0 hv h0 hp ?_
  refine sm_up ?_ nx_9
  refine sm_up ?_ (nx_270 g0)
  refine sm_up ?_ (nx_246 g0)
  refine sm_up ?_ (nx_222 g0)
  refine sm_up ?_ (nx_198 g0)
  refine sm_up ?_ (nx_174 g0)
  exact sm_rfl _
theorem MV_build0 {r O : Nat → Int32} {p f : Int32} (hv : MV r) (h0 : vp_in (r 2) 30) (hp : inS r p) (hf : vp_in f 12) (h : sameM O (upd (upd r (324 + r (2 : Int32).toNatClampNeg).toNatClampNeg p) (354 + r (2 : Int32).toNatClampNeg).toNatClampNeg f)) : MV (upd O (2 : Int32).toNatClampNeg (O (2 : Int32).toNatClampNeg + 1)) := by
  obtain ⟨h1, h2, h3, h4, h5, h6⟩ := hv
  have e0 : (324 + r (2 : Int32).toNatClampNeg).toNatClampNeg = 324 + (r 2).toNatClampNeg := cl_off (K := 324) rfl h0 (by omega)
  have e1 : (354 + r (2 : Int32).toNatClampNeg).toNatClampNeg = 354 + (r 2).toNatClampNeg := cl_off (K := 354) rfl h0 (by omega)
  rw [e0, e1] at h
  have c0 := cl_in h0
  have z0 : (2 : Int32).toNatClampNeg = 2 := rfl
  rw [z0]
  have b3 : ∀ k, k ≠ 324 + (r 2).toNatClampNeg → k ≠ 354 + (r 2).toNatClampNeg → upd (upd r (324 + (r 2).toNatClampNeg) p) (354 + (r 2).toNatClampNeg) f k = r k := fun k e1 e2 => (up_ne e2).trans (up_ne e1)
  have a0 : O 2 = r 2 := (h 2 (by unfold ixM; omega)).trans (b3 _ (by omega) (by omega))
  rw [a0]
  have a1 : upd O 2 (r 2 + 1) 0 = r 0 := (up_ne (by omega)).trans ((h 0 (by unfold ixM; omega)).trans (b3 _ (by omega) (by omega)))
  have a2 : upd O 2 (r 2 + 1) 1 = r 1 := (up_ne (by omega)).trans ((h 1 (by unfold ixM; omega)).trans (b3 _ (by omega) (by omega)))
  have a3 : ∀ k, 3 ≤ k → ixM k → k ≠ 324 + (r 2).toNatClampNeg → k ≠ 354 + (r 2).toNatClampNeg → upd O 2 (r 2 + 1) k = r k := fun k hk hi hn hm => (up_ne (by omega)).trans ((h k hi).trans (b3 _ hn hm))
  have a4 : upd O 2 (r 2 + 1) (324 + (r 2).toNatClampNeg) = p := (up_ne (by omega)).trans ((h _ (by unfold ixM; omega)).trans ((up_ne (by omega)).trans up_eq))
  have a6 : upd O 2 (r 2 + 1) (354 + (r 2).toNatClampNeg) = f := (up_ne (by omega)).trans ((h _ (by unfold ixM; omega)).trans up_eq)
  have a5 := inc_ti h0 (by omega)
  unfold MV
  rw [up_eq, a1, a2, a5]
  refine ⟨h1, h2, by omega, fun k hk => ?_, fun k hk => ?_, fun k hk => ?_⟩
  · rw [a3 (10 + k) (by omega) (by unfold ixM; omega) (by omega) (by omega)]; exact h4 k hk
  · rw [a3 (150 + k) (by omega) (by unfold ixM; omega) (by omega) (by omega)]; exact h5 k hk
  · by_cases e : k = (r 2).toNatClampNeg
    · rw [e, a4, a6]; exact ⟨hp, vp_in_iff.mp hf⟩
    · rw [a3 (324 + k) (by omega) (by unfold ixM; omega) (by omega) (by omega), a3 (354 + k) (by omega) (by unfold ixM; omega) (by omega) (by omega)]; exact h6 k (by omega)
theorem MV_build {r : Nat → Int32} {p f : Int32} (hv : MV r) (h0 : vp_in (r 2) 30) (hp : inP r p) (hf : vp_in f 12) : MV (sX8_goBuild r p f).2 := by
  have g0 : vp_in (r (2 : Int32).toNatClampNeg) 30 := h0
  have hs := hv.ps hp
  have e1 : (upd r (294 + r (2 : Int32).toNatClampNeg).toNatClampNeg (r (198 + p).toNatClampNeg)) (150 + p).toNatClampNeg = r (150 + p).toNatClampNeg := by
    refine up_ne ?_
    rw [cl_off (K := 150) rfl (hp.v hv) (by omega), cl_off (K := 294) rfl g0 (by omega)]
    have := (cl_in (hp.v hv)).2
    omega
  unfold sX8_goBuild
  rw [e1]
  refine MV_build0 hv h0 hs hf ?_
  refine sm_up ?_ (nx_384 g0)
  intro k hk
  unfold upd
  have c0 := cl_in g0
  rw [cl_off (K := 294) (k := 294) rfl g0 (by omega)]
  by_cases e : k = 294 + (r (2 : Int32).toNatClampNeg).toNatClampNeg
  · exfalso; unfold ixM at hk; omega
  · rw [if_neg e]
theorem fresh_at (r : Nat → Int32) : ∀ k : Nat, k < 414 → sX8_fresh r k = if k = 5 then 3 else if k = 6 then 1 else if k = 7 then 5 else 0 := by
  have h : ∀ (n : Nat) (x2 : Int32) (O9 : Nat → Int32), ¬ x2 < 0 → upM 414 x2 < n → (∀ k : Nat, k < x2.toNatClampNeg → k < 414 → O9 k = 0) → ∀ k : Nat, k < 414 → LX8_fresh_2 r n x2 O9 k = if k = 5 then 3 else if k = 6 then 1 else if k = 7 then 5 else 0 := by
    intro n
    induction n with
    | zero => intro x2 O9 _ hm; exact absurd hm (Nat.not_lt_zero _)
    | succ n ih =>
      intro x2 O9 i0 hm h k hk
      rw [LX8_fresh_2_eq]
      by_cases c : 414 ≤ x2
      · rw [if_pos c]
        have h1 : (414 : Int32).toInt ≤ x2.toInt := i32_le.mp c
        have e1 : (414 : Int32).toInt = 414 := rfl
        have h2 : O9 k = 0 := h k (by rw [cl_eq]; omega) hk
        have z5 : (5 : Int32).toNatClampNeg = 5 := rfl
        have z6 : (6 : Int32).toNatClampNeg = 6 := rfl
        have z7 : (7 : Int32).toNatClampNeg = 7 := rfl
        rw [z5, z6, z7]
        by_cases e5 : k = 5
        · rw [if_pos e5, e5]; rfl
        by_cases e6 : k = 6
        · rw [if_neg e5, if_pos e6, e6]; rfl
        by_cases e7 : k = 7
        · rw [if_neg e5, if_neg e6, if_pos e7, e7]; rfl
        rw [if_neg e5, if_neg e6, if_neg e7, up_ne e7, up_ne e6, up_ne e5]
        exact h2
      · rw [if_neg c]
        have h3 : vp_in x2 414 := vp_a rfl i0 c
        have h4 := cl_in h3
        have h5 : (x2 + 1).toNatClampNeg = x2.toNatClampNeg + 1 := by
          have e1 : (1 : Int32).toInt = 1 := rfl
          rw [cl_eq, Int32.toInt_add, e1, h4.1, Int.bmod_eq_of_le (by omega) (by omega)]
          omega
        refine ih _ _ ?_ ?_ ?_ k hk
        · exact nn_inc i0 c
        · exact upM_s c hm
        intro k' hk' h6
        rw [h5] at hk'
        by_cases e : k' = x2.toNatClampNeg
        · unfold upd; rw [if_pos e]
        · rw [up_ne e]; exact h k' (by omega) h6
  intro k hk
  unfold sX8_fresh
  refine h _ _ _ ?_ ?_ ?_ k hk
  · decide
  · exact Nat.lt_succ_self _
  · intro k' hk' _
    have e0 : (0 : Int32).toNatClampNeg = 0 := rfl
    rw [e0] at hk'
    omega
theorem MV_zero {r : Nat → Int32} (h : ∀ k : Nat, k < 3 → r k = 0) : MV r := by
  have z : (0 : Int32).toInt = 0 := rfl
  unfold MV
  rw [h 0 (by omega), h 1 (by omega), h 2 (by omega), z]
  refine ⟨by omega, by omega, by omega, fun k hk => ?_, fun k hk => ?_, fun k hk => ?_⟩ <;> omega
theorem MV_fresh (r : Nat → Int32) : MV (sX8_fresh r) := MV_zero (fun k hk => by rw [fresh_at r k (by omega), if_neg (by omega), if_neg (by omega), if_neg (by omega)])
