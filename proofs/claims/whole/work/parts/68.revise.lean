/-! math: revise -/
def rvC (r : Nat → Int32) (s p : Nat) : Bool := decide (r (150 + p) = nI s) && (sX8_isOut r (nI p) && !sX8_isRecalled r (nI p))
def rvG (r : Nat → Int32) (s : Nat) (c : Int32) (f : Nat) : Int32 := if bt c f = true then r (20 + s) + 1 else r (30 + (12 * s + f))
def rv1 (r : Nat → Int32) (s : Nat) (c : Int32) : Nat → Int32 := fb_put (upd r (20 + s) (r (20 + s) + 1)) (rvG r s c) (30 + 12 * s) 12
def rvV (r : Nat → Int32) (s : Nat) : Int32 := orb (r 8 &&& ((1 <<< (nI s &&& 31)) ^^^ (-1))) (ups r (r (10 + s)))
def rv3 (r : Nat → Int32) (s : Nat) (c : Int32) : Nat → Int32 := upd (rv1 r s c) 8 (rvV r s)
def rvD (r : Nat → Int32) (s p : Nat) : Int32 := if rvC r s p = true then r 3 + r 5 else r (270 + p)
def rvR (r : Nat → Int32) (s : Nat) (c : Int32) : Nat → Int32 := fb_put (rv3 r s c) (rvD r s) 270 (nP r)
theorem fb_put_same {f g : Nat → Int32} {a n : Nat} (h : g n = f (a + n)) : fb_put f g a (n + 1) = fb_put f g a n := funext fun k => by
  by_cases c : k = a + n
  · subst c
    rw [fb_put_in (by omega) (by omega), fb_put_out (by omega), ← h]
    exact congrArg g (by omega)
  · by_cases c2 : a ≤ k ∧ k < a + n
    · rw [fb_put_in (by omega) (by omega), fb_put_in (by omega) (by omega)]
    · rw [fb_put_out (by omega), fb_put_out (by omega)]
section
variable {r : Nat → Int32}
theorem rv_68 (hr : TRr r) {s : Nat} (c : Int32) : ∀ n x O9 m, n ≤ 10 → pre r n x → n ≤ m → (∀ k, k < 10 → O9 (10 + k) = r (10 + k)) → LX8_goRevise_68 r (nI s) c (m + 1) x O9 = LX8_goRevise_98 r (nI s) c (upM (r 1) 0 + 1) 0 0 (upd O9 8 (orb (O9 8) (ups r x))) := by
  have h10 := hr.1
  have nil : ∀ m O9, LX8_goRevise_68 r (nI s) c (m + 1) (-1) O9 = LX8_goRevise_98 r (nI s) c (upM (r 1) 0 + 1) 0 0 (upd O9 8 (orb (O9 8) (ups r (-1)))) := by
    intro m O9
    rw [LX8_goRevise_68_eq, if_pos rfl, ups_m1]
    show _ = LX8_goRevise_98 r (nI s) c (upM (r 1) 0 + 1) 0 0 (upd O9 8 (O9 8))
    rw [upd_id]
    rfl
  intro n
  induction n with
  | zero =>
    intro x O9 m _ hx _ _
    rcases hx with rfl | ⟨j, h1, _⟩
    · exact nil m O9
    · exact absurd h1 (Nat.not_lt_zero j)
  | succ n ih =>
    intro x O9 m hn hx hm hO
    rcases hx with rfl | ⟨j, h1, h2, rfl⟩
    · exact nil m O9
    · obtain ⟨m', rfl⟩ : ∃ m', m = m' + 1 := ⟨m - 1, by omega⟩
      rw [LX8_goRevise_68_eq, if_neg (nI_m1 (by omega)), cl_8, ix10 (by omega), pk_un (by omega), hO j (by omega),
        ih _ _ m' (by omega) (pre_par hr h2 (by omega)) (by omega) (fun k hk => by rw [pk_un (by omega)]; exact hO k hk), pk_us, upd_tw, ups_nI hr h2]
      rfl
theorem goRevise_e {d : Nat} (h : IV d r) {s : Nat} (hs : s < nS r) (c : Int32) : sX8_goRevise r (nI s) c = (nI (fb_ct (rvC r s) (nP r)), rvR r s c) := by
  have h10 := nS_le h.1
  have h24 := nP_le h.1
  have hr := IV.tr h
  have e1 := nP_e h.1
  have hm := nP_lt h.1
  have hu : upM 12 0 = 12 := upM_n0 (m := 12) (by decide)
  -- the last loop
  have k98 : ∀ n i, i + n = nP r → LX8_goRevise_98 r (nI s) c (n + 1) (nI (fb_ct (rvC r s) i)) (nI i) (fb_put (rv3 r s c) (rvD r s) 270 i) = (nI (fb_ct (rvC r s) (nP r)), rvR r s c) := by
    intro n
    have o : ∀ k i, k ≠ 8 → (k < 20 ∨ 150 ≤ k) → (k < 270 ∨ 270 + i ≤ k) → fb_put (rv3 r s c) (rvD r s) 270 i k = r k := fun k i h8 hk hk2 => by
      unfold rv3 rv1
      rw [fb_put_out (by omega), pk_un h8, fb_put_out (by omega), pk_un (by omega)]
    induction n with
    | zero =>
      intro i hi
      have : i = nP r := by omega
      subst this
      rw [LX8_goRevise_98_eq, cl_1, o 1 _ (by decide) (by omega) (by omega), e1, if_pos (nI_le (Nat.le_refl _) hm)]
      rfl
    | succ n ih =>
      intro i hi
      have hi2 : i < nP r := by omega
      have w9 : fb_put (rv3 r s c) (rvD r s) 270 i 9 = r 9 := o 9 _ (by decide) (by omega) (by omega)
      have wo : sX8_isOut (fb_put (rv3 r s c) (rvD r s) 270 i) (nI i) = sX8_isOut r (nI i) := by
        unfold sX8_isOut
        rw [cl_9, w9]
      have wr9 : sX8_isRecalled (fb_put (rv3 r s c) (rvD r s) 270 i) (nI i) = sX8_isRecalled r (nI i) := by
        rw [rec_e _ (by omega), rec_e _ (by omega), o (270 + i) _ (by omega) (by omega) (by omega)]
      have w270 : (rv3 r s c) (270 + i) = r (270 + i) := by
        unfold rv3 rv1
        rw [pk_un (by omega), fb_put_out (by omega), pk_un (by omega)]
      rw [LX8_goRevise_98_eq, cl_1, cl_3, cl_5, o 1 _ (by decide) (by omega) (by omega), e1, if_neg (nI_ge hi2 hm), ix150 (by omega), o (150 + i) _ (by omega) (by omega) (by omega), wo, wr9, ix270 (by omega), o 3 _ (by decide) (by omega) (by omega), o 5 _ (by decide) (by omega) (by omega), nI_1, nI_1, ← ih (i + 1) (by omega), fb_ct_succ]
      have cC : rvC r s i = (decide (r (150 + i) = nI s) && (sX8_isOut r (nI i) && !sX8_isRecalled r (nI i))) := rfl
      cases hC : rvC r s i
      · have g : rvD r s i = (rv3 r s c) (270 + i) := by unfold rvD; rw [hC, w270]; rfl
        rw [fb_put_same g]
        rw [hC] at cC
        by_cases q1 : r (150 + i) = nI s
        · rw [if_pos q1]
          rw [decide_eq_true q1, Bool.true_and] at cC
          cases q2 : sX8_isOut r (nI i)
          · rfl
          · cases q3 : sX8_isRecalled r (nI i)
            · rw [q2, q3] at cC; exact nomatch cC
            · rfl
        · rw [if_neg q1]; rfl
      · have g : rvD r s i = r 3 + r 5 := by unfold rvD; rw [hC]; rfl
        rw [← fb_put_succ, g]
        rw [hC] at cC
        have cC := cC.symm
        obtain ⟨q1, q2⟩ := Bool.and_eq_true_iff.mp cC
        obtain ⟨q2, q3⟩ := Bool.and_eq_true_iff.mp q2
        rw [if_pos (of_decide_eq_true q1), q2]
        cases q4 : sX8_isRecalled r (nI i)
        · rfl
        · rw [q4] at q3; exact nomatch q3
  -- the loop over the fields
  have k12 : ∀ n i, i + n = 12 → LX8_goRevise_12 r (nI s) c (n + 1) (nI i) (fb_put (upd r (20 + s) (r (20 + s) + 1)) (rvG r s c) (30 + 12 * s) i) = (nI (fb_ct (rvC r s) (nP r)), rvR r s c) := by
    intro n
    induction n with
    | zero =>
      intro i hi
      have : i = 12 := by omega
      subst this
      rw [LX8_goRevise_12_eq, if_pos (show (12 : Int32) ≤ nI 12 by decide), cl_8, ix10 (by omega)]
      have e8 : fb_put (upd r (20 + s) (r (20 + s) + 1)) (rvG r s c) (30 + 12 * s) 12 8 = r 8 := by rw [fb_put_out (by omega), pk_un (by omega)]
      have e10 : ∀ v k, k < 10 → upd (fb_put (upd r (20 + s) (r (20 + s) + 1)) (rvG r s c) (30 + 12 * s) 12) 8 v (10 + k) = r (10 + k) := fun v k hk => by rw [pk_un (by omega), fb_put_out (by omega), pk_un (by omega)]
      have hp : pre r 10 (r (10 + s)) := pre_par hr hs (by omega)
      rw [e8, e10 _ s (by omega), rv_68 hr c _ _ _ _ (pre_dn hr hp).2 (pre_dn hr hp).1 (Nat.le_refl _) (fun k hk => e10 _ k hk), pk_us, upd_tw, e1, upM_n0 hm]
      have := k98 (nP r) 0 (by omega)
      rw [fb_put_0] at this
      exact this
    | succ n ih =>
      intro i hi
      have w20 : fb_put (upd r (20 + s) (r (20 + s) + 1)) (rvG r s c) (30 + 12 * s) i (20 + s) = r (20 + s) + 1 := by rw [fb_put_out (by omega), pk_us]
      rw [LX8_goRevise_12_eq, if_neg (ge12 (by omega)), has_bt _ (by omega), ixF (by omega) (by omega), ix20 (by omega), w20, nI_1, ← ih (i + 1) (by omega)]
      cases q : bt c i
      · have g : rvG r s c i = upd r (20 + s) (r (20 + s) + 1) (30 + 12 * s + i) := by
          unfold rvG
          rw [q, pk_un (by omega)]
          show r (30 + (12 * s + i)) = _
          exact congrArg r (by omega)
        rw [fb_put_same g]
        rfl
      · have g : rvG r s c i = r (20 + s) + 1 := by unfold rvG; rw [q]; rfl
        rw [← fb_put_succ, g, if_pos rfl]
        congr 2
        omega
  have k0 := k12 12 0 (by omega)
  rw [fb_put_0] at k0
  unfold sX8_goRevise
  rw [hu, ix20 (by omega)]
  exact k0
end
/-! the class -/
theorem above_c {O O9 : OF} (h0 : O9.1 0 = O.1 0) (h5 : O9.2 5 = O.2 5) (x : Int32) : sX4_above O9 x = sX4_above O x := by
  have hh : ∀ y, sX4_has O9 y = sX4_has O y := fun y => by unfold sX4_has; rw [h0]
  have hp : ∀ y, sX4_parentOf O9 y = sX4_parentOf O y := fun y => by unfold sX4_parentOf; rw [hh, h5]
  have key : ∀ n a y i, LX4_above_11 O9 x n a y i = LX4_above_11 O x n a y i := by
    intro n
    induction n with
    | zero => intro a y i; rfl
    | succ n ih => intro a y i; rw [LX4_above_11_eq, LX4_above_11_eq, hh, hp, ih]
  unfold sX4_above
  rw [hp, key]
section
variable {d : Nat} {O : OF} {r : Nat → Int32} (h : RO d O r)
def rcG (O : OF) (r : Nat → Int32) (s : Nat) (v : Int32) (p : Nat) : Int32 := if rvC r s p = true then v else O.2 13 p
theorem recallAll_e (h : RO d O r) {s : Nat} (hs : s < nS r) (v : Int32) : sX3_recallAllOf O (nI s) v = stA O 13 (fb_put (O.2 13) (rcG O r s v) 0 (nP r)) := by
  have h24 := nP_le h.c
  have h10 := nS_le h.c
  have e1 := nP_e h.c
  have hm := nP_lt h.c
  have ec : O.1 2 = nI (nP r) := by rw [h.1.1.2.2.1, e1]
  have key : ∀ n i, i + n = nP r → LX3_recallAllOf_2 O (nI s) v (n + 1) (nI i) (stA O 13 (fb_put (O.2 13) (rcG O r s v) 0 i)) = stA O 13 (fb_put (O.2 13) (rcG O r s v) 0 (nP r)) := by
    intro n
    induction n with
    | zero =>
      intro i hi
      have : i = nP r := by omega
      subst this
      rw [LX3_recallAllOf_2_eq]
      show (if O.1 2 ≤ nI (nP r) then _ else _) = _
      rw [ec, if_pos (nI_le (Nat.le_refl _) hm)]
    | succ n ih =>
      intro i hi
      have hi2 : i < nP r := by omega
      have w1 : sX3_isOutNotRecalled (stA O 13 (fb_put (O.2 13) (rcG O r s v) 0 i)) (nI i) = sX3_isOutNotRecalled O (nI i) := by
        unfold sX3_isOutNotRecalled sX3_isOut sX3_dueOf
        show (if sX7_isIn (O.1 3) (nI i) = true then (if (if sX3_has O (nI i) = true then fb_put (O.2 13) (rcG O r s v) 0 i (nI i).toNatClampNeg else -1) = -1 then true else false) else false) = _
        rw [ixN (by omega), fb_put_out (by omega)]
      have w2 : sX3_sheetOf (stA O 13 (fb_put (O.2 13) (rcG O r s v) 0 i)) (nI i) = sX3_sheetOf O (nI i) := rfl
      rw [LX3_recallAllOf_2_eq]
      show (if O.1 2 ≤ nI i then _ else _) = _
      rw [ec, if_neg (nI_ge hi2 hm), if_neg (ge24 (by omega)), w1, w2, q_onr h hi2, q_sheetP h hi2, ixN (by omega), stA_w, nI_1, ← ih (i + 1) (by omega)]
      have cC : rvC r s i = (decide (r (150 + i) = nI s) && (sX8_isOut r (nI i) && !sX8_isRecalled r (nI i))) := rfl
      cases hC : rvC r s i
      · have g : rcG O r s v i = O.2 13 (0 + i) := by unfold rcG; rw [hC, Nat.zero_add]; rfl
        rw [fb_put_same g]
        rw [hC] at cC
        by_cases q1 : r (150 + i) = nI s
        · rw [decide_eq_true q1, Bool.true_and] at cC
          rw [← cC]; rfl
        · cases q2 : (sX8_isOut r (nI i) && !sX8_isRecalled r (nI i))
          · rfl
          · rw [if_pos rfl, if_neg q1]
      · have g : rcG O r s v i = v := by unfold rcG; rw [hC]; rfl
        have u := fb_put_succ (O.2 13) (rcG O r s v) 0 i
        rw [g, Nat.zero_add] at u
        rw [← u]
        rw [hC] at cC
        obtain ⟨q1, q2⟩ := Bool.and_eq_true_iff.mp cC.symm
        rw [if_pos q2, if_pos (of_decide_eq_true q1)]
  have k0 := key (nP r) 0 (by omega)
  rw [fb_put_0, stA_id] at k0
  unfold sX3_recallAllOf
  rw [ec, upM_n0 hm]
  exact k0
def dwG (B : OF) (s : Nat) (c : Int32) (f : Nat) : Int32 := if bt c f = true then B.2 6 s else B.2 7 (12 * s + f)
theorem drawAnew_e {B : OF} {s : Nat} (hs : s < 10) (c : Int32) (hh : sX4_has B (nI s) = true) (W : Int32) (hW : sX4_above B (nI s) = W) : sX4_drawAnew B (nI s) c = sX4_markChecked (stS (stA (stA B 6 (upd (B.2 6) s (B.2 6 s + 1))) 7 (fb_put (B.2 7) (dwG (stA B 6 (upd (B.2 6) s (B.2 6 s + 1))) s c) (12 * s) 12)) 1 (B.1 1 ||| W)) (nI s) := by
  have hu : upM 12 0 = 12 := upM_n0 (m := 12) (by decide)
  obtain ⟨C, hC⟩ : ∃ C, C = stA B 6 (upd (B.2 6) s (B.2 6 s + 1)) := ⟨_, rfl⟩
  have b7 : C.2 7 = B.2 7 := by rw [hC]; rfl
  have key : ∀ n i, i + n = 12 → LX4_drawAnew_21 B (nI s) c (n + 1) (nI i) (stA C 7 (fb_put (B.2 7) (dwG C s c) (12 * s) i)) = sX4_markChecked (stS (stA C 7 (fb_put (B.2 7) (dwG C s c) (12 * s) 12)) 1 (B.1 1 ||| W)) (nI s) := by
    intro n
    induction n with
    | zero =>
      intro i hi
      have : i = 12 := by omega
      subst this
      rw [LX4_drawAnew_21_eq, if_pos (show (12 : Int32) ≤ nI 12 by decide)]
      have ea : sX4_above (stA C 7 (fb_put (B.2 7) (dwG C s c) (12 * s) 12)) (nI s) = W := by
        rw [above_c (O := B) (by rw [hC]; rfl) (by rw [hC]; rfl)]; exact hW
      have e1 : (stA C 7 (fb_put (B.2 7) (dwG C s c) (12 * s) 12)).1 1 = B.1 1 := by rw [hC]; rfl
      rw [ea, e1]
    | succ n ih =>
      intro i hi
      have w6 : (stA C 7 (fb_put (B.2 7) (dwG C s c) (12 * s) i)).2 6 (nI s).toNatClampNeg = C.2 6 s := by rw [ixN (by omega)]; rfl
      rw [LX4_drawAnew_21_eq, if_neg (ge12 (by omega)), isIn_bt _ (by omega), ixG (by omega) (by omega), stA_w, w6, nI_1, ← ih (i + 1) (by omega)]
      cases q : bt c i
      · have g : dwG C s c i = B.2 7 (12 * s + i) := by unfold dwG; rw [q, b7]; rfl
        rw [fb_put_same g]
        rfl
      · have g : dwG C s c i = C.2 6 s := by unfold dwG; rw [q]; rfl
        have u := fb_put_succ (B.2 7) (dwG C s c) (12 * s) i
        rw [g] at u
        rw [← u, if_pos rfl]
  have k0 := key 12 0 (by omega)
  rw [fb_put_0, ← b7, stA_id] at k0
  unfold sX4_drawAnew
  rw [if_pos hh, hu, ixN (by omega), ← hC, ← b7]
  exact k0
end
