/-! math: the sheets above a sheet -/
def chn (r : Nat → Int32) : Nat → Int32 → List Nat
  | 0, _ => []
  | n + 1, x => if x = -1 then [] else x.toNatClampNeg :: chn r n (r (10 + x.toNatClampNeg))
def pre (r : Nat → Int32) (n : Nat) (x : Int32) : Prop := x = -1 ∨ ∃ j, j < n ∧ j < nS r ∧ x = nI j
def ups (r : Nat → Int32) (x : Int32) : List Nat := chn r 10 x
def TRr (r : Nat → Int32) : Prop := nS r ≤ 10 ∧ ∀ k, k < nS r → -1 ≤ (r (10 + k)).toInt ∧ (r (10 + k)).toInt < k
theorem IV.tr {d : Nat} {r : Nat → Int32} (h : IV d r) : TRr r := ⟨nS_le h.1, fun k hk => (h.2.2.2.1 k hk).1⟩
theorem RO.tr {d : Nat} {O : OF} {r : Nat → Int32} (h : RO d O r) : TRr r := IV.tr h.2
section
variable {r : Nat → Int32} (hr : TRr r)
theorem pre_par (hr : TRr r) {j n : Nat} (hj : j < nS r) (hn : j ≤ n) : pre r n (r (10 + j)) := by
  have h1 := hr.2 j hj
  by_cases e : (r (10 + j)).toInt = -1
  · exact Or.inl (i_m1 e)
  · obtain ⟨k, a, b, -⟩ := i_ex (x := r (10 + j)) (by omega)
    exact Or.inr ⟨k, by omega, by omega, a⟩
theorem pre_mono {n m : Nat} {x : Int32} (h : pre r n x) (hm : n ≤ m) : pre r m x := by
  rcases h with h | ⟨j, a, b, c⟩
  · exact Or.inl h
  · exact Or.inr ⟨j, by omega, b, c⟩
theorem pre_nI {j : Nat} (hj : j < nS r) : pre r (j + 1) (nI j) := Or.inr ⟨j, by omega, hj, rfl⟩
theorem chn_m1 (r : Nat → Int32) (n : Nat) : chn r n (-1) = [] := by
  cases n
  · rfl
  · exact if_pos rfl
theorem chn_nI (hr : TRr r) {j : Nat} (n : Nat) (hj : j < nS r) : chn r (n + 1) (nI j) = j :: chn r n (r (10 + j)) := by
  have := hr.1
  show (if nI j = -1 then [] else (nI j).toNatClampNeg :: chn r n (r (10 + (nI j).toNatClampNeg))) = _
  rw [if_neg (nI_m1 (by omega)), ixN (by omega)]
theorem chn_lt (hr : TRr r) : ∀ n x, pre r n x → ∀ k, k ∈ chn r n x → k < n ∧ k < nS r := by
  intro n
  induction n with
  | zero => intro x _ k hk; exact absurd hk List.not_mem_nil
  | succ n ih =>
    intro x hx k hk
    rcases hx with rfl | ⟨j, h1, h2, rfl⟩
    · rw [chn_m1] at hk; exact absurd hk List.not_mem_nil
    · rw [chn_nI hr n h2] at hk
      rcases List.mem_cons.mp hk with e | e
      · subst e; exact ⟨h1, h2⟩
      · have := ih _ (pre_par hr h2 (by omega)) k e
        exact ⟨by omega, this.2⟩
theorem chn_fuel (hr : TRr r) : ∀ n x m, pre r n x → n ≤ m → chn r m x = chn r n x := by
  intro n
  induction n with
  | zero =>
    intro x m hx _
    rcases hx with rfl | ⟨j, h1, _⟩
    · rw [chn_m1, chn_m1]
    · exact absurd h1 (Nat.not_lt_zero j)
  | succ n ih =>
    intro x m hx hm
    rcases hx with rfl | ⟨j, h1, h2, rfl⟩
    · rw [chn_m1, chn_m1]
    · obtain ⟨m', rfl⟩ : ∃ m', m = m' + 1 := ⟨m - 1, by omega⟩
      rw [chn_nI hr n h2, chn_nI hr m' h2, ih _ m' (pre_par hr h2 (by omega)) (by omega)]
theorem ups_m1 (r : Nat → Int32) : ups r (-1) = [] := chn_m1 r 10
theorem ups_nI (hr : TRr r) {j : Nat} (hj : j < nS r) : ups r (nI j) = j :: ups r (r (10 + j)) := by
  have := hr.1
  unfold ups
  rw [chn_nI hr 9 hj, chn_fuel hr 9 _ 10 (pre_par hr hj (by omega)) (by omega)]
theorem ups_lt (hr : TRr r) {n : Nat} {x : Int32} (hn : n ≤ 10) (hx : pre r n x) {k : Nat} (hk : k ∈ ups r x) : k < n ∧ k < nS r := by
  unfold ups at hk
  rw [chn_fuel hr n x 10 hx hn] at hk
  exact chn_lt hr n x hx k hk
theorem ups_par (hr : TRr r) {j k : Nat} (hj : j < nS r) (hk : k ∈ ups r (r (10 + j))) : k < j ∧ k < nS r := by
  have := hr.1
  exact ups_lt hr (by omega) (pre_par hr hj (Nat.le_refl _)) hk
/-- their bits -/
def orb (a : Int32) : List Nat → Int32
  | [] => a
  | j :: l => orb (a ||| (1 <<< (nI j &&& 31))) l
theorem orb_bt : ∀ (l : List Nat) (a : Int32), (∀ j, j ∈ l → j < 32) → ∀ i, i < 32 → bt (orb a l) i = (bt a i || decide (i ∈ l)) := by
  intro l
  induction l with
  | nil => intro a _ i _; simp [orb]
  | cons j l ih =>
    intro a hl i hi
    show bt (orb (a ||| (1 <<< (nI j &&& 31))) l) i = _
    rw [ih _ (fun k hk => hl k (List.mem_cons_of_mem _ hk)) i hi, b_set (hl j List.mem_cons_self) hi, Bool.or_assoc]
    congr 1
    by_cases e : i = j
    · simp [e]
    · simp [e]
theorem ct_ups (hr : TRr r) : ∀ n x, n ≤ 10 → pre r n x → fb_ct (fun i => decide (i ∈ ups r x)) 24 = (ups r x).length := by
  have nil : fb_ct (fun i => decide (i ∈ ups r (-1))) 24 = (ups r (-1)).length := by
    rw [ups_m1]
    exact fb_ct_zero.mpr (fun k _ => by simp)
  intro n
  induction n with
  | zero =>
    intro x _ hx
    rcases hx with rfl | ⟨j, h1, _⟩
    · exact nil
    · exact absurd h1 (Nat.not_lt_zero j)
  | succ n ih =>
    intro x hn hx
    rcases hx with rfl | ⟨j, h1, h2, rfl⟩
    · exact nil
    · have h := ih _ (by omega) (pre_par hr h2 (show j ≤ n by omega))
      rw [ups_nI hr h2, List.length_cons, ← h]
      have u := fb_ct_upd (fun i => decide (i ∈ ups r (r (10 + j)))) true (i := j) (n := 24) (by omega)
      have e : decide (j ∈ ups r (r (10 + j))) = false := decide_eq_false (fun q => by have := (ups_par hr h2 q).1; omega)
      rw [e] at u
      have e2 : fb_ct (fun i => decide (i ∈ j :: ups r (r (10 + j)))) 24 = fb_ct (fun k => if k = j then true else decide (k ∈ ups r (r (10 + j)))) 24 := fb_ct_cong (fun k _ => by
        by_cases q : k = j
        · simp [q]
        · simp [q])
      rw [e2]
      simpa using u
theorem dnM_nI {j : Nat} (hj : j < 2 ^ 31) : dnM (nI j) = j + 1 := by
  unfold dnM
  rw [nI_toInt hj]
  omega
theorem pre_dn (hr : TRr r) {x : Int32} (hx : pre r 10 x) : pre r (dnM x) x ∧ dnM x ≤ 10 := by
  have := hr.1
  rcases hx with rfl | ⟨j, h1, h2, rfl⟩
  · exact ⟨Or.inl rfl, by decide⟩
  · rw [dnM_nI (by omega)]
    exact ⟨Or.inr ⟨j, by omega, h2, rfl⟩, by omega⟩
/-! the reference's walks up -/
theorem t_above (hr : TRr r) (p : Int32) : ∀ n x a m, n ≤ 10 → pre r n x → n ≤ m → LX8_above_9 r p (m + 1) a x = a + nI (ups r x).length := by
  intro n
  induction n with
  | zero =>
    intro x a m _ hx _
    rcases hx with rfl | ⟨j, h1, _⟩
    · rw [LX8_above_9_eq, if_pos rfl, ups_m1]; exact (Int32.add_zero a).symm
    · exact absurd h1 (Nat.not_lt_zero j)
  | succ n ih =>
    intro x a m hn hx hm
    rcases hx with rfl | ⟨j, h1, h2, rfl⟩
    · rw [LX8_above_9_eq, if_pos rfl, ups_m1]; exact (Int32.add_zero a).symm
    · obtain ⟨m', rfl⟩ : ∃ m', m = m' + 1 := ⟨m - 1, by omega⟩
      rw [LX8_above_9_eq, if_neg (nI_m1 (by omega)), ix10 (by omega), ih _ _ m' (by omega) (pre_par hr h2 (by omega)) (by omega), ups_nI hr h2, List.length_cons, Int32.add_assoc]
      congr 1
      rw [Int32.add_comm, nI_1]
theorem g_aboveR (hr : TRr r) {s : Nat} (hs : s < nS r) : sX8_above r (nI s) = nI (ups r (r (10 + s))).length := by
  have := hr.1
  have hp : pre r 10 (r (10 + s)) := pre_par hr hs (by omega)
  unfold sX8_above
  rw [ix10 (by omega), t_above hr _ _ _ _ _ (pre_dn hr hp).2 (pre_dn hr hp).1 (Nat.le_refl _)]
  exact Int32.zero_add _
theorem t_isUnder (hr : TRr r) (p : Int32) {o : Nat} (ho : o < 1000) : ∀ n x m, n ≤ 10 → pre r n x → n ≤ m → LX8_isUnder_2 r p (nI o) (m + 1) x = decide (o ∈ ups r x) := by
  have nil : ∀ m, LX8_isUnder_2 r p (nI o) (m + 1) (-1) = decide (o ∈ ups r (-1)) := by
    intro m
    rw [LX8_isUnder_2_eq, if_pos rfl, ups_m1, if_neg (fun e => nI_m1 (k := o) (by omega) e.symm)]
    simp
  intro n
  induction n with
  | zero =>
    intro x m _ hx _
    rcases hx with rfl | ⟨j, h1, _⟩
    · exact nil m
    · exact absurd h1 (Nat.not_lt_zero j)
  | succ n ih =>
    intro x m hn hx hm
    rcases hx with rfl | ⟨j, h1, h2, rfl⟩
    · exact nil m
    · obtain ⟨m', rfl⟩ : ∃ m', m = m' + 1 := ⟨m - 1, by omega⟩
      rw [LX8_isUnder_2_eq, if_neg (nI_m1 (by omega)), ix10 (by omega), ih _ m' (by omega) (pre_par hr h2 (by omega)) (by omega), ups_nI hr h2]
      by_cases e : j = o
      · subst e; simp
      · rw [if_neg (fun q => e ((nI_eq (by omega) (by omega)).mp q))]
        have e' : ¬ o = j := fun q => e q.symm
        simp [e']
theorem g_isUnder (hr : TRr r) {t o : Nat} (ht : t < nS r) (ho : o < 1000) : sX8_isUnder r (nI t) (nI o) = decide (o ∈ ups r (nI t)) := by
  have := hr.1
  have hp : pre r 10 (nI t) := pre_mono (pre_nI ht) (by omega)
  unfold sX8_isUnder
  exact t_isUnder hr _ ho _ _ _ (pre_dn hr hp).2 (pre_dn hr hp).1 (Nat.le_refl _)
end
/-! the class's walk up -/
section
variable {d : Nat} {O : OF} {r : Nat → Int32} (h : RO d O r)
theorem t_aboveC (h : RO d O r) (p : Int32) : ∀ n x a i, pre r n x → i + n ≤ 10 → LX4_above_11 O p (10 - i + 1) a x (nI i) = orb a (ups r x) := by
  have hr := h.tr
  have m1 : sX4_has O (-1) = false := by
    rw [q_hasS h]
    cases e : sX8_hasSheet r (-1)
    · rfl
    · have := ((hasS_iff h.c _).mp e).1
      exact absurd this (by decide)
  have nil : ∀ a i, i ≤ 10 → LX4_above_11 O p (10 - i + 1) a (-1) (nI i) = orb a (ups r (-1)) := by
    intro a i _
    rw [LX4_above_11_eq, m1, ups_m1]
    by_cases c : 10 ≤ nI i
    · rw [if_pos c]; rfl
    · rw [if_neg c]; rfl
  intro n
  induction n with
  | zero =>
    intro x a i hx hi
    rcases hx with rfl | ⟨j, h1, _⟩
    · exact nil a i hi
    · exact absurd h1 (Nat.not_lt_zero j)
  | succ n ih =>
    intro x a i hx hi
    rcases hx with rfl | ⟨j, h1, h2, rfl⟩
    · exact nil a i (by omega)
    · have e : 10 - i = (10 - (i + 1)) + 1 := by omega
      rw [LX4_above_11_eq, if_neg (ge10 (by omega)), q_hasS h, if_pos (hasS_nI h.c h2), q_parent h h2, nI_1, e, ih _ _ (i + 1) (pre_par hr h2 (by omega)) (by omega), ups_nI hr h2]
      rfl
theorem g_aboveC (h : RO d O r) {s : Nat} (hs : s < nS r) : sX4_above O (nI s) = orb 0 (ups r (r (10 + s))) := by
  have h10 := nS_le h.c
  unfold sX4_above
  rw [q_parent h hs]
  exact t_aboveC h _ s _ 0 0 (pre_par h.tr hs (Nat.le_refl _)) (by omega)
theorem ups32 (h : RO d O r) {s : Nat} (hs : s < nS r) : ∀ j, j ∈ ups r (r (10 + s)) → j < 10 := fun j hj => by
  have h10 := nS_le h.c
  have := ups_par h.tr hs hj
  omega
theorem above_bt (h : RO d O r) {s i : Nat} (hs : s < nS r) (hi : i < 32) : bt (sX4_above O (nI s)) i = decide (i ∈ ups r (r (10 + s))) := by
  rw [g_aboveC h hs, orb_bt _ _ (fun j hj => by have := ups32 h hs j hj; omega) i hi, b_0, Bool.false_or]
theorem g_aboveN (h : RO d O r) {s : Nat} (hs : s < nS r) : sJ6_bitCount_0f7a4 (sX4_above O (nI s)) = sX8_above r (nI s) := by
  have h10 := nS_le h.c
  rw [bc_eq (fun i hi hb => by
    rw [above_bt h hs hi] at hb
    have := ups32 h hs i (of_decide_eq_true hb)
    omega), g_aboveR h.tr hs, ← ct_ups h.tr s _ (by omega) (pre_par h.tr hs (Nat.le_refl _))]
  exact congrArg nI (fb_ct_cong (fun k hk => above_bt h hs (by omega)))
theorem above_in (h : RO d O r) {s t : Nat} (hs : s < nS r) (ht : t < 32) : sX7_isIn (sX4_above O (nI s)) (nI t) = decide (t ∈ ups r (r (10 + s))) := by
  rw [isIn_bt _ ht, above_bt h hs ht]
theorem k_under (h : RO d O r) {s : Nat} (hs : s < nS r) : sX4_countUnder O (nI s) = nI (fb_ct (fun t => decide (s ∈ ups r (r (10 + t)))) (nS r)) := by
  have h10 := nS_le h.c
  have e := h.1.1.1
  have e2 := nS_e h.c
  have hm := nS_lt h.c
  unfold sX4_countUnder
  rw [e, e2]
  refine cnt_all (L := LX4_countUnder_4 O (nI s)) hm (fun n a => ?_) (fun n a i hi => ?_)
  · rw [LX4_countUnder_4_eq, e, e2, if_pos (nI_le (Nat.le_refl _) hm)]
  · rw [LX4_countUnder_4_eq, e, e2, if_neg (nI_ge hi hm), above_in h hi (by omega), nI_1]
    by_cases c : s ∈ ups r (r (10 + i)) <;> simp [c]
theorem g_below (h : RO d O r) {s : Nat} (hs : s < nS r) : sX4_countUnder O (nI s) = sX8_below r (nI s) := by
  have h10 := nS_le h.c
  have e2 : r (0 : Int32).toNatClampNeg = nI (nS r) := nS_e h.c
  have hm := nS_lt h.c
  rw [k_under h hs]
  unfold sX8_below
  rw [e2, upM_n0 hm]
  have key := cnt_loop (L := LX8_below_4 r (nI s)) (P := fun t => decide (s ∈ ups r (nI t))) (m := nS r) (-1) (fun n a => by
    rw [LX8_below_4_eq, e2, if_pos (nI_le (Nat.le_refl _) hm)]) (fun n a i hi => by
    rw [LX8_below_4_eq, e2, if_neg (nI_ge hi hm), g_isUnder h.tr hi (by omega), ab2, nI_1]
    by_cases c : s ∈ ups r (nI i) <;> simp [c]) (nS r) 0 (by omega)
  have e0 : (-1 : Int32) + nI (fb_ct (fun t => decide (s ∈ ups r (nI t))) 0) = -1 := Int32.add_zero (-1)
  rw [e0] at key
  refine Eq.trans ?_ key.symm
  have u := fb_ct_upd (fun t => decide (s ∈ ups r (r (10 + t)))) true (i := s) (n := nS r) hs
  have e : decide (s ∈ ups r (r (10 + s))) = false := decide_eq_false (fun q => by have := (ups_par h.tr hs q).1; omega)
  rw [e] at u
  have e3 : fb_ct (fun t => decide (s ∈ ups r (nI t))) (nS r) = fb_ct (fun k => if k = s then true else decide (s ∈ ups r (r (10 + k)))) (nS r) := fb_ct_cong (fun k hk => by
    rw [ups_nI h.tr hk]
    by_cases q : k = s
    · simp [q]
    · have q' : ¬ s = k := fun z => q z.symm
      simp [q, q'])
  have e4 : fb_ct (fun k => if k = s then true else decide (s ∈ ups r (r (10 + k)))) (nS r) = fb_ct (fun t => decide (s ∈ ups r (r (10 + t)))) (nS r) + 1 := by simpa using u
  rw [e3, e4, Int32.add_comm, pk_m1]
/-- how deep it goes below a sheet -/
def mx (a b : Int32) : Int32 := if a < b then b else a
theorem mx_i (a b : Int32) : (a.toInt ≤ (mx a b).toInt ∧ b.toInt ≤ (mx a b).toInt) ∧ (mx a b = a ∨ mx a b = b) := by
  unfold mx
  by_cases c : a < b
  · rw [if_pos c]
    have := i32_lt.mp c
    exact ⟨⟨by omega, by omega⟩, Or.inr rfl⟩
  · rw [if_neg c]
    have c2 : ¬ a.toInt < b.toInt := fun q => c (i32_lt.mpr q)
    exact ⟨⟨by omega, by omega⟩, Or.inl rfl⟩
theorem mx_e {a b : Int32} (z : Int32) (h1 : a.toInt ≤ z.toInt) (h2 : b.toInt ≤ z.toInt) (h3 : z = a ∨ z = b) : mx a b = z := by
  have h := mx_i a b
  refine Int32.toInt_inj.mp ?_
  rcases h3 with rfl | rfl <;> rcases h.2 with e | e <;> rw [e] at h ⊢ <;> omega
theorem mx_assoc (a b c : Int32) : mx (mx a b) c = mx a (mx b c) := by
  have h1 := mx_i a b
  have h2 := mx_i b c
  have h3 := mx_i a (mx b c)
  refine mx_e _ (by rcases h1.2 with e | e <;> rw [e] <;> omega) (by omega) ?_
  rcases h3.2 with e | e
  · left
    rw [e]
    refine (mx_e a (by omega) ?_ (Or.inl rfl)).symm
    rw [e] at h3; omega
  · rw [e]
    rcases h2.2 with e2 | e2
    · left
      rw [e2]
      refine (mx_e b ?_ (by omega) (Or.inr rfl)).symm
      rw [e, e2] at h3; omega
    · right; exact e2
theorem g_deep (h : RO d O r) {s : Nat} (hs : s < nS r) : sX4_heightOf O (nI s) = sX8_deep r (nI s) := by
  have h10 := nS_le h.c
  have e := h.1.1.1
  have e2 := nS_e h.c
  have e2' : r (0 : Int32).toNatClampNeg = nI (nS r) := nS_e h.c
  have hm := nS_lt h.c
  unfold sX4_heightOf sX8_deep
  rw [e, e2, e2', upM_n0 hm]
  have z0 : (0 : Int32).toInt = 0 := rfl
  have z1 : (1 : Int32).toInt = 1 := rfl
  have key : ∀ n i c m, i + n = nS r → c = mx 1 m → 0 ≤ m.toInt → (s < i → 1 ≤ m.toInt) → LX4_heightOf_14 O (nI s) (n + 1) c (nI i) = LX8_deep_4 r (nI s) (n + 1) m (nI i) := by
    intro n
    induction n with
    | zero =>
      intro i c m hi hc hm0 hs1
      rw [LX4_heightOf_14_eq, LX8_deep_4_eq, e, e2, e2', if_pos (nI_le (by omega) (by omega)), if_pos (nI_le (by omega) (by omega)), hc]
      have := hs1 (by omega)
      exact mx_e m (by omega) (by omega) (Or.inr rfl)
    | succ n ih =>
      intro i c m hi hc hm0 hs1
      have hi' : i < nS r := by omega
      rw [LX4_heightOf_14_eq, LX8_deep_4_eq, e, e2, e2', if_neg (nI_ge hi' hm), if_neg (nI_ge hi' hm), above_in h hi' (by omega), g_isUnder h.tr hi' (by omega), g_aboveN h hi', g_aboveN h hs, ups_nI h.tr hi', nI_1]
      have mle : ∀ z : Int32, (if z ≤ m then m else z) = mx m z := fun z => by
        unfold mx
        by_cases q : z ≤ m
        · have q2 : ¬ m < z := fun t => by have := i32_le.mp q; have := i32_lt.mp t; omega
          rw [if_pos q, if_neg q2]
        · have q2 : m < z := i32_lt.mpr (by have : ¬ z.toInt ≤ m.toInt := fun t => q (i32_le.mpr t); omega)
          rw [if_neg q, if_pos q2]
      rw [mle]
      by_cases q : i = s
      · subst q
        have q1 : ¬ i ∈ ups r (r (10 + i)) := fun z => by have := (ups_par h.tr hi' z).1; omega
        have q2 : (sX8_above r (nI i) - sX8_above r (nI i)) + 1 = 1 := by rw [Int32.sub_self, Int32.zero_add]
        simp only [q1, decide_false, List.mem_cons, true_or, decide_true, if_true, q2]
        have hx := mx_i m 1
        exact ih (i + 1) c (mx m 1) (by omega) (by
          rw [hc]
          refine mx_e _ ?_ ?_ ?_
          · have := mx_i 1 (mx m 1); omega
          · have := mx_i 1 (mx m 1); omega
          · have h3 := mx_i 1 (mx m 1)
            rcases h3.2 with t | t
            · exact Or.inl t
            · rw [t]
              rcases hx.2 with t2 | t2
              · exact Or.inr t2
              · exact Or.inl t2) (by omega) (by omega)
      · have q' : ¬ s = i := fun z => q z.symm
        by_cases q1 : s ∈ ups r (r (10 + i))
        · simp only [q1, decide_true, List.mem_cons, or_true, if_true]
          have hx := mx_i m (sX8_above r (nI i) - sX8_above r (nI s) + 1)
          refine ih (i + 1) _ _ (by omega) ?_ (by omega) (fun hsi => by have := hs1 (by omega); omega)
          show mx c _ = _
          rw [hc, mx_assoc]
        · simp only [q1, q', decide_false, List.mem_cons, or_false, if_false, Bool.false_eq_true]
          have hx : mx m 0 = m := mx_e m (by omega) (by omega) (Or.inl rfl)
          rw [hx]
          exact ih (i + 1) c m (by omega) hc hm0 (fun hsi => hs1 (by omega))
  refine key (nS r) 0 1 0 (by omega) (by decide) (by omega) (by omega)
/-- the lowest over two sheets -/
def hiP (q : Nat → Bool) : Nat → Int32
  | 0 => -1
  | j + 1 => if q j = true then nI j else hiP q j
theorem hi_cong {p q : Nat → Bool} : ∀ n, (∀ k, k < n → p k = q k) → hiP p n = hiP q n := by
  intro n
  induction n with
  | zero => intro _; rfl
  | succ n ih =>
    intro hk
    show (if p n = true then nI n else hiP p n) = (if q n = true then nI n else hiP q n)
    rw [hk n (by omega), ih (fun k h => hk k (by omega))]
theorem hi_top {q : Nat → Bool} {j : Nat} : ∀ n, j ≤ n → (∀ k, j ≤ k → k < n → q k = false) → hiP q n = hiP q j := by
  intro n
  induction n with
  | zero => intro hj _; have : j = 0 := by omega
            subst this; rfl
  | succ n ih =>
    intro hj hk
    rcases Nat.lt_or_ge n j with c | c
    · have : j = n + 1 := by omega
      subst this; rfl
    · show (if q n = true then nI n else hiP q n) = _
      rw [hk n c (by omega), ih c (fun k h1 h2 => hk k h1 (by omega))]
      rfl
theorem t_common {M : MS} (hr : TRr (M.1.2 1)) (p : Int32) {t : Nat} (ht : t < nS (M.1.2 1)) : ∀ n x m, n ≤ 10 → pre (M.1.2 1) n x → n ≤ m → (LX8_common_38 M p (nI t) (m + 1) x).1 = hiP (fun a => decide (a ∈ ups (M.1.2 1) x) && decide (a ∈ ups (M.1.2 1) (nI t))) 10 := by
  have h10 := hr.1
  have nil : ∀ m, (LX8_common_38 M p (nI t) (m + 1) (-1)).1 = hiP (fun a => decide (a ∈ ups (M.1.2 1) (-1)) && decide (a ∈ ups (M.1.2 1) (nI t))) 10 := by
    intro m
    rw [LX8_common_38_eq, if_pos rfl, hi_top (j := 0) 10 (by decide) (fun k _ _ => by rw [ups_m1]; simp)]
    rfl
  intro n
  induction n with
  | zero =>
    intro x m _ hx _
    rcases hx with rfl | ⟨j, h1, _⟩
    · exact nil m
    · exact absurd h1 (Nat.not_lt_zero j)
  | succ n ih =>
    intro x m hn hx hm
    rcases hx with rfl | ⟨j, h1, h2, rfl⟩
    · exact nil m
    · obtain ⟨m', rfl⟩ : ∃ m', m = m' + 1 := ⟨m - 1, by omega⟩
      rw [LX8_common_38_eq, if_neg (nI_m1 (by omega)), g_isUnder hr ht (by omega), ix10 (by omega)]
      by_cases c : j ∈ ups (M.1.2 1) (nI t)
      · rw [if_pos (decide_eq_true c), hi_top (j := j + 1) 10 (by omega) (fun k h3 h4 => by
          have : ¬ k ∈ ups (M.1.2 1) (nI j) := fun z => by
            have := (ups_lt hr (n := j + 1) (by omega) (pre_nI h2) z).1
            omega
          simp [this])]
        show nI j = (if _ then nI j else _)
        rw [if_pos (by
          have : j ∈ ups (M.1.2 1) (nI j) := by rw [ups_nI hr h2]; exact List.mem_cons_self
          simp [this, c])]
      · rw [if_neg (by simp [c]), ih _ m' (by omega) (pre_par hr h2 (by omega)) (by omega)]
        refine hi_cong 10 (fun k _ => ?_)
        rw [ups_nI hr h2]
        by_cases e : k = j
        · subst e; simp [c]
        · simp [e]
theorem g_common {M : MS} (h : RO d O (M.1.2 1)) {s t : Nat} (hs : s < nS (M.1.2 1)) (ht : t < nS (M.1.2 1)) : sX4_lowestOverBoth O (nI s) (nI t) = (LX8_common_38 M (nI s) (nI t) (dnM (nI s) + 1) (nI s)).1 := by
  have h10 := nS_le h.c
  have hp : pre (M.1.2 1) 10 (nI s) := pre_mono (pre_nI hs) (by omega)
  rw [t_common h.tr (nI s) ht _ _ _ (pre_dn h.tr hp).2 (pre_dn h.tr hp).1 (Nat.le_refl _)]
  have hb : ∀ k, k < 32 → sX7_isIn (((sX4_above O (nI s)) ||| (1 <<< (nI s &&& 31))) &&& ((sX4_above O (nI t)) ||| (1 <<< (nI t &&& 31)))) (nI k) = (decide (k ∈ ups (M.1.2 1) (nI s)) && decide (k ∈ ups (M.1.2 1) (nI t))) := by
    intro k hk
    rw [isIn_bt _ hk, b_and, b_set (by omega) hk, b_set (by omega) hk, above_bt h hs hk, above_bt h ht hk, ups_nI h.tr hs, ups_nI h.tr ht]
    rw [Bool.or_comm (decide (k ∈ ups (M.1.2 1) (M.1.2 1 (10 + s)))), Bool.or_comm (decide (k ∈ ups (M.1.2 1) (M.1.2 1 (10 + t))))]
    simp only [List.mem_cons, Bool.decide_or]
  unfold sX4_lowestOverBoth
  have key : ∀ j, j ≤ 10 → LX4_lowestOverBoth_24 O (nI s) (nI t) (j + 1) (nI j - 1) = hiP (fun a => decide (a ∈ ups (M.1.2 1) (nI s)) && decide (a ∈ ups (M.1.2 1) (nI t))) j := by
    intro j
    induction j with
    | zero => intro _; rw [LX4_lowestOverBoth_24_eq]; exact if_pos (by decide)
    | succ j ih =>
      intro hj
      rw [nI_pred, LX4_lowestOverBoth_24_eq, if_neg (nI_pos (by omega)), hb j (by omega), ← Int32.sub_eq_add_neg, ih (by omega)]
      rfl
  exact key 10 (by decide)
end
