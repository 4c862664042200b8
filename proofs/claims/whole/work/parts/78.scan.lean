/-! math: the text, sign by sign -/
def tch (n : Nat) (f : Nat → Int32) (i : Nat) : Int32 := if i < n then f i else -1
def TOK (n : Nat) (f : Nat → Int32) : Prop := n ≤ 120 ∧ ∀ i, i < n → 0 ≤ (f i).toInt ∧ (f i).toInt ≤ 255
def CT (n : Nat) (f : Nat → Int32) (T : OF) : Prop := T.1 0 = nI n ∧ ∀ i, i < n → T.2 2 i = f i
def CR (n : Nat) (f : Nat → Int32) (M : MS) : Prop := M.1.1 2 = nI n ∧ ∀ i, i < n → M.1.2 7 i = f i
def dv (n : Nat) (f : Nat → Int32) (i : Nat) : Int := (tch n f i).toInt - 48
def gM (M : MS) (a : Nat) : MS := msS (msG M true) 3 (nI a)
def bM (M : MS) (a : Nat) : MS := msS (msG M false) 3 (nI a)
def nok (n : Nat) (f : Nat → Int32) (lo hi : Int) (a : Nat) : Prop := 0 ≤ dv n f a ∧ dv n f a ≤ 9 ∧ lo ≤ dv n f a ∧ dv n f a ≤ hi
def nmore (n : Nat) (f : Nat → Int32) (hi : Int) (a : Nat) : Prop := 0 ≤ dv n f (a + 1) ∧ dv n f (a + 1) ≤ 9 ∧ dv n f a ≠ 0 ∧ 10 * dv n f a + dv n f (a + 1) ≤ hi
noncomputable def nval (n : Nat) (f : Nat → Int32) (hi : Int) (a : Nat) : Nat := if 0 ≤ dv n f (a + 1) ∧ dv n f (a + 1) ≤ 9 ∧ dv n f a ≠ 0 ∧ 10 * dv n f a + dv n f (a + 1) ≤ hi then (10 * dv n f a + dv n f (a + 1)).toNat else (dv n f a).toNat
noncomputable def nend (n : Nat) (f : Nat → Int32) (hi : Int) (a : Nat) : Nat := if 0 ≤ dv n f (a + 1) ∧ dv n f (a + 1) ≤ 9 ∧ dv n f a ≠ 0 ∧ 10 * dv n f a + dv n f (a + 1) ≤ hi then a + 2 else a + 1
section
variable {n : Nat} {f : Nat → Int32} (hF : TOK n f)
theorem tch_in (hF : TOK n f) (i : Nat) : -1 ≤ (tch n f i).toInt ∧ (tch n f i).toInt ≤ 255 := by
  unfold tch
  by_cases c : i < n
  · rw [if_pos c]
    have := hF.2 i c
    omega
  · rw [if_neg c]
    decide
theorem tch_lt {i : Nat} (h : 0 ≤ (tch n f i).toInt) : i < n := by
  unfold tch at h
  by_cases c : i < n
  · exact c
  · rw [if_neg c] at h
    exact absurd h (by decide)
theorem dv_lt {i : Nat} (h : 0 ≤ dv n f i) : i < n := tch_lt (n := n) (f := f) (by unfold dv at h; omega)
theorem sign_e (hF : TOK n f) {T : OF} (hT : CT n f T) {i : Nat} (hi : i < 1000) : sX2_signAt T (nI i) = tch n f i := by
  have h120 := hF.1
  unfold sX2_signAt tch
  rw [hT.1, if_neg (nI_pos (by omega))]
  by_cases c : i < n
  · rw [if_neg (nI_ge c (by omega)), if_neg (show ¬ (120 : Int32) ≤ nI i from nI_ge (b := 120) (by omega) (by decide)), if_pos c, ixN hi]
    exact hT.2 i c
  · rw [if_pos (nI_le (by omega) (by omega)), if_neg c]
theorem here_e (hF : TOK n f) {M : MS} (hM : CR n f M) {a : Nat} (ha : a < 1000) (h3 : M.1.1 3 = nI a) : sX8_here M = tch n f a := by
  have h120 := hF.1
  unfold sX8_here tch
  rw [hM.1, h3]
  by_cases c : a < n
  · rw [if_neg (nI_ge c (by omega)), if_pos c, ixN ha]
    exact hM.2 a c
  · rw [if_pos (nI_le (by omega) (by omega)), if_neg c]
theorem gM_at (M : MS) (a : Nat) : (gM M a).1.1 3 = nI a := rfl
theorem bM_at (M : MS) (a : Nat) : (bM M a).1.1 3 = nI a := rfl
theorem gM_c {M : MS} (hM : CR n f M) (a : Nat) : CR n f (gM M a) := hM
theorem bM_c {M : MS} (hM : CR n f M) (a : Nat) : CR n f (bM M a) := hM
theorem gM_gM (M : MS) (a b : Nat) : gM (gM M a) b = gM M b := by
  show ((upd (upd M.1.1 3 (nI a)) 3 (nI b), M.1.2), true) = _
  rw [upd_tw]
  rfl
theorem bM_gM (M : MS) (a b : Nat) : bM (gM M a) b = bM M b := by
  show ((upd (upd M.1.1 3 (nI a)) 3 (nI b), M.1.2), false) = _
  rw [upd_tw]
  rfl
theorem gM_id {M : MS} {a : Nat} (hg : M.2 = true) (h3 : M.1.1 3 = nI a) : gM M a = M := by
  show ((upd M.1.1 3 (nI a), M.1.2), true) = M
  rw [← h3, upd_id, ← hg]
theorem bM_id {M : MS} {a : Nat} (hg : M.2 = false) (h3 : M.1.1 3 = nI a) : bM M a = M := by
  show ((upd M.1.1 3 (nI a), M.1.2), false) = M
  rw [← h3, upd_id, ← hg]
/-- what a taken or refused sign does -/
theorem take_g (M : MS) (a : Nat) (b : Bool) : sX8_take (gM M a) b = if b = true then gM M (a + 1) else bM M a := by
  cases b
  · show msS (msG (gM M a) false) 3 ((nI a) + 0) = bM M a
    rw [Int32.add_zero]
    exact bM_gM M a a
  · show msS (msG (gM M a) true) 3 ((nI a) + 1) = gM M (a + 1)
    rw [nI_1]
    exact gM_gM M a (a + 1)
theorem take_b {N : MS} (h : N.2 = false) (b : Bool) : sX8_take N b = N := by
  have e : sX8_take N b = msS (msG N false) 3 (N.1.1 3 + 0) := by
    unfold sX8_take
    rw [h]
    rfl
  rw [e, Int32.add_zero]
  show ((upd N.1.1 3 (N.1.1 3), N.1.2), false) = N
  rw [upd_id, ← h]
theorem digit_b {N : MS} (h : N.2 = false) (p q : Int32) : sX8_digit N p q = (0, N) := by
  unfold sX8_digit
  rw [take_b h, h]
  rfl
theorem number_b {N : MS} (h : N.2 = false) (p q : Int32) : sX8_number N p q = (0, N) := by
  unfold sX8_number
  rw [digit_b h, h]
  rfl
theorem end_b {N : MS} (h : N.2 = false) : sX8_end N = (false, N) := by
  unfold sX8_end
  rw [h]
  show (false, (N.1, false)) = (false, N)
  rw [← h]
theorem goes_b {N : MS} (h : N.2 = false) (p : Bool) : sX8_goes N p = (false, N) := by
  unfold sX8_goes
  rw [h]
  show (false, ((upd N.1.1 5 (N.1.1 5 + 0), N.1.2), N.2)) = (false, N)
  rw [Int32.add_zero, upd_id]
theorem sub48 (hF : TOK n f) (i : Nat) : (tch n f i - 48).toInt = dv n f i := by
  have h := tch_in hF i
  unfold dv
  have z : (48 : Int32).toInt = 48 := rfl
  rw [fb_subI (by omega) (by omega)]
  omega
theorem dig_in (hF : TOK n f) (i : Nat) {lo hi : Int32} : sX8_in ((tch n f i - 48).toInt64) lo.toInt64 hi.toInt64 = true ↔ lo.toInt ≤ dv n f i ∧ dv n f i ≤ hi.toInt := by
  rw [in_iff32, Int32.toInt_toInt64, Int32.toInt_toInt64, sub48 hF]
theorem dig_n (hF : TOK n f) {i : Nat} (h : 0 ≤ dv n f i) : tch n f i - 48 = nI (dv n f i).toNat := i_of (by rw [sub48 hF]; omega)
theorem digit_g (hF : TOK n f) {M : MS} (hM : CR n f M) {a : Nat} (ha : a < 1000) {lo hi : Nat} (hlo : lo < 100) (hhi : hi ≤ 9) : sX8_digit (gM M a) (nI lo) (nI hi) = if (lo : Int) ≤ dv n f a ∧ dv n f a ≤ hi then (nI (dv n f a).toNat, gM M (a + 1)) else (0, bM M a) := by
  have eh : sX8_here (gM M a) = tch n f a := here_e hF (gM_c hM a) ha (gM_at M a)
  have el : (nI lo).toInt = (lo : Int) := nI_toInt (by omega)
  have eu : (nI hi).toInt = (hi : Int) := nI_toInt (by omega)
  unfold sX8_digit
  rw [eh, take_g]
  by_cases c : (lo : Int) ≤ dv n f a ∧ dv n f a ≤ hi
  · have c2 : sX8_in ((tch n f a - 48).toInt64) (nI lo).toInt64 (nI hi).toInt64 = true := (dig_in hF a).mpr (by rw [el, eu]; exact c)
    rw [c2, if_pos rfl, if_pos c, dig_n hF (by omega)]
    rfl
  · have c2 : sX8_in ((tch n f a - 48).toInt64) (nI lo).toInt64 (nI hi).toInt64 = false := by
      cases e : sX8_in ((tch n f a - 48).toInt64) (nI lo).toInt64 (nI hi).toInt64
      · rfl
      · have := (dig_in hF a).mp e
        rw [el, eu] at this
        exact absurd this c
    rw [c2, if_neg (show ¬ false = true by decide), if_neg c]
    rfl
theorem digit_n (hF : TOK n f) {M : MS} (hM : CR n f M) {a : Nat} (ha : a < 1000) {lo hi : Nat} (hlo : lo < 100) (hhi : hi ≤ 9) : (nok n f lo hi a → sX8_digit (gM M a) (nI lo) (nI hi) = (nI (nval n f hi a), gM M (nend n f hi a))) ∧ (¬ nok n f lo hi a → sX8_digit (gM M a) (nI lo) (nI hi) = (0, bM M a)) := by
  rw [digit_g hF hM ha hlo hhi]
  constructor
  · intro ⟨c1, c2, c3, c4⟩
    have cm : ¬ (0 ≤ dv n f (a + 1) ∧ dv n f (a + 1) ≤ 9 ∧ dv n f a ≠ 0 ∧ 10 * dv n f a + dv n f (a + 1) ≤ (hi : Int)) := fun q => by omega
    unfold nval nend
    rw [if_pos ⟨c3, c4⟩, if_neg cm, if_neg cm]
  · intro c
    rw [if_neg (fun q => c ⟨by omega, by omega, q.1, q.2⟩)]
theorem number_n (hF : TOK n f) {M : MS} (hM : CR n f M) {a : Nat} (ha : a < 900) {lo hi : Nat} (hlo : lo < 100) (hhi : 9 ≤ hi) (hhi2 : hi < 100) : (nok n f lo hi a → sX8_number (gM M a) (nI lo) (nI hi) = (nI (nval n f hi a), gM M (nend n f hi a))) ∧ (¬ nok n f lo hi a → sX8_number (gM M a) (nI lo) (nI hi) = (0, bM M a)) := by
  have hd := digit_g hF hM (a := a) (by omega) hlo (hi := 9) (by omega)
  have hd : sX8_digit (gM M a) (nI lo) 9 = _ := hd
  constructor
  · intro ⟨c1, c2, c3, c4⟩
    rw [if_pos ⟨c3, by omega⟩] at hd
    have hd2 := digit_g hF hM (a := a + 1) (by omega) (lo := 0) (hi := 9) (by omega) (by omega)
    have hd2 : sX8_digit (gM M (a + 1)) 0 9 = _ := hd2
    have eh : sX8_here (gM M (a + 1)) = tch n f (a + 1) := here_e hF (gM_c hM _) (by omega) (gM_at M _)
    have t1 := tch_in hF (a + 1)
    have z48 : (48 : Int64).toInt = 48 := rfl
    have z57 : (57 : Int64).toInt = 57 := rfl
    have z0 : ((0 : Nat) : Int) = 0 := rfl
    have ev : (nI (dv n f a).toNat).toInt = dv n f a := by rw [nI_toInt (by omega)]; omega
    unfold sX8_number
    rw [hd]
    dsimp only
    rw [show (gM M (a + 1)).2 = true from rfl, if_pos rfl, eh]
    by_cases cz : dv n f a = 0
    · have cm : ¬ (0 ≤ dv n f (a + 1) ∧ dv n f (a + 1) ≤ 9 ∧ dv n f a ≠ 0 ∧ 10 * dv n f a + dv n f (a + 1) ≤ (hi : Int)) := fun q => q.2.2.1 cz
      rw [if_pos (show nI (dv n f a).toNat ≤ 0 from i32_le.mpr (by rw [ev, cz]; decide)), if_neg (by decide)]
      unfold nval nend
      rw [if_neg cm, if_neg cm]
    · rw [if_neg (show ¬ nI (dv n f a).toNat ≤ 0 from fun q => by have := i32_le.mp q; rw [ev] at this; have z : (0 : Int32).toInt = 0 := rfl; omega)]
      by_cases c5 : 0 ≤ dv n f (a + 1) ∧ dv n f (a + 1) ≤ 9
      · have c6 : sX8_in ((tch n f (a + 1)).toInt64) 48 57 = true := (in_iff32 _ _ _).mpr (by unfold dv at c5; omega)
        have e10 : (10 * nI (dv n f a).toNat + tch n f (a + 1) - 48).toInt = 10 * dv n f a + dv n f (a + 1) := by
          have m1 : (10 * nI (dv n f a).toNat : Int32).toInt = 10 * dv n f a := by
            rw [fb_mulI (by rw [ev, show (10 : Int32).toInt = 10 from rfl]; omega) (by rw [ev, show (10 : Int32).toInt = 10 from rfl]; omega), ev]
            rfl
          have m2 : (10 * nI (dv n f a).toNat + tch n f (a + 1) : Int32).toInt = 10 * dv n f a + (tch n f (a + 1)).toInt := by rw [fb_addI (by omega) (by omega), m1]
          have m3 : (48 : Int32).toInt = 48 := rfl
          rw [fb_subI (by omega) (by omega), m2, m3]
          unfold dv
          omega
        rw [c6, if_pos rfl, if_pos rfl]
        have eu : (nI hi).toInt = (hi : Int) := nI_toInt (by omega)
        by_cases c7 : 10 * dv n f a + dv n f (a + 1) ≤ (hi : Int)
        · have cm : 0 ≤ dv n f (a + 1) ∧ dv n f (a + 1) ≤ 9 ∧ dv n f a ≠ 0 ∧ 10 * dv n f a + dv n f (a + 1) ≤ (hi : Int) := ⟨c5.1, c5.2, cz, c7⟩
          rw [if_neg (show ¬ nI hi < 10 * nI (dv n f a).toNat + tch n f (a + 1) - 48 from fun q => by have := i32_lt.mp q; rw [e10, eu] at this; omega), hd2, if_pos ⟨by omega, by omega⟩]
          unfold nval nend
          rw [if_pos cm, if_pos cm]
          show (nI 10 * nI _ + nI _, _) = _
          rw [pk_mul, nI_add]
          exact congrArg (fun z => (nI z, gM M (a + 2))) (by omega)
        · have cm : ¬ (0 ≤ dv n f (a + 1) ∧ dv n f (a + 1) ≤ 9 ∧ dv n f a ≠ 0 ∧ 10 * dv n f a + dv n f (a + 1) ≤ (hi : Int)) := fun q => c7 q.2.2.2
          rw [if_pos (show nI hi < 10 * nI (dv n f a).toNat + tch n f (a + 1) - 48 from i32_lt.mpr (by rw [e10, eu]; omega))]
          unfold nval nend
          rw [if_neg cm, if_neg cm]
      · have c6 : sX8_in ((tch n f (a + 1)).toInt64) 48 57 = false := by
          cases e : sX8_in ((tch n f (a + 1)).toInt64) 48 57
          · rfl
          · have := (in_iff32 _ _ _).mp e
            unfold dv at c5
            omega
        have cm : ¬ (0 ≤ dv n f (a + 1) ∧ dv n f (a + 1) ≤ 9 ∧ dv n f a ≠ 0 ∧ 10 * dv n f a + dv n f (a + 1) ≤ (hi : Int)) := fun q => c5 ⟨q.1, q.2.1⟩
        rw [c6, if_neg (show ¬ (if false = true then true else false) = true by decide)]
        unfold nval nend
        rw [if_neg cm, if_neg cm]
  · intro c
    rw [if_neg (fun q => c ⟨by omega, by omega, q.1, by omega⟩)] at hd
    unfold sX8_number
    rw [hd]
    rfl
theorem stS_tw (T : OF) (k : Nat) (x y : Int32) : stS (stS T k x) k y = stS T k y := by
  show (upd (upd T.1 k x) k y, T.2) = _
  rw [upd_tw]
  rfl
/-- the class reads a number -/
theorem rnum_n (hF : TOK n f) {T : OF} (hT : CT n f T) {a : Nat} (ha : a < 900) (hp : T.1 1 = nI a) {lo hi : Nat} (hlo : lo < 100) (hhi2 : hi < 100) : (nok n f lo hi a → sX2_readNumber T (nI lo) (nI hi) = (nI (nval n f hi a), stS T 1 (nI (nend n f hi a)))) ∧ (¬ nok n f lo hi a → sX2_readNumber T (nI lo) (nI hi) = (-1, T)) := by
  have z0 : (0 : Int32).toInt = 0 := rfl
  have z9 : (9 : Int32).toInt = 9 := rfl
  have el : (nI lo).toInt = (lo : Int) := nI_toInt (by omega)
  have eu : (nI hi).toInt = (hi : Int) := nI_toInt (by omega)
  -- a third sign is never taken
  have st3 : ∀ m x4 v O9, 10 ≤ v → v < 100 → (∀ c : Int32, (O9.1 1) = c → ∃ b, b < 1000 ∧ sX2_signAt O9 c = tch n f b) → LX2_readNumber_5 T (nI lo) (nI hi) (m + 1) (nI v) x4 O9 = (nI v, O9) := by
    intro m x4 v O9 hv1 hv2 hs
    obtain ⟨b, hb, es⟩ := hs _ rfl
    rw [LX2_readNumber_5_eq, es]
    by_cases c1 : 120 ≤ x4
    · rw [if_pos c1]
    rw [if_neg c1]
    by_cases c2 : tch n f b - 48 < 0
    · rw [if_pos c2]
    rw [if_neg c2]
    by_cases c3 : 9 < tch n f b - 48
    · rw [if_pos c3]
    have c2' : ¬ dv n f b < 0 := fun q => c2 (i32_lt.mpr (by rw [sub48 hF]; omega))
    have c3' : ¬ 9 < dv n f b := fun q => c3 (i32_lt.mpr (by rw [sub48 hF]; omega))
    have e1 : nI v * 10 + (tch n f b - 48) = nI (v * 10 + (dv n f b).toNat) := by
      rw [dig_n hF (by omega)]
      show nI v * nI 10 + _ = _
      rw [pk_mul, nI_add]
    rw [if_neg c3, if_neg (nI_ne0 (by omega) (by omega)), if_neg (nI_m1 (by omega)), e1]
    by_cases c4 : nI (v * 10 + (dv n f b).toNat) < nI lo
    · rw [if_pos c4]
    · rw [if_neg c4, if_neg (nI_ge (by omega) (by omega))]
  have s0 : sX2_signAt T (nI a) = tch n f a := sign_e hF hT (by omega)
  have hT1 : CT n f (stS T 1 (nI (a + 1))) := hT
  have hT2 : CT n f (stS T 1 (nI (a + 2))) := hT
  have s1 : sX2_signAt (stS T 1 (nI (a + 1))) (nI (a + 1)) = tch n f (a + 1) := sign_e hF hT1 (by omega)
  have hu : upM 120 0 + 1 = 118 + 1 + 1 + 1 := congrArg (· + 1) (upM_n0 (m := 120) (by decide))
  unfold sX2_readNumber
  rw [hu, LX2_readNumber_5_eq, if_neg (show ¬ (120 : Int32) ≤ 0 by decide), hp, s0]
  constructor
  · intro ⟨c1, c2, c3, c4⟩
    have ed := dig_n hF c1
    have hd9 : (dv n f a).toNat < 10 := by omega
    rw [if_neg (show ¬ tch n f a - 48 < 0 from fun q => by have := i32_lt.mp q; rw [sub48 hF] at this; omega), if_neg (show ¬ 9 < tch n f a - 48 from fun q => by have := i32_lt.mp q; rw [sub48 hF] at this; omega), if_neg (show ¬ (-1 : Int32) = 0 by decide), if_pos (show (-1 : Int32) = -1 from rfl), ed, if_neg (show ¬ nI (dv n f a).toNat < nI lo from nI_nlt (by omega) (by omega)), if_pos (show nI (dv n f a).toNat ≤ nI hi from nI_le (by omega) (by omega)), nI_1]
    have e2 : (stS T 1 (nI (a + 1))).1 1 = nI (a + 1) := rfl
    rw [LX2_readNumber_5_eq, if_neg (show ¬ (120 : Int32) ≤ 0 + 1 by decide), e2, s1]
    by_cases c5 : 0 ≤ dv n f (a + 1) ∧ dv n f (a + 1) ≤ 9
    · rw [if_neg (show ¬ tch n f (a + 1) - 48 < 0 from fun q => by have := i32_lt.mp q; rw [sub48 hF] at this; omega), if_neg (show ¬ 9 < tch n f (a + 1) - 48 from fun q => by have := i32_lt.mp q; rw [sub48 hF] at this; omega)]
      by_cases cz : dv n f a = 0
      · have cm : ¬ (0 ≤ dv n f (a + 1) ∧ dv n f (a + 1) ≤ 9 ∧ dv n f a ≠ 0 ∧ 10 * dv n f a + dv n f (a + 1) ≤ (hi : Int)) := fun q => q.2.2.1 cz
        rw [if_pos (show nI (dv n f a).toNat = 0 by rw [cz]; rfl)]
        unfold nval nend
        rw [if_neg cm, if_neg cm]
      · have e1 : nI (dv n f a).toNat * 10 + (tch n f (a + 1) - 48) = nI ((dv n f a).toNat * 10 + (dv n f (a + 1)).toNat) := by
          rw [dig_n hF c5.1]
          show nI _ * nI 10 + _ = _
          rw [pk_mul, nI_add]
        rw [if_neg (nI_ne0 (by omega) (by omega)), if_neg (nI_m1 (by omega)), e1, if_neg (show ¬ nI ((dv n f a).toNat * 10 + (dv n f (a + 1)).toNat) < nI lo from nI_nlt (by omega) (by omega))]
        by_cases c7 : 10 * dv n f a + dv n f (a + 1) ≤ (hi : Int)
        · have cm : 0 ≤ dv n f (a + 1) ∧ dv n f (a + 1) ≤ 9 ∧ dv n f a ≠ 0 ∧ 10 * dv n f a + dv n f (a + 1) ≤ (hi : Int) := ⟨c5.1, c5.2, cz, c7⟩
          rw [if_pos (nI_le (by omega) (by omega)), nI_1, stS_tw, st3 _ _ _ _ (by omega) (by omega) (fun c hc => ⟨a + 2, by omega, by rw [← hc]; exact sign_e hF hT2 (by omega)⟩)]
          unfold nval nend
          rw [if_pos cm, if_pos cm]
          exact congrArg (fun z => (nI z, stS T 1 (nI (a + 2)))) (by omega)
        · have cm : ¬ (0 ≤ dv n f (a + 1) ∧ dv n f (a + 1) ≤ 9 ∧ dv n f a ≠ 0 ∧ 10 * dv n f a + dv n f (a + 1) ≤ (hi : Int)) := fun q => c7 q.2.2.2
          rw [if_neg (nI_ge (by omega) (by omega))]
          unfold nval nend
          rw [if_neg cm, if_neg cm]
    · have cm : ¬ (0 ≤ dv n f (a + 1) ∧ dv n f (a + 1) ≤ 9 ∧ dv n f a ≠ 0 ∧ 10 * dv n f a + dv n f (a + 1) ≤ (hi : Int)) := fun q => c5 ⟨q.1, q.2.1⟩
      unfold nval nend
      rw [if_neg cm, if_neg cm]
      by_cases c6 : tch n f (a + 1) - 48 < 0
      · rw [if_pos c6]
      · rw [if_neg c6, if_pos (show 9 < tch n f (a + 1) - 48 from i32_lt.mpr (by
          have : ¬ (tch n f (a + 1) - 48).toInt < (0 : Int32).toInt := fun q => c6 (i32_lt.mpr q)
          rw [sub48 hF] at this ⊢
          omega))]
  · intro c
    by_cases c1 : tch n f a - 48 < 0
    · rw [if_pos c1]
    rw [if_neg c1]
    by_cases c2 : 9 < tch n f a - 48
    · rw [if_pos c2]
    have c1' : ¬ dv n f a < 0 := fun q => c1 (i32_lt.mpr (by rw [sub48 hF]; omega))
    have c2' : ¬ 9 < dv n f a := fun q => c2 (i32_lt.mpr (by rw [sub48 hF]; omega))
    have ed := dig_n hF (i := a) (by omega)
    rw [if_neg c2, if_neg (show ¬ (-1 : Int32) = 0 by decide), if_pos (show (-1 : Int32) = -1 from rfl), ed]
    by_cases c3 : (lo : Int) ≤ dv n f a
    · rw [if_neg (show ¬ nI (dv n f a).toNat < nI lo from nI_nlt (by omega) (by omega)), if_neg (nI_ge (by
        have : ¬ dv n f a ≤ (hi : Int) := fun q => c ⟨by omega, by omega, c3, q⟩
        omega) (by omega))]
    · rw [if_pos (nI_lt (by omega) (by omega))]
theorem nval_in {lo hi : Nat} {a : Nat} (h : nok n f lo hi a) : lo ≤ nval n f hi a ∧ nval n f hi a ≤ hi ∧ a + 1 ≤ nend n f hi a ∧ nend n f hi a ≤ n := by
  obtain ⟨c1, c2, c3, c4⟩ := h
  have h1 := dv_lt c1
  unfold nval nend
  by_cases cm : 0 ≤ dv n f (a + 1) ∧ dv n f (a + 1) ≤ 9 ∧ dv n f a ≠ 0 ∧ 10 * dv n f a + dv n f (a + 1) ≤ (hi : Int)
  · have h2 := dv_lt cm.1
    rw [if_pos cm, if_pos cm]
    omega
  · rw [if_neg cm, if_neg cm]
    omega
theorem rsign_n (hF : TOK n f) {T : OF} (hT : CT n f T) {a : Nat} (ha : a < 900) (hp : T.1 1 = nI a) (c : Int32) : sX2_readSign T c = if tch n f a = c then (true, stS T 1 (nI (a + 1))) else (false, T) := by
  unfold sX2_readSign
  rw [hp, sign_e hF hT (by omega), nI_1]
theorem take_n (hF : TOK n f) {M : MS} (hM : CR n f M) {a : Nat} (ha : a < 900) (c : Int32) : sX8_take (gM M a) (if sX8_here (gM M a) = c then true else false) = if tch n f a = c then gM M (a + 1) else bM M a := by
  rw [here_e hF (gM_c hM a) (by omega) (gM_at M a), take_g]
  by_cases h : tch n f a = c
  · rw [if_pos h, if_pos h, if_pos rfl]
  · rw [if_neg h, if_neg h, if_neg (by decide)]
end
