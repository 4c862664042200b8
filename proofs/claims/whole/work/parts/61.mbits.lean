/-! math: one bit, counting bits, loops that count -/
theorem b_1 (i : Nat) : bt 1 i = decide (i = 0) := by
  rcases Nat.lt_or_ge i 32 with h | h
  · exact (by decide +kernel : ∀ i, i < 32 → bt 1 i = decide (i = 0)) i h
  · rw [b_big h, decide_eq_false (by omega)]
theorem and_1 (y : Int32) : y &&& 1 = if bt y 0 = true then 1 else 0 := by
  refine b_ext (fun i hi => ?_)
  rw [b_and, b_1]
  by_cases e : i = 0
  · subst e
    cases h : bt y 0
    · simp [b_0]
    · simp [b_1]
  · rw [decide_eq_false e, Bool.and_false]
    split
    · rw [b_1, decide_eq_false e]
    · rw [b_0]
theorem shr_1 (v : Int32) {k : Nat} (hk : k < 32) : (v >>> (nI k &&& 31)) &&& 1 = if bt v k = true then 1 else 0 := by
  rw [and_1, b_sshr k hk v (by omega : 0 < 32), if_pos (by omega : k + 0 < 32)]
  rfl
theorem has_bt (v : Int32) {k : Nat} (hk : k < 32) : sX8_has v (nI k) = bt v k := by
  unfold sX8_has
  rw [shr_1 v hk]
  generalize bt v k = b
  cases b <;> decide
theorem isIn_bt (v : Int32) {k : Nat} (hk : k < 32) : sX7_isIn v (nI k) = bt v k := by
  unfold sX7_isIn
  rw [shr_1 v hk]
  generalize bt v k = b
  cases b <;> decide
theorem isIn_has (v x : Int32) : sX7_isIn v x = sX8_has v x := by
  unfold sX7_isIn sX8_has
  rw [and_1]
  generalize bt (v >>> (x &&& 31)) 0 = b
  cases b <;> decide
theorem b_one {k i : Nat} (hk : k < 32) (hi : i < 32) : bt (1 <<< (nI k &&& 31)) i = decide (i = k) := by
  rw [b_shl k hk 1 hi, b_1]
  by_cases e : i = k
  · subst e; simp
  · by_cases h : k ≤ i
    · have h2 : ¬ i - k = 0 := by omega
      simp [e, h2]
    · simp [e, h]
theorem b_set {v : Int32} {k i : Nat} (hk : k < 32) (hi : i < 32) : bt (v ||| (1 <<< (nI k &&& 31))) i = (bt v i || decide (i = k)) := by
  rw [b_or, b_one hk hi]
theorem b_clr {v : Int32} {k i : Nat} (hk : k < 32) (hi : i < 32) : bt (v &&& ((1 <<< (nI k &&& 31)) ^^^ (-1))) i = (bt v i && !decide (i = k)) := by
  rw [b_and, b_xor, b_one hk hi, b_m1 i hi, Bool.xor_true]
theorem ge4 {i : Nat} (h : i < 4) : ¬ (4 : Int32) ≤ nI i := nI_ge (b := 4) h (by decide)
theorem ge10 {i : Nat} (h : i < 10) : ¬ (10 : Int32) ≤ nI i := nI_ge (b := 10) h (by decide)
theorem ge12 {i : Nat} (h : i < 12) : ¬ (12 : Int32) ≤ nI i := nI_ge (b := 12) h (by decide)
theorem ge24 {i : Nat} (h : i < 24) : ¬ (24 : Int32) ≤ nI i := nI_ge (b := 24) h (by decide)
theorem ge30 {i : Nat} (h : i < 30) : ¬ (30 : Int32) ≤ nI i := nI_ge (b := 30) h (by decide)
theorem ge414 {i : Nat} (h : i < 414) : ¬ (414 : Int32) ≤ nI i := nI_ge (b := 414) h (by decide)
theorem ge5382 {i : Nat} (h : i < 5382) : ¬ (5382 : Int32) ≤ nI i := nI_ge (b := 5382) h (by decide)
/-- a loop that counts -/
theorem cnt_loop {L : Nat → Int32 → Int32 → Int32} {P : Nat → Bool} {m : Nat} (b : Int32)
    (hE : ∀ n a, L (n + 1) a (nI m) = a)
    (hS : ∀ n a i, i < m → L (n + 1) a (nI i) = L n (if P i = true then a + 1 else a) (nI (i + 1))) :
    ∀ n i, i + n = m → L (n + 1) (b + nI (fb_ct P i)) (nI i) = b + nI (fb_ct P m) := by
  intro n
  induction n with
  | zero => intro i hi; have e : i = m := by omega
            subst e; exact hE _ _
  | succ n ih =>
    intro i hi
    rw [hS _ _ _ (by omega), ← ih (i + 1) (by omega), fb_ct_succ]
    congr 1
    cases P i
    · rfl
    · show b + nI (fb_ct P i) + 1 = b + nI (fb_ct P i + 1)
      rw [Int32.add_assoc, nI_1]
theorem upM_nI {m i : Nat} (hm : m < 2 ^ 31) (hi : i < 2 ^ 31) : upM (nI m) (nI i) = m - i := by
  unfold upM
  rw [nI_toInt hm, nI_toInt hi]
  omega
theorem upM_n0 {m : Nat} (hm : m < 2 ^ 31) : upM (nI m) 0 = m := upM_nI (i := 0) hm (by decide)
theorem cnt_all {L : Nat → Int32 → Int32 → Int32} {P : Nat → Bool} {m : Nat} (hm : m < 2 ^ 31)
    (hE : ∀ n a, L (n + 1) a (nI m) = a)
    (hS : ∀ n a i, i < m → L (n + 1) a (nI i) = L n (if P i = true then a + 1 else a) (nI (i + 1))) : L (upM (nI m) 0 + 1) 0 0 = nI (fb_ct P m) := by
  have h := cnt_loop 0 hE hS m 0 (by omega)
  rw [upM_n0 hm]
  rw [Int32.zero_add, Int32.zero_add] at h
  exact h
/-- two loops that do the same -/
theorem two_loops {α β : Type} {L L' : Nat → α → Int32 → β} {m : Nat}
    (hE : ∀ n a, L (n + 1) a (nI m) = L' (n + 1) a (nI m))
    (hS : ∀ n a i, i < m → ∃ a', L (n + 1) a (nI i) = L n a' (nI (i + 1)) ∧ L' (n + 1) a (nI i) = L' n a' (nI (i + 1))) :
    ∀ n i a, i + n = m → L (n + 1) a (nI i) = L' (n + 1) a (nI i) := by
  intro n
  induction n with
  | zero => intro i a hi; have e : i = m := by omega
            subst e; exact hE _ _
  | succ n ih =>
    intro i a hi
    obtain ⟨a', h1, h2⟩ := hS (n + 1) a i (by omega)
    rw [h1, h2]
    exact ih (i + 1) a' (by omega)
theorem ct_more {p : Nat → Bool} {m n : Nat} (h : m ≤ n) (hp : ∀ k, m ≤ k → k < n → p k = false) : fb_ct p n = fb_ct p m := by
  obtain ⟨d, rfl⟩ := Nat.exists_eq_add_of_le h
  rw [fb_ct_split, fb_ct_zero.mpr (fun k hk => hp (m + k) (by omega) (by omega))]
  rfl
theorem many_eq (v : Int32) : sX8_many v = nI (fb_ct (bt v) 30) := by
  unfold sX8_many
  refine cnt_all (L := LX8_many_4 v) (m := 30) (by decide) (fun n a => ?_) (fun n a i hi => ?_)
  · rw [LX8_many_4_eq]; exact if_pos (by decide)
  · rw [LX8_many_4_eq, if_neg (ge30 hi), shr_1 v (by omega), nI_1]
    cases bt v i
    · exact congrArg (fun z => LX8_many_4 v n z (nI (i + 1))) (Int32.add_zero a)
    · rfl
/-! the JDK's count of bits: byte by byte -/
def bA (M n : Nat) : Nat := n - (n / 2 &&& M)
def bB (M n : Nat) : Nat := (n &&& M) + (n / 4 &&& M)
def bC (M n : Nat) : Nat := (n + n / 16) &&& M
theorem and_by (a b : Nat) : a &&& b = 256 * (a / 256 &&& b / 256) + (a % 256 &&& b % 256) := by
  have h1 : (a &&& b) / 2 ^ 8 = a / 2 ^ 8 &&& b / 2 ^ 8 := Nat.and_div_two_pow
  have h2 : (a &&& b) % 2 ^ 8 = (a % 2 ^ 8) &&& (b % 2 ^ 8) := Nat.and_mod_two_pow
  have h3 : (2 : Nat) ^ 8 = 256 := by decide
  rw [h3] at h1 h2
  rw [← h1, ← h2]
  omega
theorem by_A : ∀ q, q < 2 → ∀ l, l < 256 → (128 * q + l / 2) &&& 85 = l / 2 &&& 85 := by decide +kernel
theorem by_A2 : ∀ l, l < 256 → (l / 2 &&& 85) ≤ l ∧ (l - (l / 2 &&& 85)) < 256 := by decide +kernel
theorem bA_by {M n : Nat} (hM : M % 256 = 85) : bA M n = 256 * bA (M / 256) (n / 256) + bA 85 (n % 256) := by
  unfold bA
  have e := and_by (n / 2) M
  rw [hM] at e
  have e1 : n / 2 / 256 = n / 256 / 2 := by omega
  have e2 : n / 2 % 256 = 128 * (n / 256 % 2) + n % 256 / 2 := by omega
  rw [e1, e2, by_A _ (by omega) _ (by omega)] at e
  rw [e]
  have h1 := (by_A2 (n % 256) (by omega)).1
  have h2 : (n / 256 / 2 &&& M / 256) ≤ n / 256 / 2 := Nat.and_le_left
  omega
theorem by_B : ∀ q, q < 4 → ∀ l, l < 256 → (64 * q + l / 4) &&& 51 = l / 4 &&& 51 := by decide +kernel
theorem by_B2 : ∀ l, l < 256 → (l &&& 51) + (l / 4 &&& 51) < 256 := by decide +kernel
theorem bB_by {M n : Nat} (hM : M % 256 = 51) : bB M n = 256 * bB (M / 256) (n / 256) + bB 51 (n % 256) := by
  unfold bB
  have e := and_by (n / 4) M
  have e0 := and_by n M
  rw [hM] at e e0
  have e1 : n / 4 / 256 = n / 256 / 4 := by omega
  have e2 : n / 4 % 256 = 64 * (n / 256 % 4) + n % 256 / 4 := by omega
  rw [e1, e2, by_B _ (by omega) _ (by omega)] at e
  rw [e, e0]
  omega
theorem by_C : ∀ q, q < 16 → ∀ l, l < 256 → l % 16 ≤ 4 → l / 16 ≤ 4 → (l + (16 * q + l / 16)) % 256 &&& 15 = (l + l / 16) &&& 15 := by decide +kernel
theorem bC_by {M n : Nat} (hM : M % 256 = 15) (h1 : n % 256 % 16 ≤ 4) (h2 : n % 256 / 16 ≤ 4) (h3 : n / 256 % 16 ≤ 4) : bC M n = 256 * bC (M / 256) (n / 256) + bC 15 (n % 256) := by
  unfold bC
  have e := and_by (n + n / 16) M
  rw [hM] at e
  have e1 : (n + n / 16) / 256 = n / 256 + n / 256 / 16 := by omega
  have e2 : (n + n / 16) % 256 = (n % 256 + (16 * (n / 256 % 16) + n % 256 / 16)) % 256 := by omega
  rw [e1, e2, by_C _ (by omega) _ (by omega) h1 h2] at e
  exact e
def bP (l : Nat) : Nat := bC 15 (bB 51 (bA 85 l))
theorem bP_le : ∀ l, l < 256 → bP l ≤ 8 ∧ bP l = fb_ct (fun k => l.testBit k) 8 := by decide +kernel
theorem bAB_n : ∀ l, l < 256 → bB 51 (bA 85 l) < 256 ∧ bB 51 (bA 85 l) % 16 ≤ 4 ∧ bB 51 (bA 85 l) / 16 ≤ 4 := by decide +kernel
theorem bA_lt : ∀ l, l < 256 → bA 85 l < 256 := by decide +kernel
theorem bAB_by {M N n : Nat} (hM : M % 256 = 85) (hN : N % 256 = 51) : bB N (bA M n) = 256 * bB (N / 256) (bA (M / 256) (n / 256)) + bB 51 (bA 85 (n % 256)) := by
  have h := bA_lt (n % 256) (by omega)
  have e := bA_by (n := n) hM
  have e1 : bA M n / 256 = bA (M / 256) (n / 256) := by omega
  have e2 : bA M n % 256 = bA 85 (n % 256) := by omega
  rw [bB_by hN, e1, e2]
/-- three bytes -/
theorem bABC_3 {n : Nat} (hn : n < 16777216) : bC 252645135 (bB 858993459 (bA 1431655765 n)) = bP (n % 256) + 256 * bP (n / 256 % 256) + 65536 * bP (n / 65536) := by
  have z : ∀ M N K, bC M (bB N (bA K 0)) = 0 := fun M N K => by simp [bA, bB, bC]
  have c0 : n / 256 / 256 = n / 65536 := by omega
  have g0 := bAB_n (n % 256) (by omega)
  have g1 := bAB_n (n / 256 % 256) (by omega)
  have g2 := bAB_n (n / 65536) (by omega)
  have w0 := bAB_by (M := 1431655765) (N := 858993459) (n := n) (by decide) (by decide)
  have w1 := bAB_by (M := 1431655765 / 256) (N := 858993459 / 256) (n := n / 256) (by decide) (by decide)
  have w2 := bAB_by (M := 1431655765 / 256 / 256) (N := 858993459 / 256 / 256) (n := n / 65536) (by decide) (by decide)
  have c2 : n / 65536 % 256 = n / 65536 := by omega
  have c3 : n / 65536 / 256 = 0 := by omega
  rw [c0] at w1
  rw [c2, c3] at w2
  have z2 : ∀ N K, bB N (bA K 0) = 0 := fun N K => by simp [bA, bB]
  rw [z2] at w2
  have a0 : bB 858993459 (bA 1431655765 n) % 256 = bB 51 (bA 85 (n % 256)) := by omega
  have a1 : bB 858993459 (bA 1431655765 n) / 256 = bB (858993459 / 256) (bA (1431655765 / 256) (n / 256)) := by omega
  have b0 : bB (858993459 / 256) (bA (1431655765 / 256) (n / 256)) % 256 = bB 51 (bA 85 (n / 256 % 256)) := by omega
  have b1 : bB (858993459 / 256) (bA (1431655765 / 256) (n / 256)) / 256 = bB (858993459 / 256 / 256) (bA (1431655765 / 256 / 256) (n / 65536)) := by omega
  have d0 : bB (858993459 / 256 / 256) (bA (1431655765 / 256 / 256) (n / 65536)) = bB 51 (bA 85 (n / 65536)) := by omega
  rw [bC_by (by decide) (by rw [a0]; exact g0.2.1) (by rw [a0]; exact g0.2.2) (by rw [a1]; omega), a0, a1,
    bC_by (M := 252645135 / 256) (by decide) (by rw [b0]; exact g1.2.1) (by rw [b0]; exact g1.2.2) (by rw [b1, d0]; omega), b0, b1, d0,
    bC_by (M := 252645135 / 256 / 256) (by decide) (by omega) (by omega) (by omega)]
  have e5 : bB 51 (bA 85 (n / 65536)) / 256 = 0 := by omega
  have e6 : bB 51 (bA 85 (n / 65536)) % 256 = bB 51 (bA 85 (n / 65536)) := by omega
  have e7 : ∀ K, bC K 0 = 0 := fun K => by simp [bC]
  rw [e5, e6, e7]
  unfold bP
  omega
theorem ush_n {n k p : Nat} (hn : n < 2 ^ 32) (hk : (((nI k).toUInt32 &&& Int32.toUInt32 31).toBitVec % 32).toNat = k) (hp : 2 ^ k = p) : ((nI n).toUInt32 >>> ((nI k).toUInt32 &&& Int32.toUInt32 31)).toInt32 = nI (n / p) := by
  rw [pk_ushrN hn (nI k) k hk, hp]
theorem nI_and (a b : Nat) : nI a &&& nI b = nI (a &&& b) := by
  apply Int32.toBitVec_inj.mp
  rw [Int32.toBitVec_and]
  show BitVec.ofNat 32 a &&& BitVec.ofNat 32 b = BitVec.ofNat 32 (a &&& b)
  apply BitVec.eq_of_toNat_eq
  rw [BitVec.toNat_and, BitVec.toNat_ofNat, BitVec.toNat_ofNat, BitVec.toNat_ofNat, Nat.and_mod_two_pow]
theorem bitCount_n {n : Nat} (hn : n < 16777216) : sJ6_bitCount_0f7a4 (nI n) = nI (bP (n % 256) + bP (n / 256 % 256) + bP (n / 65536)) := by
  have p0 := (bP_le (n % 256) (by omega)).1
  have p1 := (bP_le (n / 256 % 256) (by omega)).1
  have p2 := (bP_le (n / 65536) (by omega)).1
  have key := bABC_3 hn
  have hA : bA 1431655765 n ≤ n := Nat.sub_le _ _
  have hB : bB 858993459 (bA 1431655765 n) ≤ 2 * n := by
    unfold bB
    have h1 : (bA 1431655765 n &&& 858993459) ≤ bA 1431655765 n := Nat.and_le_left
    have h2 : (bA 1431655765 n / 4 &&& 858993459) ≤ bA 1431655765 n / 4 := Nat.and_le_left
    omega
  have s1 : nI n - (((nI n).toUInt32 >>> ((1 : Int32).toUInt32 &&& Int32.toUInt32 31)).toInt32 &&& 1431655765) = nI (bA 1431655765 n) := by
    have e := ush_n (n := n) (k := 1) (p := 2) (by omega) (by decide +kernel) (by decide)
    have e2 : (((nI n).toUInt32 >>> ((1 : Int32).toUInt32 &&& Int32.toUInt32 31)).toInt32 &&& 1431655765) = nI (n / 2 &&& 1431655765) := by
      rw [← nI_and, ← e]; rfl
    rw [e2, pk_sub (Nat.le_trans Nat.and_le_left (Nat.div_le_self _ _))]
    rfl
  have s2 : ∀ a, a < 2 ^ 31 → (nI a &&& 858993459) + (((nI a).toUInt32 >>> ((2 : Int32).toUInt32 &&& Int32.toUInt32 31)).toInt32 &&& 858993459) = nI (bB 858993459 a) := fun a ha => by
    have e := ush_n (n := a) (k := 2) (p := 4) (by omega) (by decide +kernel) (by decide)
    unfold bB
    rw [← nI_add, ← nI_and, ← nI_and, ← e]; rfl
  have s3 : ∀ a, a < 2 ^ 31 → ((nI a + ((nI a).toUInt32 >>> ((4 : Int32).toUInt32 &&& Int32.toUInt32 31)).toInt32) &&& 252645135) = nI (bC 252645135 a) := fun a ha => by
    have e := ush_n (n := a) (k := 4) (p := 16) (by omega) (by decide +kernel) (by decide)
    unfold bC
    rw [← nI_and, ← nI_add, ← e]; rfl
  have s4 : ∀ a, a < 2 ^ 31 → nI a + ((nI a).toUInt32 >>> ((8 : Int32).toUInt32 &&& Int32.toUInt32 31)).toInt32 = nI (a + a / 256) := fun a ha => by
    have e := ush_n (n := a) (k := 8) (p := 256) (by omega) (by decide +kernel) (by decide)
    rw [← nI_add, ← e]; rfl
  have s5 : ∀ a, a < 2 ^ 31 → nI a + ((nI a).toUInt32 >>> ((16 : Int32).toUInt32 &&& Int32.toUInt32 31)).toInt32 = nI (a + a / 65536) := fun a ha => by
    have e := ush_n (n := a) (k := 16) (p := 65536) (by omega) (by decide +kernel) (by decide)
    rw [← nI_add, ← e]; rfl
  unfold sJ6_bitCount_0f7a4
  rw [s1, s2 _ (by omega), s3 _ (by omega), key, s4 _ (by omega), s5 _ (by omega)]
  generalize bP (n % 256) = x0 at *
  generalize bP (n / 256 % 256) = x1 at *
  generalize bP (n / 65536) = x2 at *
  have e : ∀ a : Nat, nI a &&& 63 = nI (a % 64) := fun a => by
    have h := nI_and a 63
    have h2 : a &&& 63 = a % 64 := Nat.and_two_pow_sub_one_eq_mod a 6
    rw [h2] at h
    exact h
  rw [e]
  have h1 : (x0 + 256 * x1 + 65536 * x2) / 256 = x1 + 256 * x2 := by omega
  have h2 : (x0 + 256 * x1 + 65536 * x2 + (x1 + 256 * x2)) / 65536 = x2 := by omega
  rw [h1, h2]
  exact congrArg nI (by omega)
theorem bt_nI {n : Nat} (hn : n < 2 ^ 32) (k : Nat) : bt (nI n) k = n.testBit k := by
  unfold bt
  show (BitVec.ofNat 32 n).getLsbD k = _
  rw [BitVec.getLsbD_ofNat]
  rcases Nat.lt_or_ge k 32 with h | h
  · simp [h]
  · have : n.testBit k = false := Nat.testBit_lt_two_pow (Nat.lt_of_lt_of_le hn (Nat.pow_le_pow_right (by decide) h))
    simp [this]
theorem nI_self (v : Int32) : v = nI v.toBitVec.toNat := Int32.toBitVec_inj.mp (by show _ = BitVec.ofNat 32 _; simp)
theorem lt_of_bits {v : Int32} {N : Nat} (hN : N ≤ 32) (h : ∀ i, i < 32 → bt v i = true → i < N) : v.toBitVec.toNat < 2 ^ N := by
  refine Nat.lt_pow_two_of_testBit _ (fun i hi => ?_)
  rcases Nat.lt_or_ge i 32 with h1 | h1
  · cases e : v.toBitVec.toNat.testBit i
    · rfl
    · have := h i h1 e
      omega
  · exact Nat.testBit_lt_two_pow (Nat.lt_of_lt_of_le v.toBitVec.isLt (Nat.pow_le_pow_right (by decide) h1))
theorem bc_eq {v : Int32} (h : ∀ i, i < 32 → bt v i = true → i < 24) : sJ6_bitCount_0f7a4 v = nI (fb_ct (bt v) 24) := by
  have hn := lt_of_bits (N := 24) (by decide) h
  rw [nI_self v]
  generalize v.toBitVec.toNat = n at hn
  have hn : n < 16777216 := hn
  rw [bitCount_n hn]
  refine congrArg nI ?_
  have e : fb_ct (bt (nI n)) 24 = fb_ct (fun k => n.testBit k) 24 := fb_ct_cong (fun k _ => bt_nI (by omega) k)
  have s1 := fb_ct_split (fun k => n.testBit k) 8 16
  have s2 := fb_ct_split (fun k => n.testBit (8 + k)) 8 8
  have q0 := (bP_le (n % 256) (by omega)).2
  have q1 := (bP_le (n / 256 % 256) (by omega)).2
  have q2 := (bP_le (n / 65536) (by omega)).2
  have r0 : fb_ct (fun k => n.testBit k) 8 = fb_ct (fun k => (n % 256).testBit k) 8 := fb_ct_cong (fun k hk => by
    have := Nat.testBit_mod_two_pow n 8 k
    show _ = (n % 2 ^ 8).testBit k
    rw [this]; simp [hk])
  have r1 : fb_ct (fun k => n.testBit (8 + k)) 8 = fb_ct (fun k => (n / 256 % 256).testBit k) 8 := fb_ct_cong (fun k hk => by
    have := Nat.testBit_mod_two_pow (n / 256) 8 k
    have h2 := Nat.testBit_div_two_pow (n := 8) n k
    show _ = (n / 256 % 2 ^ 8).testBit k
    rw [this, show n / 256 = n / 2 ^ 8 from rfl, h2, Nat.add_comm k 8]; simp [hk])
  have r2 : fb_ct (fun k => n.testBit (8 + (8 + k))) 8 = fb_ct (fun k => (n / 65536).testBit k) 8 := fb_ct_cong (fun k hk => by
    have h2 := Nat.testBit_div_two_pow (n := 16) n k
    rw [show n / 65536 = n / 2 ^ 16 from rfl, h2]
    exact congrArg n.testBit (by omega))
  rw [e, s1, s2, r0, r1, r2, ← q0, ← q1, ← q2]
  omega
/-- the two counts of bits -/
theorem bc_many {v : Int32} (h : ∀ i, i < 32 → bt v i = true → i < 24) : sJ6_bitCount_0f7a4 v = sX8_many v := by
  rw [bc_eq h, many_eq, ct_more (m := 24) (n := 30) (by decide) (fun k h1 h2 => by
    cases e : bt v k
    · rfl
    · have := h k (by omega) e
      omega)]
