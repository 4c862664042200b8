/-! math: scripts and simulations (the wb_ rows are pasted) -/
theorem wb_tb (n : Nat) : (lN n).toBitVec = BitVec.ofNat 64 n := rfl
theorem wb_inj {a b : Int64} (h : a.toBitVec = b.toBitVec) : a = b := Int64.toBitVec_inj.mp h
theorem wb_tn {n : Nat} (h : n < 2 ^ 64) : (lN n).toBitVec.toNat = n := by rw [wb_tb, BitVec.toNat_ofNat, Nat.mod_eq_of_lt h]
theorem wb_of (x : Int64) : ∃ n, n < 2 ^ 64 ∧ x = lN n := ⟨x.toBitVec.toNat, x.toBitVec.isLt, wb_inj (by rw [wb_tb]; simp)⟩
theorem wb_of32 (x : Int32) : ∃ n, n < 2 ^ 32 ∧ x = nI n := ⟨x.toBitVec.toNat, x.toBitVec.isLt, Int32.toBitVec_inj.mp (by show _ = BitVec.ofNat 32 _; simp)⟩
theorem wb_c : ∀ k, k < 64 → ((nI k).toInt64 &&& 63) = lN k := by decide +kernel
theorem wb_cu : ∀ k, k < 64 → ((nI k).toInt64.toUInt64 &&& Int64.toUInt64 63) = UInt64.ofNat k := by decide +kernel
theorem wb_sm : ∀ k, k < 64 → (BitVec.ofNat 64 k).smod 64 = BitVec.ofNat 64 k := by decide +kernel
theorem wb_pw {a b : Nat} (h : a ≤ b) : 2 ^ b = 2 ^ a * 2 ^ (b - a) := by rw [← Nat.pow_add]; congr 1; omega
theorem wb_lt2 {a b : Nat} (h : a < b) : 2 ^ a < 2 ^ b := Nat.pow_lt_pow_right (by decide) h
theorem wb_mod (n : Nat) : lN n = lN (n % 2 ^ 64) := wb_inj (by rw [wb_tb, wb_tb]; apply BitVec.eq_of_toNat_eq; rw [BitVec.toNat_ofNat, BitVec.toNat_ofNat, Nat.mod_mod])
theorem wb_shr {n k : Nat} (hn : n < 2 ^ 64) (hk : k < 64) : ((lN n).toUInt64 >>> ((nI k).toInt64.toUInt64 &&& Int64.toUInt64 63)).toInt64 = lN (n / 2 ^ k) := by
  rw [wb_cu k hk]
  apply wb_inj
  apply BitVec.eq_of_toNat_eq
  show ((lN n).toUInt64 >>> UInt64.ofNat k).toNat = (BitVec.ofNat 64 _).toNat
  have h1 : (UInt64.ofNat k).toNat = k := by
    show (BitVec.ofNat 64 k).toNat = k
    rw [BitVec.toNat_ofNat, Nat.mod_eq_of_lt (by omega)]
  have h2 : (lN n).toUInt64.toNat = n := wb_tn hn
  rw [UInt64.toNat_shiftRight, h1, h2, Nat.mod_eq_of_lt hk, Nat.shiftRight_eq_div_pow, BitVec.toNat_ofNat, Nat.mod_eq_of_lt (Nat.lt_of_le_of_lt (Nat.div_le_self _ _) hn)]
/-! what a command does to a copy -/
def RN (d : Nat) (M : MS) (c : Int32 × OF) (w : Bool × MS) : Prop := ∃ b r', (if c.1 < 0 then false else true) = b ∧ w = (b, msA M 2 r') ∧ RO d c.2 r'
section
variable {d : Nat} {O : OF} {M : MS} (h : RO d O (M.1.2 2))
theorem rn_x (h : RO d O (M.1.2 2)) {c : Int32 × OF} {w : Bool × MS} {a : Int32} (hc : c = (a, O)) (ha : a < 0) (hw : w = (false, M)) : RN d M c w := by
  subst hc
  exact ⟨false, M.1.2 2, if_pos ha, by rw [hw, msA_id], h⟩
theorem oka_nn {d : Nat} {c : Int32 × OF} {g : Int32 × (Nat → Int32)} (hk : OKA d c g) : (if c.1 < 0 then false else true) = true ∧ (if g.1 < 0 then false else true) = true := by
  have h1 : ¬ c.1 < 0 := fun q => by
    have := i32_lt.mp q
    have z : (0 : Int32).toInt = 0 := rfl
    have := hk.1
    omega
  exact ⟨if_neg h1, by rw [← hk.2.1]; exact if_neg h1⟩
theorem rn_v {d' : Nat} {c : Int32 × OF} {g : Int32 × (Nat → Int32)} {w : Bool × MS} (hk : OKA d' c g) (hw : w = ((if g.1 < 0 then false else true), msA M 2 g.2)) : RN d' M c w := by
  obtain ⟨h1, h2⟩ := oka_nn hk
  exact ⟨true, g.2, h1, by rw [hw, h2], hk.2.2⟩
theorem rn_revise (h : RO d O (M.1.2 2)) (hd : d ≤ 1000000) (x y : Int32) : if sX8_isField y = true then RN d M (sX1_reviseSheet O x (1 <<< (y &&& 31))) (sX8_runRevise M x y) else sX8_runRevise M x y = (false, M) := by
  by_cases c : sX8_isField y = true
  · rw [if_pos c]
    obtain ⟨f, hf, rfl⟩ := field_of c
    have hcl : sX8_isCloud (1 <<< (nI f &&& 31)) = true := (by decide : ∀ f, f < 12 → sX8_isCloud (1 <<< (nI f &&& 31)) = true) f hf
    rcases a_revise h hd x (1 <<< (nI f &&& 31)) with ⟨c1, e⟩ | ⟨c1, c2, e⟩ | ⟨c1, c2, c3, e⟩ | ⟨c1, c2, c3, e⟩
    · refine rn_x h e (by decide) ?_
      unfold sX8_runRevise; rw [c1]; rfl
    · rw [hcl] at c2; exact nomatch c2
    · refine rn_x h e (by decide) ?_
      unfold sX8_runRevise; rw [c1, c, c3]; rfl
    · refine rn_v e ?_
      unfold sX8_runRevise; rw [c1, c, c3]; rfl
  · rw [if_neg c]
    have c : sX8_isField y = false := by cases e : sX8_isField y <;> simp_all
    unfold sX8_runRevise
    rw [c]
    cases sX8_hasSheet (M.1.2 2) x <;> rfl
theorem rn_print (h : RO d O (M.1.2 2)) (x y : Int32) : RN d M (sX1_addPrint O x y) (sX8_runPrint M x y) := by
  rcases a_print h x y with ⟨c1, e⟩ | ⟨⟨c1, c2⟩, c3, e⟩ | ⟨⟨c1, c2⟩, c3, e⟩
  · refine rn_x h e (by decide) ?_
    unfold sX8_runPrint
    rcases c1 with c1 | c1
    · rw [c1]; rfl
    · rw [c1]; cases sX8_hasSheet (M.1.2 2) x <;> rfl
  · refine rn_x h e (by decide) ?_
    unfold sX8_runPrint; rw [c1, c2, c3]; rfl
  · refine rn_v e ?_
    unfold sX8_runPrint; rw [c1, c2, c3]; rfl
theorem stamp_pos {r : Nat → Int32} {p q : Nat} (hp : p < 24) (hq : q < 3) : ¬ (sX8_goStamp r (nI p) (nI q)).1 ≤ 0 := by
  unfold sX8_goStamp
  rw [ix246 (by omega), pk_us]
  show ¬ sX8_many _ ≤ 0
  rw [many_eq]
  have h1 := fb_ct_le (bt (r (246 + p) ||| 1 <<< (nI q &&& 31))) 30
  have h2 : 0 < fb_ct (bt (r (246 + p) ||| 1 <<< (nI q &&& 31))) 30 := fb_ct_pos.mpr ⟨q, by omega, by rw [b_set (by omega) (by omega)]; simp⟩
  exact nI_nle h2 (by omega)
theorem rn_stamp (h : RO d O (M.1.2 2)) (x y : Int32) : RN d M (sX1_stampPrint O x y) (sX8_runStamp M x y) := by
  rcases a_stamp h x y with ⟨c1, e⟩ | ⟨⟨c1, c2⟩, c3, e⟩ | ⟨⟨c1, c2⟩, c3, e⟩
  · refine rn_x h e (by decide) ?_
    unfold sX8_runStamp
    rcases c1 with c1 | c1
    · rw [c1]; rfl
    · rw [c1]; cases sX8_hasPrint (M.1.2 2) x <;> rfl
  · refine rn_x h e (by decide) ?_
    unfold sX8_runStamp; rw [c1, c2, c3]; rfl
  · obtain ⟨p, hp, rfl⟩ := hasP_of h.c c1
    obtain ⟨q, hq, rfl⟩ := hand_of.mp c2
    have h24 := nP_le h.c
    obtain ⟨h1, h2⟩ := oka_nn e
    refine ⟨true, (sX8_goStamp (M.1.2 2) (nI p) (nI q)).2, h1, ?_, e.2.2⟩
    unfold sX8_runStamp
    rw [c1, c2, c3, if_pos rfl, if_pos rfl, if_pos rfl, if_neg (stamp_pos (by omega) hq)]
theorem rn_build (h : RO d O (M.1.2 2)) (x y : Int32) : RN d M (sX1_buildField O x y) (sX8_runBuild M x y) := by
  rcases a_build h x y with ⟨c1, e⟩ | ⟨⟨c1, c2⟩, c3, e⟩ | ⟨⟨c1, c2⟩, c3, e⟩
  · refine rn_x h e (by decide) ?_
    unfold sX8_runBuild
    rcases c1 with c1 | c1
    · rw [c1]; rfl
    · rw [c1]; cases sX8_hasPrint (M.1.2 2) x <;> rfl
  · refine rn_x h e (by decide) ?_
    unfold sX8_runBuild; rw [c1, c2, c3]; rfl
  · refine rn_v e ?_
    unfold sX8_runBuild; rw [c1, c2, c3]; rfl
theorem rn_back (h : RO d O (M.1.2 2)) (hd : d ≤ 1000000) (x : Int32) : RN d M (sX1_takeBack O x) (sX8_runBack M x) := by
  rcases a_back h hd x with ⟨c1, e⟩ | ⟨c1, c2, e⟩ | ⟨c1, c2, e⟩
  · refine rn_x h e (by decide) ?_
    unfold sX8_runBack; rw [c1]; rfl
  · refine rn_x h e (by decide) ?_
    unfold sX8_runBack; rw [c1, c2]; rfl
  · refine rn_v e ?_
    unfold sX8_runBack; rw [c1, c2]; rfl
theorem rn_check (h : RO d O (M.1.2 2)) (x : Int32) : RN d M (sX1_checkSheet O x) (sX8_runCheck M x) := by
  rcases a_check h x with ⟨c1, e⟩ | ⟨c1, c2, e⟩ | ⟨c1, c2, e⟩
  · refine rn_x h e (by decide) ?_
    unfold sX8_runCheck; rw [c1]; rfl
  · refine rn_x h e (by decide) ?_
    unfold sX8_runCheck; rw [c1, cl_8, c2]; rfl
  · refine rn_v e ?_
    unfold sX8_runCheck; rw [c1, cl_8, c2]; rfl
theorem rn_days (h : RO d O (M.1.2 2)) (hd : d ≤ 1000000) (x : Int32) : RN (d + 30) M (sX1_passDays O x) (sX8_runDays M x) := by
  rcases a_run h hd x with ⟨c1, e⟩ | ⟨c1, e⟩
  · refine rn_x (h.mono (by omega)) e (by decide) ?_
    unfold sX8_runDays; rw [c1]; rfl
  · refine rn_v e ?_
    unfold sX8_runDays; rw [c1]; rfl
theorem RN.mono {d d' : Nat} {c : Int32 × OF} {w : Bool × MS} (hd : d ≤ d') (h : RN d M c w) : RN d' M c w := by
  obtain ⟨b, r', h1, h2, h3⟩ := h
  exact ⟨b, r', h1, h2, h3.mono hd⟩
/-- a command -/
def CM (d : Nat) (M : MS) (c : Bool × OF) (w : Bool × MS) : Prop := ∃ r', w = (c.1, msA M 2 r') ∧ RO d c.2 r'
theorem cm_rn {d : Nat} {c : Int32 × OF} {w : Bool × MS} (h : RN d M c w) : CM d M ((if c.1 < 0 then false else true), c.2) ((if w.1 = true then true else false), w.2) := by
  obtain ⟨b, r', h1, h2, h3⟩ := h
  refine ⟨r', ?_, h3⟩
  rw [h2]
  show ((if b = true then true else false), msA M 2 r') = _
  rw [h1]
  cases b <;> rfl
theorem cm_no (h : RO d O (M.1.2 2)) (b : Bool) : CM d M (b, O) (b, M) := ⟨M.1.2 2, by rw [msA_id], h⟩
theorem CM.mono {d d' : Nat} {c : Bool × OF} {w : Bool × MS} (hd : d ≤ d') (h : CM d M c w) : CM d' M c w := by
  obtain ⟨r', h1, h2⟩ := h
  exact ⟨r', h1, h2.mono hd⟩
theorem dg {g a b : Nat} {x y : Int32} (hg : g < 1000000) (ha : 0 < a) (hb : 0 < b) (ha2 : a < 2 ^ 31) (hb2 : b < 2 ^ 31) (hx : x = nI a) (hy : y = nI b) : nI g / x - nI g / x / y * y = nI (g / a % b) := by
  rw [hx, hy, pk_div (by omega) ha ha2, pk_rem (by have := Nat.div_le_self g a; omega) hb hb2]
theorem dr {g a b : Nat} {x y : Int32} (hg : g < 1000000) (ha : 0 < a) (hb : 0 < b) (ha2 : a < 2 ^ 31) (hb2 : b < 2 ^ 31) (hx : x = nI a) (hy : y = nI b) : (nI g - nI g / x * x) / y = nI (g % a / b) := by
  rw [hx, hy, pk_rem (by omega) ha ha2, pk_div (by have := Nat.mod_lt g ha; omega) hb hb2]
theorem dm {g a : Nat} {x : Int32} (hg : g < 1000000) (ha : 0 < a) (ha2 : a < 2 ^ 31) (hx : x = nI a) : nI g - nI g / x * x = nI (g % a) := by
  rw [hx, pk_rem (by omega) ha ha2]
theorem dd {g a : Nat} {x : Int32} (hg : g < 1000000) (ha : 0 < a) (ha2 : a < 2 ^ 31) (hx : x = nI a) : nI g / x = nI (g / a) := by
  rw [hx, pk_div (by omega) ha ha2]
theorem cm_all (h : RO d O (M.1.2 2)) (hd : d ≤ 1000000) {g : Nat} (hg : g < 1000000) : CM (d + 30) M (sX7_succeeds O (nI g)) (sX8_command M (nI g)) := by
  have a1 : nI g / 100000 = nI (g / 100000) := dd (a := 100000) hg (by decide) (by decide) rfl
  have a2 : nI g - nI g / 10000 * 10000 = nI (g % 10000) := dm (a := 10000) hg (by decide) (by decide) rfl
  have a3 : nI g - nI g / 10 * 10 = nI (g % 10) := dm (a := 10) hg (by decide) (by decide) rfl
  have a4 : (nI g - nI g / 1000 * 1000) / 10 = nI (g % 1000 / 10) := dr (a := 1000) (b := 10) hg (by decide) (by decide) (by decide) (by decide) rfl rfl
  have a5 : (nI g - nI g / 100000 * 100000) / 10000 = nI (g % 100000 / 10000) := dr (a := 100000) (b := 10000) hg (by decide) (by decide) (by decide) (by decide) rfl rfl
  have a6 : nI g - nI g / 1000 * 1000 = nI (g % 1000) := dm (a := 1000) hg (by decide) (by decide) rfl
  have a7 : (nI g - nI g / 10000 * 10000) / 1000 = nI (g % 10000 / 1000) := dr (a := 10000) (b := 1000) hg (by decide) (by decide) (by decide) (by decide) rfl rfl
  have a8 : nI g - nI g / 100 * 100 = nI (g % 100) := dm (a := 100) hg (by decide) (by decide) rfl
  have a9 : (nI g - nI g / 100000 * 100000) / 1000 = nI (g % 100000 / 1000) := dr (a := 100000) (b := 1000) hg (by decide) (by decide) (by decide) (by decide) rfl rfl
  have a10 : (nI g - nI g / 1000 * 1000) / 100 = nI (g % 1000 / 100) := dr (a := 1000) (b := 100) hg (by decide) (by decide) (by decide) (by decide) rfl rfl
  have a11 : nI g - nI g / 100000 * 100000 = nI (g % 100000) := dm (a := 100000) hg (by decide) (by decide) rfl
  have b1 : nI g / 1000 - nI g / 1000 / 10 * 10 = nI (g / 1000 % 10) := dg (a := 1000) (b := 10) hg (by decide) (by decide) (by decide) (by decide) rfl rfl
  have b2 : nI g / 10000 - nI g / 10000 / 10 * 10 = nI (g % 100000 / 10000) := by
    rw [dg (a := 10000) (b := 10) (x := 10000) (y := 10) hg (by decide) (by decide) (by decide) (by decide) rfl rfl]; exact congrArg nI (by omega)
  have b3 : nI g / 10 - nI g / 10 / 100 * 100 = nI (g % 1000 / 10) := by
    rw [dg (a := 10) (b := 100) (x := 10) (y := 100) hg (by decide) (by decide) (by decide) (by decide) rfl rfl]; exact congrArg nI (by omega)
  have b4 : nI g / 1000 - nI g / 1000 / 10 * 10 = nI (g % 10000 / 1000) := by
    rw [b1]; exact congrArg nI (by omega)
  have b5 : nI g / 1000 - nI g / 1000 / 100 * 100 = nI (g % 100000 / 1000) := by
    rw [dg (a := 1000) (b := 100) (x := 1000) (y := 100) hg (by decide) (by decide) (by decide) (by decide) rfl rfl]; exact congrArg nI (by omega)
  have b6 : nI g / 100 - nI g / 100 / 10 * 10 = nI (g % 1000 / 100) := by
    rw [dg (a := 100) (b := 10) (x := 100) (y := 10) hg (by decide) (by decide) (by decide) (by decide) rfl rfl]; exact congrArg nI (by omega)
  have h' : RO (d + 30) O (M.1.2 2) := h.mono (by omega)
  unfold sX7_succeeds sX8_command
  rw [a4, a5, a7, a9, a10, b2, b3, b5, b6]
  by_cases c1 : nI g / 100000 = 1
  · rw [if_pos c1, if_pos c1, a2, a3, b1]
    by_cases c2 : g % 10000 < 1000
    · rw [if_neg (show ¬ (1000 : Int32) ≤ nI (g % 10000) from nI_ge (b := 1000) c2 (by decide)), if_pos (show nI (g / 1000 % 10) = 0 by rw [show g / 1000 % 10 = 0 by omega]; rfl)]
      by_cases c3 : nI (g % 10) = 0
      · rw [if_pos c3, if_pos c3, q_isField]
        have t := rn_revise h hd (nI (g % 100000 / 10000)) (nI (g % 1000 / 10))
        cases c4 : sX8_isField (nI (g % 1000 / 10))
        · rw [c4, if_neg (by decide)] at t
          rw [if_neg (by decide), t]
          exact cm_no h' false
        · rw [c4, if_pos rfl] at t
          rw [if_pos rfl]
          exact (cm_rn t).mono (by omega)
      · rw [if_neg c3, if_neg c3]; exact cm_no h' false
    · rw [if_pos (show (1000 : Int32) ≤ nI (g % 10000) from nI_le (a := 1000) (b := g % 10000) (by omega) (by omega)), if_neg (show ¬ nI (g / 1000 % 10) = 0 from fun z => by have := (nI_eq (a := g / 1000 % 10) (b := 0) (by omega) (by decide)).mp z; omega)]
      exact cm_no h' false
  rw [if_neg c1, if_neg c1]
  by_cases c2 : nI g / 100000 = 2
  · rw [if_pos c2, if_pos c2, b4]
    by_cases c3 : nI g - nI g / 1000 * 1000 = 0
    · rw [if_pos c3, if_pos c3]
      exact (cm_rn (rn_print h _ _)).mono (by omega)
    · rw [if_neg c3, if_neg c3]; exact cm_no h' false
  rw [if_neg c2, if_neg c2]
  by_cases c3 : nI g / 100000 = 3
  · rw [if_pos c3, if_pos c3]
    by_cases c4 : nI g - nI g / 100 * 100 = 0
    · rw [if_pos c4, if_pos c4]
      exact (cm_rn (rn_stamp h _ _)).mono (by omega)
    · rw [if_neg c4, if_neg c4]; exact cm_no h' false
  rw [if_neg c3, if_neg c3]
  by_cases c4 : nI g / 100000 = 4
  · rw [if_pos c4, if_pos c4]
    by_cases c5 : nI g - nI g / 10 * 10 = 0
    · rw [if_pos c5, if_pos c5]
      exact (cm_rn (rn_build h _ _)).mono (by omega)
    · rw [if_neg c5, if_neg c5]; exact cm_no h' false
  rw [if_neg c4, if_neg c4]
  by_cases c5 : nI g / 100000 = 5
  · rw [if_pos c5, if_pos c5]
    by_cases c6 : 100 ≤ nI g - nI g / 100000 * 100000
    · rw [if_pos c6, if_pos c6]; exact cm_no h' false
    · rw [if_neg c6, if_neg c6]
      exact cm_rn (rn_days h hd _)
  rw [if_neg c5, if_neg c5]
  by_cases c6 : nI g / 100000 = 6
  · rw [if_pos c6, if_pos c6]
    by_cases c7 : nI g - nI g / 1000 * 1000 = 0
    · rw [if_pos c7, if_pos c7]
      exact (cm_rn (rn_back h hd _)).mono (by omega)
    · rw [if_neg c7, if_neg c7]; exact cm_no h' false
  rw [if_neg c6, if_neg c6]
  by_cases c7 : nI g / 100000 = 7
  · rw [if_pos c7, if_pos c7]
    by_cases c8 : nI g - nI g / 10000 * 10000 = 0
    · rw [if_pos c8, if_pos c8]
      exact (cm_rn (rn_check h _)).mono (by omega)
    · rw [if_neg c8, if_neg c8]; exact cm_no h' false
  rw [if_neg c7, if_neg c7]
  by_cases c8 : nI g / 100000 = 8
  · rw [if_pos c8, if_pos c8, g_wrong h]
    exact cm_no h' _
  rw [if_neg c8, if_neg c8]
  by_cases c9 : nI g / 100000 = 9
  · rw [if_pos c9, if_pos c9, q_hasP h]
    have e : (if 2 ≤ nI g - nI g / 1000 * 1000 then false else (if sX8_hasPrint (M.1.2 2) (nI (g % 100000 / 1000)) = true then (if nI g - nI g / 10 * 10 = 1 then (if b2i (sX1_mayBuildBy O (nI (g % 100000 / 1000))) = 1 then true else false) else (if b2i (sX1_mayBuildBy O (nI (g % 100000 / 1000))) = 0 then true else false)) else false)) = (if 2 ≤ nI g - nI g / 1000 * 1000 then false else (if sX8_hasPrint (M.1.2 2) (nI (g % 100000 / 1000)) = true then (if sX8_mayBuild (M.1.2 2) (nI (g % 100000 / 1000)) = true then (if nI g - nI g / 10 * 10 = 1 then true else false) else (if nI g - nI g / 10 * 10 = 0 then true else false)) else false)) := by
      by_cases d1 : 2 ≤ nI g - nI g / 1000 * 1000
      · rw [if_pos d1, if_pos d1]
      · rw [if_neg d1, if_neg d1]
        cases d2 : sX8_hasPrint (M.1.2 2) (nI (g % 100000 / 1000))
        · rfl
        · obtain ⟨p, hp, ep⟩ := hasP_of h.c d2
          rw [if_pos rfl, if_pos rfl, ep, q_mayBuild h hp]
          rw [a6] at d1
          have d3 : g % 1000 < 2 := by
            rcases Nat.lt_or_ge (g % 1000) 2 with t | t
            · exact t
            · exact absurd (nI_le (a := 2) t (by omega)) d1
          rw [a3]
          rcases (show g % 10 = 0 ∨ g % 10 = 1 by omega) with t | t <;> rw [t] <;> cases sX8_mayBuild (M.1.2 2) (nI p) <;> decide
    rw [e]
    exact cm_no h' _
  rw [if_neg c9, if_neg c9]
  exact cm_no h' false
end
