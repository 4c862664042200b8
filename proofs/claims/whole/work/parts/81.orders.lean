/-! math: one order of the text -/
def ACT (O : OF) (w x y : Int32) : Int32 × OF := if w = 0 then sX1_addSheet O x else (if w = 1 then sX1_reviseSheet O x y else (if w = 2 then sX1_addPrint O x y else (if w = 3 then sX1_stampPrint O x y else sX1_passDays O x)))
def kp (T : OF) (q k : Nat) (w x y : Int32) : OF := stS (stA (stA (stA (stS T 1 (nI q)) 3 (upd (T.2 3) k w)) 4 (upd (T.2 4) k x)) 5 (upd (T.2 5) k y)) 2 (nI (k + 1))
def EN (n : Nat) (f : Nat → Int32) (q : Nat) : Prop := q = n ∨ tch n f q = 59
def GDN (d : Nat) (M : MS) (q : Nat) (c : Int32 × OF) (N : MS) : Prop := N.2 = true ∧ N.1.1 3 = nI q ∧ (∀ k, k ≠ 3 → k ≠ 5 → k ≠ 6 → N.1.1 k = M.1.1 k) ∧ (∀ j, j ≠ 3 → N.1.2 j = M.1.2 j) ∧ N.1.1 5 = (if 0 ≤ c.1 then M.1.1 5 else M.1.1 5 + 1) ∧ RO (d + 30) c.2 (N.1.2 3)
def TL (d n : Nat) (f : Nat → Int32) (M : MS) (q : Nat) (c : Int32 × OF) (N : MS) : Prop := (¬ EN n f q ∧ BAD M q N) ∨ (EN n f q ∧ GDN d M q c N)
section
variable {n : Nat} {f : Nat → Int32} (hF : TOK n f)
theorem end_g (hF : TOK n f) {M : MS} (hM : CR n f M) {q : Nat} (hq : q ≤ n) : (EN n f q → sX8_end (gM M q) = (true, gM M q)) ∧ (¬ EN n f q → sX8_end (gM M q) = (false, bM M q)) := by
  have h120 := hF.1
  have eh : sX8_here (gM M q) = tch n f q := here_e hF (gM_c hM q) (by omega) (gM_at M q)
  have e2 : (gM M q).1.1 2 = nI n := hM.1
  have e3 : (gM M q).1.1 3 = nI q := rfl
  have e4 : (gM M q).2 = true := rfl
  unfold sX8_end
  rw [eh, e2, e3, e4, if_pos rfl]
  constructor
  · rintro (rfl | c)
    · rw [if_pos rfl]; rfl
    · rw [c]
      by_cases c2 : nI q = nI n
      · rw [if_pos c2]; rfl
      · rw [if_neg c2]; rfl
  · intro c
    rw [if_neg (fun z => c (Or.inl ((nI_eq (by omega) (by omega)).mp z))), if_neg (fun z => c (Or.inr z))]
    rfl
theorem goes_t' (M : MS) (q : Nat) : sX8_goes (gM M q) true = (true, gM M q) := by
  show (true, msS (gM M q) 5 ((gM M q).1.1 5 + 0)) = _
  rw [Int32.add_zero]
  show (true, ((upd (gM M q).1.1 5 ((gM M q).1.1 5), (gM M q).1.2), (gM M q).2)) = _
  rw [upd_id]
theorem goes_f' (M : MS) (q : Nat) : sX8_goes (gM M q) false = (false, msS (gM M q) 5 (M.1.1 5 + 1)) := rfl
theorem gdn_x {d : Nat} {O : OF} {M : MS} (h : RO d O (M.1.2 3)) {q : Nat} {c : Int32 × OF} {a : Int32} (hc : c = (a, O)) (ha : a < 0) : GDN d M q c (msS (gM M q) 5 (M.1.1 5 + 1)) := by
  subst hc
  refine ⟨rfl, rfl, fun k h3 h5 _ => ?_, fun j _ => rfl, ?_, h.mono (by omega)⟩
  · show upd (upd M.1.1 3 (nI q)) 5 _ k = _
    rw [pk_un h5, pk_un h3]
  · have : ¬ 0 ≤ a := fun z => by have := i32_le.mp z; have := i32_lt.mp ha; omega
    rw [if_neg this]
    rfl
theorem gdn_v {d d' : Nat} (hd : d' ≤ d + 30) {M : MS} {q : Nat} {c : Int32 × OF} {g : Int32 × (Nat → Int32)} (hk : OKA d' c g) : GDN d M q c (msA (gM M q) 3 g.2) := by
  refine ⟨rfl, rfl, fun k h3 _ _ => pk_un h3, fun j hj => va_up_ne _ _ hj, ?_, ?_⟩
  · rw [if_pos (i32_le.mpr (show (0 : Int32).toInt ≤ c.1.toInt from hk.1))]
    rfl
  · have e : (msA (gM M q) 3 g.2).1.2 3 = g.2 := msA_at _ _ _
    rw [e]
    exact hk.2.2.mono hd
theorem tl_bad {d : Nat} {M : MS} {q : Nat} {c : Int32 × OF} {N : MS} (he : ¬ EN n f q) (hN : N = bM M q) : TL d n f M q c N := Or.inl ⟨he, by rw [hN]; exact bad_b M q⟩
theorem tl_draw (hF : TOK n f) {d : Nat} {O : OF} {M M0 : MS} (hM : CR n f M) (h : RO d O (M.1.2 3)) {q : Nat} (hq : q ≤ n) (x : Int32) : TL d n f M q (sX1_addSheet O x) (CX8_readDraw_106 M0 x (gM M q)) := by
  have hen := end_g hF hM hq
  have e3 : (gM M q).1.2 3 = M.1.2 3 := rfl
  unfold CX8_readDraw_106
  by_cases he : EN n f q
  · refine Or.inr ⟨he, ?_⟩
    rw [hen.1 he]
    dsimp only
    rw [e3, if_pos rfl]
    rcases a_draw h x with ⟨c1, c2, e⟩ | ⟨c1, c2, e⟩ | ⟨c1, c2, e⟩
    · rw [if_neg c1, c2, if_neg (show ¬ false = true by decide), goes_f']
      exact gdn_x h e (by decide)
    · rw [c2]
      have ec : (if x = -1 then (if false = true then true else false) else (if sX8_hasSheet (M.1.2 3) x = true then (if false = true then true else false) else false)) = false := by
        by_cases z : x = -1
        · rw [if_pos z]; rfl
        · rw [if_neg z]; cases sX8_hasSheet (M.1.2 3) x <;> rfl
      rw [ec, goes_f']
      exact gdn_x h e (by decide)
    · rw [c2]
      have ec : (if x = -1 then (if true = true then true else false) else (if sX8_hasSheet (M.1.2 3) x = true then (if true = true then true else false) else false)) = true := by
        by_cases z : x = -1
        · rw [if_pos z]; rfl
        · rw [if_neg z, c1.resolve_left z]; rfl
      rw [ec, goes_t']
      exact gdn_v (by omega) e
  · rw [hen.2 he]
    dsimp only
    rw [if_neg (show ¬ false = true by decide), goes_b rfl]
    exact tl_bad he rfl
theorem tl_rev (hF : TOK n f) {d : Nat} (hd : d ≤ 1000000) {O : OF} {M M0 : MS} (hM : CR n f M) (h : RO d O (M.1.2 3)) {q : Nat} (hq : q ≤ n) (x : Int32) {V : Int32} (hV : sX8_isCloud V = true) : TL d n f M q (sX1_reviseSheet O x V) (CX8_readRevise_48 M0 x (gM (msS M 6 V) q)) := by
  have hM6 : CR n f (msS M 6 V) := hM
  have hen := end_g hF hM6 hq
  have e3 : (gM (msS M 6 V) q).1.2 3 = M.1.2 3 := rfl
  have e6 : (gM (msS M 6 V) q).1.1 6 = V := rfl
  have up : ∀ {c : Int32 × OF} {N : MS}, GDN d (msS M 6 V) q c N → GDN d M q c N := fun g => ⟨g.1, g.2.1, fun k h3 h5 h6 => by
    rw [g.2.2.1 k h3 h5 h6]
    show upd M.1.1 6 V k = _
    rw [pk_un h6], g.2.2.2.1, g.2.2.2.2⟩
  unfold CX8_readRevise_48
  by_cases he : EN n f q
  · refine Or.inr ⟨he, ?_⟩
    rw [hen.1 he]
    dsimp only
    rw [e3, if_pos rfl]
    rcases a_revise h hd x V with ⟨c1, e⟩ | ⟨c1, c2, e⟩ | ⟨c1, c2, c3, e⟩ | ⟨c1, c2, c3, e⟩
    · rw [c1, if_neg (show ¬ false = true by decide), goes_f']
      exact up (gdn_x (M := msS M 6 V) h e (by decide))
    · rw [hV] at c2; exact nomatch c2
    · rw [c1, c3, if_pos rfl, if_neg (show ¬ false = true by decide), goes_f']
      exact up (gdn_x (M := msS M 6 V) h e (by decide))
    · rw [c1, c3, if_pos rfl, if_pos rfl, goes_t', e6]
      exact up (gdn_v (M := msS M 6 V) (by omega) e)
  · rw [hen.2 he]
    dsimp only
    rw [if_neg (show ¬ false = true by decide), goes_b rfl]
    refine Or.inl ⟨he, rfl, rfl, fun k h3 h6 => ?_, rfl⟩
    show upd (upd M.1.1 6 V) 3 (nI q) k = _
    rw [pk_un h3, pk_un h6]
theorem tl_print (hF : TOK n f) {d : Nat} {O : OF} {M M0 : MS} (hM : CR n f M) (h : RO d O (M.1.2 3)) {q : Nat} (hq : q ≤ n) (x : Int32) {y : Int32} (hy : sX8_isSite y = true) : TL d n f M q (sX1_addPrint O x y) (CX8_readPrint_123 M0 x y (gM M q)) := by
  have hen := end_g hF hM hq
  have e3 : (gM M q).1.2 3 = M.1.2 3 := rfl
  unfold CX8_readPrint_123
  by_cases he : EN n f q
  · refine Or.inr ⟨he, ?_⟩
    rw [hen.1 he]
    dsimp only
    rw [e3, if_pos rfl]
    rcases a_print h x y with ⟨c1, e⟩ | ⟨⟨c1, c2⟩, c3, e⟩ | ⟨⟨c1, c2⟩, c3, e⟩
    · have c1 := c1.resolve_right (by rw [hy]; decide)
      rw [c1, if_neg (show ¬ false = true by decide), goes_f']
      exact gdn_x h e (by decide)
    · rw [c1, c3, if_pos rfl, if_neg (show ¬ false = true by decide), goes_f']
      exact gdn_x h e (by decide)
    · rw [c1, c3, if_pos rfl, if_pos rfl, goes_t']
      exact gdn_v (by omega) e
  · rw [hen.2 he]
    dsimp only
    rw [if_neg (show ¬ false = true by decide), goes_b rfl]
    exact tl_bad he rfl
theorem tl_stamp (hF : TOK n f) {d : Nat} {O : OF} {M M0 : MS} (hM : CR n f M) (h : RO d O (M.1.2 3)) {q : Nat} (hq : q ≤ n) (x : Int32) {y : Int32} (hy : sX8_isHand y = true) : TL d n f M q (sX1_stampPrint O x y) (CX8_readStamp_123 M0 x y (gM M q)) := by
  have hen := end_g hF hM hq
  have e3 : (gM M q).1.2 3 = M.1.2 3 := rfl
  unfold CX8_readStamp_123
  by_cases he : EN n f q
  · refine Or.inr ⟨he, ?_⟩
    rw [hen.1 he]
    dsimp only
    rw [e3, if_pos rfl]
    rcases a_stamp h x y with ⟨c1, e⟩ | ⟨⟨c1, c2⟩, c3, e⟩ | ⟨⟨c1, c2⟩, c3, e⟩
    · have c1 := c1.resolve_right (by rw [hy]; decide)
      rw [c1, if_neg (show ¬ false = true by decide), goes_f']
      exact gdn_x h e (by decide)
    · rw [c1, c3, if_pos rfl, if_neg (show ¬ false = true by decide), goes_f']
      exact gdn_x h e (by decide)
    · rw [c1, c3, if_pos rfl, if_pos rfl, goes_t']
      exact gdn_v (by omega) e
  · rw [hen.2 he]
    dsimp only
    rw [if_neg (show ¬ false = true by decide), goes_b rfl]
    exact tl_bad he rfl
theorem tl_run (hF : TOK n f) {d : Nat} (hd : d ≤ 1000000) {O : OF} {M M0 : MS} (hM : CR n f M) (h : RO d O (M.1.2 3)) {q : Nat} (hq : q ≤ n) {x : Int32} (hx : sX8_in x.toInt64 1 30 = true) : TL d n f M q (sX1_passDays O x) (CX8_readRun_26 M0 x (gM M q)) := by
  have hen := end_g hF hM hq
  have e3 : (gM M q).1.2 3 = M.1.2 3 := rfl
  unfold CX8_readRun_26
  by_cases he : EN n f q
  · refine Or.inr ⟨he, ?_⟩
    rw [hen.1 he]
    dsimp only
    rcases a_run h hd x with ⟨c1, e⟩ | ⟨c1, e⟩
    · rw [hx] at c1; exact nomatch c1
    · rw [goes_t']
      dsimp only
      rw [e3]
      exact gdn_v (Nat.le_refl _) e
  · rw [hen.2 he]
    dsimp only
    rw [goes_b rfl]
    exact tl_bad he rfl
theorem keep_e {T : OF} {q k : Nat} (hk : T.1 2 = nI k) (hk2 : k < 24) (w x y : Int32) : sX2_keepOrder (stS T 1 (nI q)) w x y = (true, kp T q k w x y) := by
  have e2 : (stS T 1 (nI q)).1 2 = nI k := hk
  have eo : sX2_isOrder (nI k) = true := by
    unfold sX2_isOrder
    rw [if_neg (nI_pos (by omega)), if_neg (ge24 hk2)]
  unfold sX2_keepOrder
  rw [e2, eo, if_pos rfl, ixN (by omega), nI_1]
  rfl
/-- both read an order -/
def ORD (d n : Nat) (f : Nat → Int32) (T : OF) (M : MS) (O : OF) (a k : Nat) : Prop :=
  (∃ p, p ≤ n ∧ sX2_readOrder T = (false, stS T 1 (nI p)) ∧ BAD M p (sX8_readOrder (gM M a))) ∨
  ∃ q w x y, sX2_readOrder T = (true, kp T q k w x y) ∧ a + 4 ≤ q ∧ q ≤ n ∧ TL d n f M q (ACT O w x y) (sX8_readOrder (gM M a))
theorem order_n (hF : TOK n f) {d : Nat} (hd : d ≤ 1000000) {T : OF} (hT : CT n f T) {M : MS} (hM : CR n f M) {O : OF} (h : RO d O (M.1.2 3)) {a k : Nat} (ha : a ≤ n) (hp : T.1 1 = nI a) (hk : T.1 2 = nI k) (hk2 : k < 24) : ORD d n f T M O a k := by
  have h120 := hF.1
  have hTq : ∀ q, CT n f (stS T 1 (nI q)) := fun q => hT
  unfold ORD sX2_readOrder
  rcases word_n hF hT hM ha hp with ⟨p, h1, h2, h3⟩ | ⟨h1, h2, M0, h3⟩ | ⟨h1, h2, M0, h3⟩ | ⟨h1, h2, M0, h3⟩ | ⟨h1, h2, M0, h3⟩ | ⟨h1, h2, M0, h3⟩
  · left
    rw [h1]
    exact ⟨p, h2, rfl, h3⟩
  · -- draw
    right
    rw [h2, h3]
    unfold CX8_readDraw_72
    have hc := rnum_n hF (hTq (a + 4)) (a := a + 4) (by omega) rfl (lo := 0) (hi := 9) (by decide) (by decide)
    have hc1 : sX2_readNumber (stS T 1 (nI (a + 4))) 0 9 = sX2_readNumber (stS T 1 (nI (a + 4))) (nI 0) (nI 9) := rfl
    have hr := digit_n hF hM (a := a + 4) (by omega) (lo := 0) (hi := 9) (by decide) (by decide)
    have hr1 : sX8_digit (gM M (a + 4)) 0 9 = sX8_digit (gM M (a + 4)) (nI 0) (nI 9) := rfl
    have e2 : (gM M (a + 4)).2 = true := rfl
    have hin : sX8_in (tch n f (a + 4)).toInt64 48 57 = true ↔ nok n f ((0 : Nat) : Int) ((9 : Nat) : Int) (a + 4) := by
      rw [in_iff32]
      have z1 : (48 : Int64).toInt = 48 := rfl
      have z2 : (57 : Int64).toInt = 57 := rfl
      unfold nok dv
      omega
    rw [if_pos rfl, hc1, hr1, e2, if_pos rfl, here_e hF (gM_c hM _) (by omega) (gM_at M _)]
    by_cases ok : nok n f ((0 : Nat) : Int) ((9 : Nat) : Int) (a + 4)
    · obtain ⟨v1, v2, v3, v4⟩ := nval_in (lo := 0) (hi := 9) ok
      rw [hc.1 ok, hr.1 ok, if_pos (hin.mpr ok), stS_tw]
      dsimp only
      rw [keep_e hk hk2]
      exact ⟨_, 0, _, 0, rfl, by omega, v4, tl_draw hF hM h v4 _⟩
    · rw [hc.2 ok, if_neg (fun z => ok (hin.mp z))]
      dsimp only
      rw [keep_e hk hk2]
      exact ⟨_, 0, -1, 0, rfl, by omega, h1, tl_draw hF hM h h1 _⟩
  · -- rev
    rw [h2, h3]
    unfold CX8_readRevise_18 CX8_readRevise_26 CX8_readRevise_44 sX2_readParts
    have hc := rnum_n hF (hTq (a + 3)) (a := a + 3) (by omega) rfl (lo := 0) (hi := 9) (by decide) (by decide)
    have hc1 : sX2_readNumber (stS T 1 (nI (a + 3))) 0 9 = sX2_readNumber (stS T 1 (nI (a + 3))) (nI 0) (nI 9) := rfl
    have hr := digit_n hF hM (a := a + 3) (by omega) (lo := 0) (hi := 9) (by decide) (by decide)
    have hr1 : sX8_digit (gM M (a + 3)) 0 9 = sX8_digit (gM M (a + 3)) (nI 0) (nI 9) := rfl
    dsimp only
    rw [if_neg (show ¬ (1 : Int32) = 0 by decide), if_pos (show (1 : Int32) = 1 from rfl), hc1, hr1, if_pos (show (1 : Int32) = 1 from rfl)]
    by_cases ok : nok n f ((0 : Nat) : Int) ((9 : Nat) : Int) (a + 3)
    · obtain ⟨v1, v2, v3, v4⟩ := nval_in (lo := 0) (hi := 9) ok
      rw [hc.1 ok, hr.1 ok, stS_tw]
      obtain ⟨v, ev⟩ : ∃ v, nval n f ((9 : Nat) : Int) (a + 3) = v := ⟨_, rfl⟩
      obtain ⟨q, eq⟩ : ∃ q, nend n f ((9 : Nat) : Int) (a + 3) = q := ⟨_, rfl⟩
      rw [ev] at v1 v2 ⊢
      rw [eq] at v3 v4 ⊢
      dsimp only
      rw [if_neg (nI_m1 (k := v) (by omega)), rsign_n hF (hTq q) (a := q) (by omega) rfl, take_n hF hM (by omega)]
      by_cases cs : tch n f q = 58
      · have hq1 : q < n := tch_lt (by rw [cs]; decide)
        rw [if_pos cs, if_pos cs, stS_tw]
        dsimp only
        rw [if_pos rfl]
        rcases cloud_n hF (hTq (q + 1)) hM (a := q + 1) (by omega) rfl with ⟨p, hp1, g1, g2⟩ | ⟨q2, V, g1, g2, g3, g4, g5⟩
        · left
          rw [g1, if_pos rfl, stS_tw]
          refine ⟨p, hp1, rfl, ?_⟩
          rw [rev48_b _ g2.1]
          exact g2
        · right
          have hVm : ¬ V = -1 := fun z => by rw [z] at g2; exact absurd g2 (by decide)
          rw [g1, if_neg hVm, g3, stS_tw]
          dsimp only
          rw [keep_e hk hk2]
          exact ⟨q2, 1, _, V, rfl, by omega, g5, tl_rev hF hd hM h g5 _ g2⟩
      · left
        rw [if_neg cs, if_neg cs]
        dsimp only
        rw [if_neg (show ¬ false = true by decide), cloud_b rfl, rev48_b _ rfl]
        exact ⟨q, v4, rfl, bad_6 M q⟩
    · left
      rw [hc.2 ok, hr.2 ok]
      dsimp only
      rw [if_pos rfl, take_b rfl, cloud_b rfl, rev48_b _ rfl]
      exact ⟨a + 3, by omega, rfl, bad_6 M (a + 3)⟩
  · -- print
    rw [h2, h3]
    unfold CX8_readPrint_90 CX8_readPrint_98 CX8_readPrint_116 sX2_readParts
    have hc := rnum_n hF (hTq (a + 5)) (a := a + 5) (by omega) rfl (lo := 0) (hi := 9) (by decide) (by decide)
    have hc1 : sX2_readNumber (stS T 1 (nI (a + 5))) 0 9 = sX2_readNumber (stS T 1 (nI (a + 5))) (nI 0) (nI 9) := rfl
    have hr := digit_n hF hM (a := a + 5) (by omega) (lo := 0) (hi := 9) (by decide) (by decide)
    have hr1 : sX8_digit (gM M (a + 5)) 0 9 = sX8_digit (gM M (a + 5)) (nI 0) (nI 9) := rfl
    dsimp only
    rw [if_neg (show ¬ (2 : Int32) = 0 by decide), if_neg (show ¬ (2 : Int32) = 1 by decide), if_pos (show (2 : Int32) = 2 from rfl), hc1, hr1, if_neg (show ¬ (2 : Int32) = 1 by decide)]
    by_cases ok : nok n f ((0 : Nat) : Int) ((9 : Nat) : Int) (a + 5)
    · obtain ⟨v1, v2, v3, v4⟩ := nval_in (lo := 0) (hi := 9) ok
      rw [hc.1 ok, hr.1 ok, stS_tw]
      obtain ⟨v, ev⟩ : ∃ v, nval n f ((9 : Nat) : Int) (a + 5) = v := ⟨_, rfl⟩
      obtain ⟨q, eq⟩ : ∃ q, nend n f ((9 : Nat) : Int) (a + 5) = q := ⟨_, rfl⟩
      rw [ev] at v1 v2 ⊢
      rw [eq] at v3 v4 ⊢
      dsimp only
      rw [if_neg (nI_m1 (k := v) (by omega)), rsign_n hF (hTq q) (a := q) (by omega) rfl, take_n hF hM (by omega)]
      by_cases cs : tch n f q = 64
      · have hq1 : q < n := tch_lt (by rw [cs]; decide)
        have hc' := rnum_n hF (hTq (q + 1)) (a := q + 1) (by omega) rfl (lo := 0) (hi := 3) (by decide) (by decide)
        have hc1' : sX2_readNumber (stS T 1 (nI (q + 1))) 0 3 = sX2_readNumber (stS T 1 (nI (q + 1))) (nI 0) (nI 3) := rfl
        have hr' := digit_n hF hM (a := q + 1) (by omega) (lo := 0) (hi := 3) (by decide) (by decide)
        have hr1' : sX8_digit (gM M (q + 1)) 0 3 = sX8_digit (gM M (q + 1)) (nI 0) (nI 3) := rfl
        rw [if_pos cs, if_pos cs, stS_tw]
        dsimp only
        rw [if_pos rfl, hc1', hr1']
        by_cases ok2 : nok n f ((0 : Nat) : Int) ((3 : Nat) : Int) (q + 1)
        · right
          obtain ⟨w1, w2, w3, w4⟩ := nval_in (lo := 0) (hi := 3) ok2
          rw [hc'.1 ok2, hr'.1 ok2, stS_tw]
          dsimp only
          rw [if_neg (nI_m1 (k := nval n f ((3 : Nat) : Int) (q + 1)) (by omega)), keep_e hk hk2]
          exact ⟨_, 2, _, _, rfl, by omega, w4, tl_print hF hM h w4 _ (site_of.mpr ⟨_, by omega, rfl⟩)⟩
        · left
          rw [hc'.2 ok2, hr'.2 ok2]
          dsimp only
          rw [if_pos rfl]
          refine ⟨q + 1, by omega, rfl, ?_⟩
          unfold CX8_readPrint_123
          rw [end_b rfl, goes_b rfl]
          exact bad_b M (q + 1)
      · left
        rw [if_neg cs, if_neg cs]
        dsimp only
        rw [if_neg (show ¬ false = true by decide), digit_b rfl]
        refine ⟨q, v4, rfl, ?_⟩
        unfold CX8_readPrint_123
        rw [end_b rfl, goes_b rfl]
        exact bad_b M q
    · left
      rw [hc.2 ok, hr.2 ok]
      dsimp only
      rw [if_pos rfl, take_b rfl, digit_b rfl]
      refine ⟨a + 5, by omega, rfl, ?_⟩
      unfold CX8_readPrint_123
      rw [end_b rfl, goes_b rfl]
      exact bad_b M (a + 5)
  · -- stamp
    rw [h2, h3]
    unfold CX8_readStamp_90 CX8_readStamp_98 CX8_readStamp_116 sX2_readParts
    have hc := rnum_n hF (hTq (a + 5)) (a := a + 5) (by omega) rfl (lo := 0) (hi := 23) (by decide) (by decide)
    have hc1 : sX2_readNumber (stS T 1 (nI (a + 5))) 0 23 = sX2_readNumber (stS T 1 (nI (a + 5))) (nI 0) (nI 23) := rfl
    have hr := number_n hF hM (a := a + 5) (by omega) (lo := 0) (hi := 23) (by decide) (by decide) (by decide)
    have hr1 : sX8_number (gM M (a + 5)) 0 23 = sX8_number (gM M (a + 5)) (nI 0) (nI 23) := rfl
    dsimp only
    rw [if_neg (show ¬ (3 : Int32) = 0 by decide), if_neg (show ¬ (3 : Int32) = 1 by decide), if_neg (show ¬ (3 : Int32) = 2 by decide), if_pos (show (3 : Int32) = 3 from rfl), hc1, hr1, if_neg (show ¬ (3 : Int32) = 1 by decide)]
    by_cases ok : nok n f ((0 : Nat) : Int) ((23 : Nat) : Int) (a + 5)
    · obtain ⟨v1, v2, v3, v4⟩ := nval_in (lo := 0) (hi := 23) ok
      rw [hc.1 ok, hr.1 ok, stS_tw]
      obtain ⟨v, ev⟩ : ∃ v, nval n f ((23 : Nat) : Int) (a + 5) = v := ⟨_, rfl⟩
      obtain ⟨q, eq⟩ : ∃ q, nend n f ((23 : Nat) : Int) (a + 5) = q := ⟨_, rfl⟩
      rw [ev] at v1 v2 ⊢
      rw [eq] at v3 v4 ⊢
      dsimp only
      rw [if_neg (nI_m1 (k := v) (by omega)), rsign_n hF (hTq q) (a := q) (by omega) rfl, take_n hF hM (by omega)]
      by_cases cs : tch n f q = 47
      · have hq1 : q < n := tch_lt (by rw [cs]; decide)
        have hc' := rnum_n hF (hTq (q + 1)) (a := q + 1) (by omega) rfl (lo := 0) (hi := 2) (by decide) (by decide)
        have hc1' : sX2_readNumber (stS T 1 (nI (q + 1))) 0 2 = sX2_readNumber (stS T 1 (nI (q + 1))) (nI 0) (nI 2) := rfl
        have hr' := digit_n hF hM (a := q + 1) (by omega) (lo := 0) (hi := 2) (by decide) (by decide)
        have hr1' : sX8_digit (gM M (q + 1)) 0 2 = sX8_digit (gM M (q + 1)) (nI 0) (nI 2) := rfl
        rw [if_pos cs, if_pos cs, stS_tw]
        dsimp only
        rw [if_pos rfl, hc1', hr1']
        by_cases ok2 : nok n f ((0 : Nat) : Int) ((2 : Nat) : Int) (q + 1)
        · right
          obtain ⟨w1, w2, w3, w4⟩ := nval_in (lo := 0) (hi := 2) ok2
          rw [hc'.1 ok2, hr'.1 ok2, stS_tw]
          dsimp only
          rw [if_neg (nI_m1 (k := nval n f ((2 : Nat) : Int) (q + 1)) (by omega)), keep_e hk hk2]
          exact ⟨_, 3, _, _, rfl, by omega, w4, tl_stamp hF hM h w4 _ (hand_of.mpr ⟨_, by omega, rfl⟩)⟩
        · left
          rw [hc'.2 ok2, hr'.2 ok2]
          dsimp only
          rw [if_pos rfl]
          refine ⟨q + 1, by omega, rfl, ?_⟩
          unfold CX8_readStamp_123
          rw [end_b rfl, goes_b rfl]
          exact bad_b M (q + 1)
      · left
        rw [if_neg cs, if_neg cs]
        dsimp only
        rw [if_neg (show ¬ false = true by decide), digit_b rfl]
        refine ⟨q, v4, rfl, ?_⟩
        unfold CX8_readStamp_123
        rw [end_b rfl, goes_b rfl]
        exact bad_b M q
    · left
      rw [hc.2 ok, hr.2 ok]
      dsimp only
      rw [if_pos rfl, take_b rfl, digit_b rfl]
      refine ⟨a + 5, by omega, rfl, ?_⟩
      unfold CX8_readStamp_123
      rw [end_b rfl, goes_b rfl]
      exact bad_b M (a + 5)
  · -- run
    rw [h2, h3]
    unfold CX8_readRun_18 sX2_readDays
    have hc := rnum_n hF (hTq (a + 3)) (a := a + 3) (by omega) rfl (lo := 1) (hi := 30) (by decide) (by decide)
    have hc1 : sX2_readNumber (stS T 1 (nI (a + 3))) 1 30 = sX2_readNumber (stS T 1 (nI (a + 3))) (nI 1) (nI 30) := rfl
    have hr := number_n hF hM (a := a + 3) (by omega) (lo := 1) (hi := 30) (by decide) (by decide) (by decide)
    have hr1 : sX8_number (gM M (a + 3)) 1 30 = sX8_number (gM M (a + 3)) (nI 1) (nI 30) := rfl
    dsimp only
    rw [if_neg (show ¬ (4 : Int32) = 0 by decide), if_neg (show ¬ (4 : Int32) = 1 by decide), if_neg (show ¬ (4 : Int32) = 2 by decide), if_neg (show ¬ (4 : Int32) = 3 by decide), if_pos (show (4 : Int32) = 4 from rfl), hc1, hr1]
    by_cases ok : nok n f ((1 : Nat) : Int) ((30 : Nat) : Int) (a + 3)
    · right
      obtain ⟨v1, v2, v3, v4⟩ := nval_in (lo := 1) (hi := 30) ok
      rw [hc.1 ok, hr.1 ok, stS_tw]
      dsimp only
      rw [if_neg (nI_m1 (k := nval n f ((30 : Nat) : Int) (a + 3)) (by omega)), keep_e hk hk2]
      refine ⟨_, 4, _, 0, rfl, by omega, v4, tl_run hF hd hM h v4 ((in_iff32 _ 1 30).mpr ?_)⟩
      rw [nI_toInt (by omega)]
      have z1 : (1 : Int64).toInt = 1 := rfl
      have z2 : (30 : Int64).toInt = 30 := rfl
      omega
    · left
      rw [hc.2 ok, hr.2 ok]
      dsimp only
      rw [if_pos rfl]
      refine ⟨a + 3, by omega, rfl, ?_⟩
      unfold CX8_readRun_26
      rw [end_b rfl, goes_b rfl]
      exact bad_b M (a + 3)
end
