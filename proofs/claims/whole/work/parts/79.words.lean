/-! math: the words of the text -/
def pmL (n : Nat) (f : Nat → Int32) : List Int32 → Nat → Nat
  | [], _ => 0
  | c :: cs, a => if tch n f a = c then 1 + pmL n f cs (a + 1) else 0
def tkL : List Int32 → MS → MS
  | [], M => M
  | c :: cs, M => tkL cs (sX8_take M (if sX8_here M = c then true else false))
section
variable {n : Nat} {f : Nat → Int32} (hF : TOK n f)
theorem pm_le : ∀ (l : List Int32) (a : Nat), pmL n f l a ≤ l.length := by
  intro l
  induction l with
  | nil => intro a; exact Nat.le_refl 0
  | cons c cs ih =>
    intro a
    show (if tch n f a = c then 1 + pmL n f cs (a + 1) else 0) ≤ cs.length + 1
    have := ih (a + 1)
    split <;> omega
theorem pm_n (hF : TOK n f) : ∀ (l : List Int32) (a : Nat), (∀ c, c ∈ l → c ≠ -1) → a ≤ n → a + pmL n f l a ≤ n := by
  intro l
  induction l with
  | nil => intro a _ ha; exact ha
  | cons c cs ih =>
    intro a hc ha
    show a + (if tch n f a = c then 1 + pmL n f cs (a + 1) else 0) ≤ n
    by_cases e : tch n f a = c
    · rw [if_pos e]
      have h1 : a < n := by
        rcases Nat.lt_or_ge a n with q | q
        · exact q
        · exfalso
          refine hc c List.mem_cons_self ?_
          rw [← e]
          unfold tch
          rw [if_neg (by omega)]
      have := ih (a + 1) (fun x hx => hc x (List.mem_cons_of_mem _ hx)) (by omega)
      omega
    · rw [if_neg e]; exact ha
theorem tk_b : ∀ (l : List Int32) {N : MS}, N.2 = false → tkL l N = N := by
  intro l
  induction l with
  | nil => intro N _; rfl
  | cons c cs ih =>
    intro N h
    show tkL cs (sX8_take N _) = N
    rw [take_b h]
    exact ih h
theorem tk_g (hF : TOK n f) {M : MS} (hM : CR n f M) : ∀ (l : List Int32) (a : Nat), a + l.length < 900 → tkL l (gM M a) = if pmL n f l a = l.length then gM M (a + l.length) else bM M (a + pmL n f l a) := by
  intro l
  induction l with
  | nil => intro a _; rfl
  | cons c cs ih =>
    intro a ha
    rw [List.length_cons] at ha
    show tkL cs (sX8_take (gM M a) (if sX8_here (gM M a) = c then true else false)) = (if (if tch n f a = c then 1 + pmL n f cs (a + 1) else 0) = cs.length + 1 then gM M (a + (cs.length + 1)) else bM M (a + (if tch n f a = c then 1 + pmL n f cs (a + 1) else 0)))
    rw [take_n hF hM (by omega)]
    by_cases e : tch n f a = c
    · rw [if_pos e, if_pos e, ih (a + 1) (by omega)]
      by_cases e2 : pmL n f cs (a + 1) = cs.length
      · rw [if_pos e2, if_pos (by omega)]
        exact congrArg (gM M) (by omega)
      · rw [if_neg e2, if_neg (by omega)]
        exact congrArg (bM M) (by omega)
    · rw [if_neg e, if_neg e, if_neg (by omega)]
      exact tk_b cs rfl
theorem w_len : ∀ i, i < 5 → (wbyt.getD i []).length = wlen.getD i 0 := by decide +kernel
theorem w_ch : ∀ i, i < 5 → ∀ j, j < wlen.getD i 0 → wch i (nI j) = (wbyt.getD i []).getD j 0 := by decide +kernel
theorem w_small : ∀ i, i < 5 → wlen.getD i 0 < 6 := by decide +kernel
theorem getD_at (l : List Int32) (j : Nat) (h : j < l.length) : l[j] = l.getD j 0 := by
  rw [List.getD_eq_getElem?_getD, List.getElem?_eq_getElem h]
  rfl
theorem let_e (hF : TOK n f) {T : OF} (hT : CT n f T) {a : Nat} (ha : a < 900) (hp : T.1 1 = nI a) {i : Nat} (hi : i < 5) : sX2_lettersOf T i = nI (pmL n f (wbyt.getD i []) a) := by
  have hl := w_len i hi
  have hs := w_small i hi
  have key : ∀ k j, j + k = wlen.getD i 0 → LX2_lettersOf_2 T i (k + 1) (nI j) = nI (j + pmL n f ((wbyt.getD i []).drop j) (a + j)) := by
    intro k
    induction k with
    | zero =>
      intro j hj
      have e : (wbyt.getD i []).drop j = [] := List.drop_eq_nil_of_le (by omega)
      rw [LX2_lettersOf_2_eq, if_pos (nI_le (by omega) (by omega)), e]
      rfl
    | succ k ih =>
      intro j hj
      have hjl : j < (wbyt.getD i []).length := by omega
      have e : (wbyt.getD i []).drop j = (wbyt.getD i []).getD j 0 :: (wbyt.getD i []).drop (j + 1) := by
        rw [List.drop_eq_getElem_cons hjl]
        congr 1
        exact getD_at _ _ hjl
      rw [LX2_lettersOf_2_eq, if_neg (nI_ge (by omega) (by omega)), hp, nI_add, sign_e hF hT (by omega), w_ch i hi j (by omega), nI_1, ih (j + 1) (by omega), e]
      show _ = nI (j + (if tch n f (a + j) = (wbyt.getD i []).getD j 0 then 1 + pmL n f ((wbyt.getD i []).drop (j + 1)) (a + j + 1) else 0))
      by_cases c : tch n f (a + j) = (wbyt.getD i []).getD j 0
      · rw [if_pos c, if_pos c]
        exact congrArg nI (by rw [Nat.add_assoc a j 1]; omega)
      · rw [if_neg c, if_neg c]; rfl
  have k0 := key (wlen.getD i 0) 0 (by omega)
  unfold sX2_lettersOf
  rw [upM_n0 (by omega)]
  rw [Nat.zero_add, List.drop_zero, Nat.add_zero] at k0
  exact k0
theorem mxn (x p : Nat) (hx : x < 1000) (hp : p < 1000) : (if nI x < nI p then nI p else nI x) = nI (max x p) := by
  by_cases c : x < p
  · rw [if_pos (nI_lt c (by omega))]; exact congrArg nI (by omega)
  · rw [if_neg (nI_nlt (by omega) (by omega))]; exact congrArg nI (by omega)
theorem sp_n : ∀ i, i < 5 → spI (nI i) = i := by decide +kernel
/-- the class reads a word -/
theorem rword_e (hF : TOK n f) {T : OF} (hT : CT n f T) {a : Nat} (ha : a < 900) (hp : T.1 1 = nI a) (p : Nat → Nat) (hpm : ∀ i, i < 5 → pmL n f (wbyt.getD i []) a = p i) : sX2_readWord T =
    if p 0 = 4 then (0, stS T 1 (nI (a + 4))) else if p 1 = 3 then (1, stS T 1 (nI (a + 3))) else if p 2 = 5 then (2, stS T 1 (nI (a + 5))) else if p 3 = 5 then (3, stS T 1 (nI (a + 5))) else if p 4 = 3 then (4, stS T 1 (nI (a + 3))) else (-1, stS T 1 (nI (a + max (max (max (max (max 0 (p 0)) (p 1)) (p 2)) (p 3)) (p 4)))) := by
  have hl : ∀ i, i < 5 → sX2_lettersOf T i = nI (p i) := fun i hi => by rw [let_e hF hT ha hp hi, hpm i hi]
  have hb : ∀ i, i < 5 → p i < 10 := fun i hi => by
    have h1 := pm_le (n := n) (f := f) (wbyt.getD i []) a
    have h2 := w_len i hi
    have h3 := w_small i hi
    rw [hpm i hi] at h1
    omega
  have st : ∀ m x i, i < 5 → x < 100 → LX2_readWord_4 T (m + 1) (nI x) (nI i) = if p i = wlen.getD i 0 then (nI i, stS T 1 (nI (a + p i))) else LX2_readWord_4 T m (nI (max x (p i))) (nI (i + 1)) := by
    intro m x i hi hx
    have h3 := w_small i hi
    have hbi := hb i hi
    rw [LX2_readWord_4_eq, if_neg (show ¬ (5 : Int32) ≤ nI i from nI_ge (b := 5) hi (by decide)), sp_n i hi, hl i hi, hp, nI_add, nI_1, mxn x (p i) (by omega) (by omega)]
    by_cases c : p i = wlen.getD i 0
    · rw [if_pos c, if_pos (congrArg nI c)]
    · rw [if_neg c, if_neg (fun q => c ((nI_eq (by omega) (by omega)).mp q))]
  have hu : upM 5 0 + 1 = 0 + 1 + 1 + 1 + 1 + 1 + 1 := congrArg (· + 1) (upM_n0 (m := 5) (by decide))
  have b0 := hb 0 (by decide)
  have b1 := hb 1 (by decide)
  have b2 := hb 2 (by decide)
  have b3 := hb 3 (by decide)
  have b4 := hb 4 (by decide)
  unfold sX2_readWord
  rw [hu]
  have s0 := st (0 + 1 + 1 + 1 + 1 + 1) 0 0 (by decide) (by decide)
  have s0 : LX2_readWord_4 T (0 + 1 + 1 + 1 + 1 + 1 + 1) 0 0 = _ := s0
  rw [s0, st _ _ 1 (by decide) (by omega), st _ _ 2 (by decide) (by omega), st _ _ 3 (by decide) (by omega), st _ _ 4 (by decide) (by omega), LX2_readWord_4_eq, if_pos (show (5 : Int32) ≤ nI (4 + 1) by decide), hp, nI_add]
  show (if p 0 = 4 then (nI 0, stS T 1 (nI (a + p 0))) else (if p 1 = 3 then (nI 1, stS T 1 (nI (a + p 1))) else (if p 2 = 5 then (nI 2, stS T 1 (nI (a + p 2))) else (if p 3 = 5 then (nI 3, stS T 1 (nI (a + p 3))) else (if p 4 = 3 then (nI 4, stS T 1 (nI (a + p 4))) else (-1, stS T 1 (nI (a + max (max (max (max (max 0 (p 0)) (p 1)) (p 2)) (p 3)) (p 4))))))))) = _
  by_cases c0 : p 0 = 4
  · rw [if_pos c0, if_pos c0, c0]; rfl
  rw [if_neg c0, if_neg c0]
  by_cases c1 : p 1 = 3
  · rw [if_pos c1, if_pos c1, c1]; rfl
  rw [if_neg c1, if_neg c1]
  by_cases c2 : p 2 = 5
  · rw [if_pos c2, if_pos c2, c2]; rfl
  rw [if_neg c2, if_neg c2]
  by_cases c3 : p 3 = 5
  · rw [if_pos c3, if_pos c3, c3]; rfl
  rw [if_neg c3, if_neg c3]
  by_cases c4 : p 4 = 3
  · rw [if_pos c4, if_pos c4, c4]; rfl
  rw [if_neg c4, if_neg c4]
def BAD (M : MS) (p : Nat) (N : MS) : Prop := N.2 = false ∧ N.1.1 3 = nI p ∧ (∀ k, k ≠ 3 → k ≠ 6 → N.1.1 k = M.1.1 k) ∧ N.1.2 = M.1.2
theorem bad_b (M : MS) (p : Nat) : BAD M p (bM M p) := ⟨rfl, rfl, fun k h3 _ => pk_un h3, rfl⟩
theorem bad_6 (M : MS) (p : Nat) : BAD M p (msS (bM M p) 6 0) := ⟨rfl, rfl, fun k h3 h6 => by
  show upd (upd M.1.1 3 (nI p)) 6 0 k = _
  rw [pk_un h6, pk_un h3], rfl⟩
/-- nothing more happens once a sign was refused -/
theorem draw_b {M0 N : MS} (h : N.2 = false) : CX8_readDraw_72 M0 N = N := by
  unfold CX8_readDraw_72
  rw [h, if_neg (by decide)]
  unfold CX8_readDraw_106
  rw [end_b h, goes_b h]
  rfl
theorem run_b {M0 N : MS} (h : N.2 = false) : CX8_readRun_18 M0 N = N := by
  unfold CX8_readRun_18
  rw [number_b h]
  unfold CX8_readRun_26
  rw [end_b h, goes_b h]
  rfl
theorem print_b {M0 N : MS} (h : N.2 = false) : CX8_readPrint_90 M0 N = N := by
  unfold CX8_readPrint_90 CX8_readPrint_98 CX8_readPrint_116
  rw [digit_b h, take_b h, digit_b h]
  unfold CX8_readPrint_123
  rw [end_b h, goes_b h]
  rfl
theorem stamp_b {M0 N : MS} (h : N.2 = false) : CX8_readStamp_90 M0 N = N := by
  unfold CX8_readStamp_90 CX8_readStamp_98 CX8_readStamp_116
  rw [number_b h, take_b h, digit_b h]
  unfold CX8_readStamp_123
  rw [end_b h, goes_b h]
  rfl
theorem cloud_b {N : MS} (h : N.2 = false) : sX8_readCloud N = msS N 6 0 := by
  unfold sX8_readCloud
  rw [LX8_readCloud_9_eq]
  have h2 : (msS N 6 0).2 = false := h
  rw [h2, if_neg (show ¬ false = true by decide)]
theorem rev48_b {M0 N : MS} (x : Int32) (h : N.2 = false) : CX8_readRevise_48 M0 x N = N := by
  unfold CX8_readRevise_48
  rw [end_b h, goes_b h]
  rfl
theorem rev_b {M0 N : MS} (h : N.2 = false) : CX8_readRevise_18 M0 N = msS N 6 0 := by
  unfold CX8_readRevise_18 CX8_readRevise_26 CX8_readRevise_44
  rw [digit_b h, take_b h, cloud_b h]
  exact rev48_b _ h
/-- both read a word -/
def WDS (n : Nat) (f : Nat → Int32) (T : OF) (M : MS) (a : Nat) : Prop :=
  (∃ p, sX2_readWord T = (-1, stS T 1 (nI p)) ∧ p ≤ n ∧ BAD M p (sX8_readOrder (gM M a))) ∨
  (a + 4 ≤ n ∧ sX2_readWord T = (0, stS T 1 (nI (a + 4))) ∧ ∃ M0, sX8_readOrder (gM M a) = CX8_readDraw_72 M0 (gM M (a + 4))) ∨
  (a + 3 ≤ n ∧ sX2_readWord T = (1, stS T 1 (nI (a + 3))) ∧ ∃ M0, sX8_readOrder (gM M a) = CX8_readRevise_18 M0 (gM M (a + 3))) ∨
  (a + 5 ≤ n ∧ sX2_readWord T = (2, stS T 1 (nI (a + 5))) ∧ ∃ M0, sX8_readOrder (gM M a) = CX8_readPrint_90 M0 (gM M (a + 5))) ∨
  (a + 5 ≤ n ∧ sX2_readWord T = (3, stS T 1 (nI (a + 5))) ∧ ∃ M0, sX8_readOrder (gM M a) = CX8_readStamp_90 M0 (gM M (a + 5))) ∨
  (a + 3 ≤ n ∧ sX2_readWord T = (4, stS T 1 (nI (a + 3))) ∧ ∃ M0, sX8_readOrder (gM M a) = CX8_readRun_18 M0 (gM M (a + 3)))
theorem word_n (hF : TOK n f) {T : OF} (hT : CT n f T) {M : MS} (hM : CR n f M) {a : Nat} (ha : a ≤ n) (hp : T.1 1 = nI a) : WDS n f T M a := by
  have h120 := hF.1
  have hrw := rword_e hF hT (a := a) (by omega) hp (fun i => pmL n f (wbyt.getD i []) a) (fun _ _ => rfl)
  have e0 : pmL n f (wbyt.getD 0 []) a = pmL n f [100, 114, 97, 119] a := rfl
  have e1 : pmL n f (wbyt.getD 1 []) a = pmL n f [114, 101, 118] a := rfl
  have e2 : pmL n f (wbyt.getD 2 []) a = pmL n f [112, 114, 105, 110, 116] a := rfl
  have e3 : pmL n f (wbyt.getD 3 []) a = pmL n f [115, 116, 97, 109, 112] a := rfl
  have e4 : pmL n f (wbyt.getD 4 []) a = pmL n f [114, 117, 110] a := rfl
  rw [e0, e1, e2, e3, e4] at hrw
  have q0 := pm_n hF [100, 114, 97, 119] a (by decide) ha
  have q1 := pm_n hF [114, 101, 118] a (by decide) ha
  have q2 := pm_n hF [112, 114, 105, 110, 116] a (by decide) ha
  have q3 := pm_n hF [115, 116, 97, 109, 112] a (by decide) ha
  have q4 := pm_n hF [114, 117, 110] a (by decide) ha
  have z : ∀ (c : Int32) (l : List Int32), ¬ tch n f a = c → pmL n f (c :: l) a = 0 := fun c l h => if_neg h
  have eh : sX8_here (gM M a) = tch n f a := here_e hF (gM_c hM a) (by omega) (gM_at M a)
  unfold WDS
  unfold sX8_readOrder
  rw [eh]
  by_cases cd : tch n f a = 100
  · -- draw
    have y1 := z 114 [101, 118] (by rw [cd]; decide)
    have y2 := z 112 [114, 105, 110, 116] (by rw [cd]; decide)
    have y3 := z 115 [116, 97, 109, 112] (by rw [cd]; decide)
    have y4 := z 114 [117, 110] (by rw [cd]; decide)
    have et : sX8_readDraw (gM M a) = CX8_readDraw_72 (gM M a) (tkL [100, 114, 97, 119] (gM M a)) := rfl
    rw [if_pos cd, et, tk_g hF hM _ _ (by show a + 4 < 900; omega)]
    rw [y1, y2, y3, y4] at hrw
    by_cases c : pmL n f [100, 114, 97, 119] a = 4
    · right; left
      rw [if_pos c] at hrw
      rw [if_pos (show pmL n f [100, 114, 97, 119] a = [(100 : Int32), 114, 97, 119].length from c)]
      exact ⟨by omega, hrw, _, rfl⟩
    · left
      rw [if_neg c, if_neg (by decide), if_neg (by decide), if_neg (by decide), if_neg (by decide)] at hrw
      rw [if_neg (show ¬ pmL n f [100, 114, 97, 119] a = [(100 : Int32), 114, 97, 119].length from c), draw_b rfl]
      refine ⟨a + pmL n f [100, 114, 97, 119] a, ?_, q0, bad_b _ _⟩
      rw [hrw]
      exact congrArg (fun v => ((-1 : Int32), stS T 1 (nI (a + v)))) (by omega)
  have y0 := z 100 [114, 97, 119] cd
  rw [if_neg cd]
  by_cases cp : tch n f a = 112
  · -- print
    have y1 := z 114 [101, 118] (by rw [cp]; decide)
    have y3 := z 115 [116, 97, 109, 112] (by rw [cp]; decide)
    have y4 := z 114 [117, 110] (by rw [cp]; decide)
    have et : sX8_readPrint (gM M a) = CX8_readPrint_90 (gM M a) (tkL [112, 114, 105, 110, 116] (gM M a)) := rfl
    rw [if_pos cp, et, tk_g hF hM _ _ (by show a + 5 < 900; omega)]
    rw [y0, y1, y3, y4] at hrw
    by_cases c : pmL n f [112, 114, 105, 110, 116] a = 5
    · right; right; right; left
      rw [if_neg (by decide), if_neg (by decide), if_pos c] at hrw
      rw [if_pos (show pmL n f [112, 114, 105, 110, 116] a = [(112 : Int32), 114, 105, 110, 116].length from c)]
      exact ⟨by omega, hrw, _, rfl⟩
    · left
      rw [if_neg (by decide), if_neg (by decide), if_neg c, if_neg (by decide), if_neg (by decide)] at hrw
      rw [if_neg (show ¬ pmL n f [112, 114, 105, 110, 116] a = [(112 : Int32), 114, 105, 110, 116].length from c), print_b rfl]
      refine ⟨a + pmL n f [112, 114, 105, 110, 116] a, ?_, q2, bad_b _ _⟩
      rw [hrw]
      exact congrArg (fun v => ((-1 : Int32), stS T 1 (nI (a + v)))) (by omega)
  have y2 := z 112 [114, 105, 110, 116] cp
  rw [if_neg cp]
  by_cases cr : tch n f a = 114
  · have y3 := z 115 [116, 97, 109, 112] (by rw [cr]; decide)
    have eh1 : sX8_here (gM M (a + 1)) = tch n f (a + 1) := here_e hF (gM_c hM _) (by omega) (gM_at M _)
    have t1 : sX8_take (gM M a) true = gM M (a + 1) := by rw [take_g, if_pos rfl]
    have t2 : sX8_take (gM M (a + 1)) true = gM M (a + 1 + 1) := by rw [take_g, if_pos rfl]
    have p1 : pmL n f [114, 101, 118] a = 1 + pmL n f [101, 118] (a + 1) := if_pos cr
    have p4 : pmL n f [114, 117, 110] a = 1 + pmL n f [117, 110] (a + 1) := if_pos cr
    rw [if_pos cr, t1, eh1]
    rw [y0, y2, y3, p1, p4] at hrw
    by_cases ce : tch n f (a + 1) = 101
    · -- rev
      have p1' : pmL n f [101, 118] (a + 1) = 1 + pmL n f [118] (a + 1 + 1) := if_pos ce
      have p4' : pmL n f [117, 110] (a + 1) = 0 := if_neg (by rw [ce]; decide)
      have et : sX8_readRevise (gM M (a + 1 + 1)) = CX8_readRevise_18 (gM M (a + 1 + 1)) (tkL [118] (gM M (a + 1 + 1))) := rfl
      rw [if_pos ce, t2, et, tk_g hF hM _ _ (by show a + 1 + 1 + 1 < 900; omega)]
      rw [p1', p4'] at hrw
      rw [p1, p1'] at q1
      by_cases c : pmL n f [118] (a + 1 + 1) = 1
      · right; right; left
        rw [if_neg (by decide), if_pos (by omega)] at hrw
        rw [if_pos (show pmL n f [118] (a + 1 + 1) = [(118 : Int32)].length from c)]
        exact ⟨by omega, hrw, _, rfl⟩
      · left
        have c0 : pmL n f [118] (a + 1 + 1) = 0 := by
          have := pm_le (n := n) (f := f) [118] (a + 1 + 1)
          have h1 : ([118] : List Int32).length = 1 := rfl
          omega
        rw [c0] at hrw q1
        rw [if_neg (by decide), if_neg (by decide), if_neg (by decide), if_neg (by decide), if_neg (by decide)] at hrw
        rw [if_neg (show ¬ pmL n f [118] (a + 1 + 1) = [(118 : Int32)].length from c), rev_b rfl, c0]
        exact ⟨a + 2, hrw, by omega, bad_6 M (a + 2)⟩
    · -- run
      have p1' : pmL n f [101, 118] (a + 1) = 0 := if_neg ce
      have et : sX8_readRun (sX8_take (gM M (a + 1)) (if tch n f (a + 1) = 117 then true else false)) = CX8_readRun_18 (sX8_take (gM M (a + 1)) (if tch n f (a + 1) = 117 then true else false)) (tkL [117, 110] (gM M (a + 1))) := by
        show CX8_readRun_18 _ _ = CX8_readRun_18 _ (tkL [110] (sX8_take (gM M (a + 1)) (if sX8_here (gM M (a + 1)) = 117 then true else false)))
        rw [eh1]
        rfl
      rw [if_neg ce, et, tk_g hF hM _ _ (by show a + 1 + 2 < 900; omega)]
      rw [p1'] at hrw
      rw [p4] at q4
      by_cases c : pmL n f [117, 110] (a + 1) = 2
      · right; right; right; right; right
        rw [if_neg (by decide), if_neg (by decide), if_neg (by decide), if_neg (by decide), if_pos (by omega)] at hrw
        rw [if_pos (show pmL n f [117, 110] (a + 1) = [(117 : Int32), 110].length from c)]
        exact ⟨by omega, hrw, _, rfl⟩
      · left
        rw [if_neg (by decide), if_neg (by decide), if_neg (by decide), if_neg (by decide), if_neg (by omega)] at hrw
        rw [if_neg (show ¬ pmL n f [117, 110] (a + 1) = [(117 : Int32), 110].length from c), run_b rfl]
        refine ⟨a + 1 + pmL n f [117, 110] (a + 1), ?_, by omega, bad_b _ _⟩
        rw [hrw]
        exact congrArg (fun v => ((-1 : Int32), stS T 1 (nI v))) (by omega)
  have y1 := z 114 [101, 118] cr
  have y4 := z 114 [117, 110] cr
  rw [if_neg cr]
  rw [y0, y1, y2, y4] at hrw
  by_cases cs : tch n f a = 115
  · -- stamp
    have et : sX8_readStamp (gM M a) = CX8_readStamp_90 (gM M a) (tkL [115, 116, 97, 109, 112] (gM M a)) := rfl
    rw [if_pos cs, et, tk_g hF hM _ _ (by show a + 5 < 900; omega)]
    by_cases c : pmL n f [115, 116, 97, 109, 112] a = 5
    · right; right; right; right; left
      rw [if_neg (by decide), if_neg (by decide), if_neg (by decide), if_pos c] at hrw
      rw [if_pos (show pmL n f [115, 116, 97, 109, 112] a = [(115 : Int32), 116, 97, 109, 112].length from c)]
      exact ⟨by omega, hrw, _, rfl⟩
    · left
      rw [if_neg (by decide), if_neg (by decide), if_neg (by decide), if_neg c, if_neg (by decide)] at hrw
      rw [if_neg (show ¬ pmL n f [115, 116, 97, 109, 112] a = [(115 : Int32), 116, 97, 109, 112].length from c), stamp_b rfl]
      refine ⟨a + pmL n f [115, 116, 97, 109, 112] a, ?_, q3, bad_b _ _⟩
      rw [hrw]
      exact congrArg (fun v => ((-1 : Int32), stS T 1 (nI (a + v)))) (by omega)
  have y3 := z 115 [116, 97, 109, 112] cs
  rw [if_neg cs]
  rw [y3, if_neg (by decide), if_neg (by decide), if_neg (by decide), if_neg (by decide), if_neg (by decide)] at hrw
  left
  exact ⟨a, hrw, ha, bad_b M a⟩
end
