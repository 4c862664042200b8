/-! math: the whole text; load -/
def exS (T : OF) (O0 : OF) : Nat → OF × Nat
  | 0 => (O0, 0)
  | k + 1 => ((ACT (exS T O0 k).1 (T.2 3 k) (T.2 4 k) (T.2 5 k)).2, if 0 ≤ (ACT (exS T O0 k).1 (T.2 3 k) (T.2 4 k) (T.2 5 k)).1 then (exS T O0 k).2 else (exS T O0 k).2 + 1)
theorem exS_c {T T' O0 : OF} : ∀ k, (∀ j, j < k → T.2 3 j = T'.2 3 j ∧ T.2 4 j = T'.2 4 j ∧ T.2 5 j = T'.2 5 j) → exS T O0 k = exS T' O0 k := by
  intro k
  induction k with
  | zero => intro _; rfl
  | succ k ih =>
    intro h
    have e := ih (fun j hj => h j (by omega))
    obtain ⟨h3, h4, h5⟩ := h k (by omega)
    show ((ACT (exS T O0 k).1 (T.2 3 k) (T.2 4 k) (T.2 5 k)).2, _) = ((ACT (exS T' O0 k).1 (T'.2 3 k) (T'.2 4 k) (T'.2 5 k)).2, _)
    rw [e, h3, h4, h5]
def FRT (T T' : OF) : Prop := T'.1 0 = T.1 0 ∧ T'.1 3 = T.1 3 ∧ T'.1 4 = T.1 4 ∧ T'.1 5 = T.1 5 ∧ T'.2 2 = T.2 2
def FRM (M N : MS) : Prop := (∀ k, k ≠ 3 → k ≠ 5 → k ≠ 6 → N.1.1 k = M.1.1 k) ∧ ∀ j, j ≠ 3 → N.1.2 j = M.1.2 j
theorem FRM.tr {M N K : MS} (h : FRM M N) (h' : FRM N K) : FRM M K := ⟨fun k a b c => (h'.1 k a b c).trans (h.1 k a b c), fun j a => (h'.2 j a).trans (h.2 j a)⟩
theorem FRT.tr {T U V : OF} (h : FRT T U) (h' : FRT U V) : FRT T V := ⟨h'.1.trans h.1, h'.2.1.trans h.2.1, h'.2.2.1.trans h.2.2.1, h'.2.2.2.1.trans h.2.2.2.1, h'.2.2.2.2.trans h.2.2.2.2⟩
theorem FRM.bad {M N : MS} {p : Nat} (h : BAD M p N) : FRM M N := ⟨fun k h3 _ h6 => h.2.2.1 k h3 h6, fun j _ => by rw [h.2.2.2]⟩
theorem FRM.gdn {d : Nat} {M N : MS} {q : Nat} {c : Int32 × OF} (h : GDN d M q c N) : FRM M N := ⟨h.2.2.1, h.2.2.2.1⟩
theorem kp_fr (T : OF) (q k : Nat) (w x y : Int32) : FRT T (kp T q k w x y) := ⟨rfl, rfl, rfl, rfl, rfl⟩
def TXT (n : Nat) (M : MS) (O0 T : OF) (c : Int32 × OF) (w : Int32 × MS) : Prop := (∃ p, p ≤ n ∧ c.1 = nI p ∧ w.1 = nI p ∧ FRM M w.2 ∧ FRT T c.2) ∨
  ∃ k, c.1 = -1 ∧ w.1 = -1 ∧ FRM M w.2 ∧ FRT T c.2 ∧ c.2.1 2 = nI k ∧ k ≤ 24 ∧ RO (30 * k) (exS c.2 O0 k).1 (w.2.1.2 3) ∧ w.2.1.1 5 = nI (exS c.2 O0 k).2
section
variable {n : Nat} {f : Nat → Int32} (hF : TOK n f)
theorem all_bad (M0 : MS) (F : Nat) {M N : MS} {p : Nat} (h : BAD M p N) : LX8_readAll_26 M0 (F + 1) N = (nI p, N) := by
  rw [LX8_readAll_26_eq, h.1, h.2.1, if_neg (show ¬ false = true by decide), if_neg (show ¬ false = true by decide)]
theorem ord_end (hF : TOK n f) {M : MS} (hM : CR n f M) : sX8_readOrder (gM M n) = bM M n := by
  have h120 := hF.1
  have e : tch n f n = -1 := if_neg (Nat.lt_irrefl n)
  unfold sX8_readOrder
  rw [here_e hF (gM_c hM n) (by omega) (gM_at M n), e, if_neg (by decide), if_neg (by decide), if_neg (by decide), if_neg (by decide)]
  rfl
theorem text_loop (hF : TOK n f) (O0 T0 : OF) (M0 : MS) : ∀ (m i a : Nat) (T : OF) (M : MS) (F : Nat), i + m = 24 → CT n f T → CR n f M → T.1 1 = nI a → T.1 2 = nI i → a ≤ n → 5 * i ≤ a → RO (30 * i) (exS T O0 i).1 (M.1.2 3) → M.1.1 5 = nI (exS T O0 i).2 →
    (∀ q, a + 4 ≤ q → q ≤ n → (sX8_readOrder (gM M a)).1.1 3 = nI q → n - q ≤ F) →
    TXT n M O0 T (LX2_readOrders_12 T0 (m + 1) (nI i) T) (LX8_readAll_26 M0 (F + 1) (sX8_readOrder (gM M a))) := by
  have h120 := hF.1
  intro m
  induction m with
  | zero =>
    intro i a T M F hi hT hM hp hk ha h5 ho hl hf
    have : i = 24 := by omega
    subst this
    have ea : a = n := by omega
    subst ea
    left
    rw [LX2_readOrders_12_eq, if_pos (show (24 : Int32) ≤ nI 24 by decide), ord_end hF hM, all_bad M0 F (bad_b M a)]
    exact ⟨a, Nat.le_refl _, hp, rfl, FRM.bad (bad_b M a), rfl, rfl, rfl, rfl, rfl⟩
  | succ m ih =>
    intro i a T M F hi hT hM hp hk ha h5 ho hl hf
    rw [LX2_readOrders_12_eq, if_neg (ge24 (by omega))]
    rcases order_n hF (d := 30 * i) (by omega) hT hM ho ha hp hk (by omega) with ⟨p, hp1, g1, g2⟩ | ⟨q, w, x, y, g1, g2, g3, g4⟩
    · left
      rw [g1, all_bad M0 F g2]
      exact ⟨p, hp1, rfl, rfl, FRM.bad g2, rfl, rfl, rfl, rfl, rfl⟩
    · obtain ⟨T1, eT1⟩ : ∃ T1, kp T q i w x y = T1 := ⟨_, rfl⟩
      have hT1 : CT n f T1 := by rw [← eT1]; exact hT
      have fr1 : FRT T T1 := by rw [← eT1]; exact kp_fr T q i w x y
      have p1 : T1.1 1 = nI q := by rw [← eT1]; rfl
      have k1 : T1.1 2 = nI (i + 1) := by rw [← eT1]; rfl
      have l1 : T1.1 0 = nI n := hT1.1
      have x3 : ∀ j, T1.2 3 j = upd (T.2 3) i w j := fun j => by rw [← eT1]; rfl
      have x4 : ∀ j, T1.2 4 j = upd (T.2 4) i x j := fun j => by rw [← eT1]; rfl
      have x5 : ∀ j, T1.2 5 j = upd (T.2 5) i y j := fun j => by rw [← eT1]; rfl
      have ex1 : exS T1 O0 i = exS T O0 i := exS_c i (fun j hj => by rw [x3, x4, x5, pk_un (by omega), pk_un (by omega), pk_un (by omega)]; exact ⟨rfl, rfl, rfl⟩)
      have ex2 : exS T1 O0 (i + 1) = ((ACT (exS T O0 i).1 w x y).2, if 0 ≤ (ACT (exS T O0 i).1 w x y).1 then (exS T O0 i).2 else (exS T O0 i).2 + 1) := by
        show ((ACT (exS T1 O0 i).1 (T1.2 3 i) (T1.2 4 i) (T1.2 5 i)).2, if 0 ≤ (ACT (exS T1 O0 i).1 (T1.2 3 i) (T1.2 4 i) (T1.2 5 i)).1 then (exS T1 O0 i).2 else (exS T1 O0 i).2 + 1) = _
        rw [ex1, x3, x4, x5, pk_us, pk_us, pk_us]
      rw [g1, eT1]
      dsimp only
      rw [if_pos rfl, p1, l1]
      rcases g4 with ⟨he, g5⟩ | ⟨he, g5⟩
      · -- a sign that is not allowed behind it
        left
        have hq : q < n := by
          rcases Nat.lt_or_ge q n with z | z
          · exact z
          · exact absurd (Or.inl (by omega)) he
        have hc : ¬ tch n f q = 59 := fun z => he (Or.inr z)
        rw [if_pos (nI_lt hq (by omega)), rsign_n hF hT1 (by omega) p1, if_neg hc, all_bad M0 F g5]
        dsimp only
        rw [if_neg (show ¬ false = true by decide)]
        exact ⟨q, g3, p1, rfl, FRM.bad g5, fr1⟩
      · have hN : CR n f (sX8_readOrder (gM M a)) := ⟨by rw [g5.2.2.1 2 (by decide) (by decide) (by decide)]; exact hM.1, fun j hj => by rw [g5.2.2.2.1 7 (by decide)]; exact hM.2 j hj⟩
        obtain ⟨N, eN⟩ : ∃ N, sX8_readOrder (gM M a) = N := ⟨_, rfl⟩
        rw [eN] at g5 hN hf ⊢
        have hfq := hf q g2 g3 g5.2.1
        have hro : RO (30 * (i + 1)) (exS T1 O0 (i + 1)).1 (N.1.2 3) := by
          rw [ex2]
          exact g5.2.2.2.2.2.mono (by omega)
        have hlo : N.1.1 5 = nI (exS T1 O0 (i + 1)).2 := by
          rw [ex2, g5.2.2.2.2.1, hl]
          by_cases z : 0 ≤ (ACT (exS T O0 i).1 w x y).1
          · rw [if_pos z]; dsimp only; rw [if_pos z]
          · rw [if_neg z]; dsimp only; rw [if_neg z, nI_1]
        rcases Nat.lt_or_ge q n with hq | hq
        · have hc : tch n f q = 59 := he.resolve_left (by omega)
          obtain ⟨F', rfl⟩ : ∃ F', F = F' + 1 := ⟨F - 1, by omega⟩
          have eg : N = gM N q := (gM_id g5.1 g5.2.1).symm
          have et : sX8_take N true = gM N (q + 1) := by
            rw [eg, take_g, if_pos rfl, gM_gM]
          rw [if_pos (nI_lt hq (by omega)), rsign_n hF hT1 (by omega) p1, if_pos hc]
          dsimp only
          rw [if_pos rfl, LX8_readAll_26_eq, if_pos g5.1, hN.1, g5.2.1, if_neg (nI_ge hq (by omega)), et, nI_1]
          have frN := FRM.gdn g5
          have hT2 : CT n f (stS T1 1 (nI (q + 1))) := hT1
          have ex3 : exS (stS T1 1 (nI (q + 1))) O0 (i + 1) = exS T1 O0 (i + 1) := exS_c (i + 1) (fun j _ => ⟨rfl, rfl, rfl⟩)
          rcases ih (i + 1) (q + 1) (stS T1 1 (nI (q + 1))) N F' (by omega) hT2 hN rfl k1 (by omega) (by omega) (by rw [ex3]; exact hro) (by rw [ex3]; exact hlo) (fun q' h1 h2 _ => by omega) with ⟨p, r1, r2, r3, r4, r5⟩ | ⟨k, r1, r2, r3, r4, r5, r6, r7, r8⟩
          · exact Or.inl ⟨p, r1, r2, r3, frN.tr r4, fr1.tr (FRT.tr ⟨rfl, rfl, rfl, rfl, rfl⟩ r5)⟩
          · exact Or.inr ⟨k, r1, r2, frN.tr r3, fr1.tr (FRT.tr ⟨rfl, rfl, rfl, rfl, rfl⟩ r4), r5, r6, r7, r8⟩
        · right
          have hqn : q = n := by omega
          subst hqn
          rw [if_neg (nI_nlt (Nat.le_refl _) (by omega)), LX8_readAll_26_eq, if_pos g5.1, hN.1, g5.2.1, if_pos (nI_le (Nat.le_refl _) (by omega)), if_pos g5.1]
          exact ⟨i + 1, rfl, rfl, FRM.gdn g5, fr1, k1, by omega, hro, hlo⟩
end
/-! the row of an office without sheets -/
theorem fresh_e (a : Nat → Int32) : sX8_fresh a = upd (upd (upd (fb_put a (fun _ => 0) 0 414) 5 3) 6 1) 7 5 := by
  have key : ∀ n i, i + n = 414 → LX8_fresh_2 a (n + 1) (nI i) (fb_put a (fun _ => 0) 0 i) = upd (upd (upd (fb_put a (fun _ => 0) 0 414) 5 3) 6 1) 7 5 := by
    intro n
    induction n with
    | zero =>
      intro i hi
      have : i = 414 := by omega
      subst this
      rw [LX8_fresh_2_eq]; exact if_pos (by decide)
    | succ n ih =>
      intro i hi
      have u := fb_put_succ a (fun _ => 0) 0 i
      rw [Nat.zero_add] at u
      rw [LX8_fresh_2_eq, if_neg (ge414 (by omega)), ixN (by omega), u, nI_1]
      exact ih (i + 1) (by omega)
  have k0 := key 414 0 (by omega)
  rw [fb_put_0] at k0
  unfold sX8_fresh
  rw [show upM 414 0 = 414 from upM_n0 (m := 414) (by decide)]
  exact k0
theorem fresh_0 (a : Nat → Int32) {k : Nat} (hk : k < 414) (h5 : k ≠ 5) (h6 : k ≠ 6) (h7 : k ≠ 7) : sX8_fresh a k = 0 := by
  rw [fresh_e, pk_un h7, pk_un h6, pk_un h5, fb_put_in (by omega) (by omega)]
theorem ro_fresh (O : OF) (a : Nat → Int32) : RO 0 (sX1_clear O) (sX8_fresh a) := by
  have z : ∀ k, k < 414 → k ≠ 5 → k ≠ 6 → k ≠ 7 → sX8_fresh a k = 0 := fun k hk h5 h6 h7 => fresh_0 a hk h5 h6 h7
  have v5 : sX8_fresh a 5 = 3 := by rw [fresh_e, pk_un (by decide), pk_un (by decide), pk_us]
  have v6 : sX8_fresh a 6 = 1 := by rw [fresh_e, pk_un (by decide), pk_us]
  have v7 : sX8_fresh a 7 = 5 := by rw [fresh_e, pk_us]
  have n0 : nS (sX8_fresh a) = 0 := by unfold nS; rw [z 0 (by decide) (by decide) (by decide) (by decide)]; rfl
  have n1 : nP (sX8_fresh a) = 0 := by unfold nP; rw [z 1 (by decide) (by decide) (by decide) (by decide)]; rfl
  have n2 : nW (sX8_fresh a) = 0 := by unfold nW; rw [z 2 (by decide) (by decide) (by decide) (by decide)]; rfl
  refine ⟨⟨⟨?_, ?_, ?_, ?_, ?_, ?_, ?_⟩, fun k hk => ?_, fun k hk => by rw [n0] at hk; omega, fun k hk => by rw [n1] at hk; omega, fun k hk => by rw [n2] at hk; omega⟩, ⟨?_, ?_, ?_⟩, ⟨?_, ?_, ?_, ?_⟩, ⟨fun i _ hb => ?_, fun i _ hb => ?_⟩, fun k hk => by rw [n0] at hk; omega, fun k hk => by rw [n1] at hk; omega, fun k hk => by rw [n2] at hk; omega⟩
  · rw [z 0 (by decide) (by decide) (by decide) (by decide)]; rfl
  · rw [z 8 (by decide) (by decide) (by decide) (by decide)]; rfl
  · rw [z 1 (by decide) (by decide) (by decide) (by decide)]; rfl
  · rw [z 9 (by decide) (by decide) (by decide) (by decide)]; rfl
  · rw [z 2 (by decide) (by decide) (by decide) (by decide)]; rfl
  · rw [z 3 (by decide) (by decide) (by decide) (by decide)]; rfl
  · rw [z 4 (by decide) (by decide) (by decide) (by decide)]; rfl
  · rcases (show k = 0 ∨ k = 1 ∨ k = 2 by omega) with rfl | rfl | rfl
    · rw [v5]; rfl
    · rw [v6]; rfl
    · rw [v7]; rfl
  · rw [z 0 (by decide) (by decide) (by decide) (by decide)]; decide
  · rw [z 1 (by decide) (by decide) (by decide) (by decide)]; decide
  · rw [z 2 (by decide) (by decide) (by decide) (by decide)]; decide
  · rw [z 3 (by decide) (by decide) (by decide) (by decide)]; decide
  · rw [v5]; decide
  · rw [v6]; decide
  · rw [v7]; decide
  · rw [z 8 (by decide) (by decide) (by decide) (by decide), b_0] at hb; exact nomatch hb
  · rw [z 9 (by decide) (by decide) (by decide) (by decide), b_0] at hb; exact nomatch hb
section
variable {d : Nat} {Os : Nat → OF} {T : OF} {M : MS} (h : SR d Os T M)
/-- what reading the whole text does on both sides -/
theorem text_all (h : SR d Os T M) : ∃ n, n ≤ 120 ∧ TXT n M (sX1_clear (Os 0)) T (sX2_readOrders T) (sX8_readAll M) := by
  obtain ⟨t1, t2, t3⟩ := h.2.1
  obtain ⟨n, en, hn, -⟩ := i_ex t1.1
  have hF : TOK n (M.1.2 7) := ⟨by omega, fun i hi => (t3 i (by omega)).2⟩
  have hT : CT n (M.1.2 7) (stS (stS T 1 0) 2 0) := ⟨en, fun i hi => (t3 i (by omega)).1⟩
  have hM : CR n (M.1.2 7) (msA (msS M 5 0) 3 (sX8_fresh (M.1.2 3))) := ⟨t2.trans en, fun i _ => rfl⟩
  have eM : msA (msS (msG (msS M 3 0) true) 5 0) 3 (sX8_fresh (M.1.2 3)) = gM (msA (msS M 5 0) 3 (sX8_fresh (M.1.2 3))) 0 := by
    show ((upd (upd M.1.1 3 0) 5 0, va_up M.1.2 3 (sX8_fresh (M.1.2 3))), true) = ((upd (upd M.1.1 5 0) 3 (nI 0), va_up M.1.2 3 (sX8_fresh (M.1.2 3))), true)
    have e : upd (upd M.1.1 3 0) 5 0 = upd (upd M.1.1 5 0) 3 (nI 0) := funext fun k => by
      by_cases c5 : k = 5
      · subst c5; rw [pk_us, pk_un (by decide), pk_us]
      · rw [pk_un c5]
        by_cases c3 : k = 3
        · subst c3; rw [pk_us, pk_us]; rfl
        · rw [pk_un c3, pk_un c3, pk_un c5]
    rw [e]
  have e3 : (msA (msS M 5 0) 3 (sX8_fresh (M.1.2 3))).1.2 3 = sX8_fresh (M.1.2 3) := msA_at _ _ _
  refine ⟨n, by omega, ?_⟩
  have k0 := text_loop hF (sX1_clear (Os 0)) T M 24 0 0 (stS (stS T 1 0) 2 0) (msA (msS M 5 0) 3 (sX8_fresh (M.1.2 3))) (rlM (sX8_readOrder (gM (msA (msS M 5 0) 3 (sX8_fresh (M.1.2 3))) 0))) (by decide) hT hM rfl rfl (by omega) (by omega) (by rw [e3]; exact ro_fresh _ _) rfl (fun q h1 h2 h3 => by
    have h120 := hF.1
    rcases order_n hF (d := 0) (by decide) hT hM (O := sX1_clear (Os 0)) (a := 0) (k := 0) (by rw [e3]; exact ro_fresh _ _) (by omega) rfl rfl (by decide) with ⟨p, hp1, g1, g2⟩ | ⟨q2, w, x, y, g1, g2, g3, g4⟩
    · unfold rlM
      rw [h3, g2.2.2.1 2 (by decide) (by decide), hM.1, nI_toInt (by omega), nI_toInt (by omega)]
      omega
    · have e2 : (sX8_readOrder (gM (msA (msS M 5 0) 3 (sX8_fresh (M.1.2 3))) 0)).1.1 2 = nI n := by
        rcases g4 with ⟨_, g5⟩ | ⟨_, g5⟩
        · rw [g5.2.2.1 2 (by decide) (by decide)]; exact hM.1
        · rw [g5.2.2.1 2 (by decide) (by decide) (by decide)]; exact hM.1
      unfold rlM
      rw [h3, e2, nI_toInt (by omega), nI_toInt (by omega)]
      omega)
  have e0 : FRM M (msA (msS M 5 0) 3 (sX8_fresh (M.1.2 3))) := ⟨fun k _ h5 _ => pk_un h5, fun j hj => va_up_ne _ _ hj⟩
  have e1 : FRT T (stS (stS T 1 0) 2 0) := ⟨rfl, rfl, rfl, rfl, rfl⟩
  have eu : upM 24 0 + 1 = 24 + 1 := congrArg (· + 1) (upM_n0 (m := 24) (by decide))
  unfold sX2_readOrders sX8_readAll
  rw [eM, eu]
  rcases k0 with ⟨p, r1, r2, r3, r4, r5⟩ | ⟨k, r1, r2, r3, r4, r5, r6, r7, r8⟩
  · exact Or.inl ⟨p, r1, r2, r3, e0.tr r4, e1.tr r5⟩
  · exact Or.inr ⟨k, r1, r2, e0.tr r3, e1.tr r4, r5, r6, r7, r8⟩
theorem SR_fr (h : SR d Os T M) {T' : OF} {N : MS} (hT : FRT T T') (hN : FRM M N) : SR d Os T' N := by
  obtain ⟨t1, t2, t3⟩ := h.2.1
  obtain ⟨n, c, h1, h2, h3, h4, h5, h6⟩ := h.2.2.1
  refine ⟨by rw [hN.2 1 (by decide)]; exact h.1, ⟨by rw [hT.1]; exact t1, by rw [hN.1 2 (by decide) (by decide) (by decide), hT.1]; exact t2, fun k hk => ?_⟩, ⟨n, c, h1, h2, hT.2.2.1.trans h3, hT.2.1.trans h4, (hN.1 1 (by decide) (by decide) (by decide)).trans h5, fun j hj => ?_⟩, fun s hs => ?_⟩
  · rw [hT.1] at hk
    rw [hT.2.2.2.2, hN.2 7 (by decide)]
    exact t3 k hk
  · rw [hN.2 4 (by decide)]; exact h6 j hj
  · rw [hN.2 6 (by decide), hN.2 5 (by decide), hT.2.2.2.1]
    exact h.2.2.2 s hs
theorem fc_errorPosition (h : SR d Os T M) : (sX7_errorPosition Os T).1 = (sX8_errorPosition M).1 ∧ SR d (sX7_errorPosition Os T).2.1 (sX7_errorPosition Os T).2.2 (sX8_errorPosition M).2 := by
  have h0 : SR d Os T (msS M 0 0) := h
  obtain ⟨n, hn, hx⟩ := text_all h0
  unfold sX7_errorPosition sX8_errorPosition
  generalize sX2_readOrders T = C at hx ⊢
  generalize sX8_readAll (msS M 0 0) = W at hx ⊢
  rcases hx with ⟨p, r1, r2, r3, r4, r5⟩ | ⟨k, r1, r2, r3, r4, r5, r6, r7, r8⟩
  · exact ⟨r2.trans r3.symm, SR_fr h0 r5 r4⟩
  · exact ⟨r1.trans r2.symm, SR_fr h0 r4 r3⟩
theorem load_loop {T0 T1 O0 : OF} {Os0 : Nat → OF} {k : Nat} (hk : T1.1 2 = nI k) (hk2 : k ≤ 24) : ∀ m i, i + m = k → LX7_load_46 Os0 T0 (m + 1) (nI (exS T1 O0 i).2) (nI i) (va_up Os 0 (exS T1 O0 i).1) T1 = (0, nI (exS T1 O0 k).2, (va_up Os 0 (exS T1 O0 k).1, T1)) := by
  have ec : sX2_orderCount T1 = nI k := hk
  intro m
  induction m with
  | zero =>
    intro i hi
    have : i = k := by omega
    subst this
    rw [LX7_load_46_eq, ec, if_pos (nI_le (Nat.le_refl _) (by omega))]
  | succ m ih =>
    intro i hi
    have eo : sX2_isOrder (nI i) = true := by
      unfold sX2_isOrder
      rw [if_neg (nI_pos (by omega)), if_neg (ge24 (by omega))]
    have ew : sX2_wordOf T1 (nI i) = T1.2 3 i := by unfold sX2_wordOf; rw [eo, if_pos rfl, ixN (by omega)]
    have ef : sX2_firstOf T1 (nI i) = T1.2 4 i := by unfold sX2_firstOf; rw [eo, if_pos rfl, ixN (by omega)]
    have es : sX2_secondOf T1 (nI i) = T1.2 5 i := by unfold sX2_secondOf; rw [eo, if_pos rfl, ixN (by omega)]
    have ed : sX7_doOrder (va_up Os 0 (exS T1 O0 i).1) T1 (nI i) = ((ACT (exS T1 O0 i).1 (T1.2 3 i) (T1.2 4 i) (T1.2 5 i)).1, (va_up Os 0 (exS T1 O0 (i + 1)).1, T1)) := by
      have e0 : va_up Os 0 (exS T1 O0 i).1 0 = (exS T1 O0 i).1 := va_up_self _ _ _
      have e1 : ∀ X : OF, va_up (va_up Os 0 (exS T1 O0 i).1) 0 X = va_up Os 0 X := fun X => funext fun j => by
        unfold va_up
        by_cases c : j = 0
        · rw [if_pos c, if_pos c]
        · rw [if_neg c, if_neg c, if_neg c]
      show sX7_doOrder _ _ _ = (_, (va_up Os 0 (ACT (exS T1 O0 i).1 (T1.2 3 i) (T1.2 4 i) (T1.2 5 i)).2, T1))
      unfold sX7_doOrder ACT
      rw [ew, ef, es, e0]
      by_cases c0 : T1.2 3 i = 0
      · rw [if_pos c0, if_pos c0, e1]
      rw [if_neg c0, if_neg c0]
      by_cases c1 : T1.2 3 i = 1
      · rw [if_pos c1, if_pos c1, e1]
      rw [if_neg c1, if_neg c1]
      by_cases c2 : T1.2 3 i = 2
      · rw [if_pos c2, if_pos c2, e1]
      rw [if_neg c2, if_neg c2]
      by_cases c3 : T1.2 3 i = 3
      · rw [if_pos c3, if_pos c3, e1]
      rw [if_neg c3, if_neg c3, e1]
    have el : (exS T1 O0 (i + 1)).2 = if 0 ≤ (ACT (exS T1 O0 i).1 (T1.2 3 i) (T1.2 4 i) (T1.2 5 i)).1 then (exS T1 O0 i).2 else (exS T1 O0 i).2 + 1 := rfl
    have hi2 := ih (i + 1) (by omega)
    rw [LX7_load_46_eq, ec, if_neg (nI_ge (by omega) (by omega)), ed]
    dsimp only
    rw [nI_1, nI_1]
    by_cases c : 0 ≤ (ACT (exS T1 O0 i).1 (T1.2 3 i) (T1.2 4 i) (T1.2 5 i)).1
    · rw [if_pos c]
      rw [el, if_pos c] at hi2
      exact hi2
    · rw [if_neg c]
      rw [el, if_neg c] at hi2
      exact hi2
theorem fc_load (h : SR d Os T M) (hd : 720 ≤ d) : OKF [2] d (sX7_load Os T) (sX8_load M) := by
  obtain ⟨n, hn, hx⟩ := text_all h
  unfold sX7_load sX8_load
  generalize sX2_readOrders T = C at hx ⊢
  generalize sX8_readAll M = W at hx ⊢
  rcases hx with ⟨p, r1, r2, r3, r4, r5⟩ | ⟨k, r1, r2, r3, r4, r5, r6, r7, r8⟩
  · have c1 : ¬ C.1 = -1 := by rw [r2]; exact nI_m1 (by omega)
    have c2 : ¬ W.1 = -1 := by rw [r3]; exact nI_m1 (by omega)
    have hb : (if W.1 = -1 then false else true) = true := if_neg c2
    rw [if_neg c1, hb, if_pos (show refB (b2i true) = true by decide)]
    have g := SR_fr h r5 r4
    exact ⟨Or.inr ⟨List.mem_cons_self, (show ¬ (2 : Nat) = 0 by decide), rfl⟩, g⟩
  · have hb : (if W.1 = -1 then false else true) = false := if_pos r2
    rw [if_pos r1, hb, if_neg (show ¬ refB (b2i false) = true by decide)]
    obtain ⟨T2, eT2⟩ : ∃ T2, sX5_clear (sX0_clear C.2) = T2 := ⟨_, rfl⟩
    have k2 : T2.1 2 = nI k := by rw [← eT2]; exact r5
    have ex : exS T2 (sX1_clear (Os 0)) k = exS C.2 (sX1_clear (Os 0)) k := exS_c k (fun j _ => by rw [← eT2]; exact ⟨rfl, rfl, rfl⟩)
    have t0 : T2.1 0 = T.1 0 := by rw [← eT2]; exact r4.1
    have t3 : T2.1 3 = 0 := by rw [← eT2]; rfl
    have t4 : T2.1 4 = T.1 4 := by rw [← eT2]; exact r4.2.2.1
    have t5 : T2.1 5 = 0 := by rw [← eT2]; rfl
    have tt : T2.2 2 = T.2 2 := by rw [← eT2]; exact r4.2.2.2.2
    have kl := load_loop (Os := Os) (T0 := T) (Os0 := Os) (O0 := sX1_clear (Os 0)) k2 r6 k 0 (by omega)
    have kl : LX7_load_46 Os T (k + 1) 0 0 (va_up Os 0 (sX1_clear (Os 0))) T2 = _ := kl
    have hR := copy_eq (W.2.1.2 1) (W.2.1.2 3)
    rw [eT2, k2, upM_n0 (by omega), kl, ex]
    generalize sX8_copy (W.2.1.2 1) (W.2.1.2 3) = R at hR ⊢
    generalize exS C.2 (sX1_clear (Os 0)) k = X at r7 r8 ⊢
    refine ⟨Or.inl ⟨rfl, rfl, ?_⟩, ?_, ⟨?_, ?_, fun j hj => ?_⟩, ?_, fun s hs => ?_⟩
    · show nI X.2 = W.2.1.1 5
      rw [r8]
    · show RO d (va_up Os 0 X.1 0) R
      rw [va_up_self]
      exact (r7.mono (by omega)).congr hR
    · rw [t0]; exact h.2.1.1
    · show W.2.1.1 2 = T2.1 0
      rw [t0, r3.1 2 (by decide) (by decide) (by decide)]
      exact h.2.1.2.1
    · show T2.2 2 j = W.2.1.2 7 j ∧ 0 ≤ (W.2.1.2 7 j).toInt ∧ (W.2.1.2 7 j).toInt ≤ 255
      rw [t0] at hj
      rw [tt, r3.2 7 (by decide)]
      exact h.2.1.2.2 j hj
    · obtain ⟨m, c, h1, h2, h3, h4, h5, h6⟩ := h.2.2.1
      exact ⟨m, 0, h1, by omega, t4.trans h3, t3, rfl, fun j hj => absurd hj (Nat.not_lt_zero j)⟩
    · rw [t5, b_0]
      refine ⟨?_, fun z => nomatch z⟩
      show upd (upd (W.2.1.2 6) 0 0) 1 0 s = 0
      rcases (show s = 0 ∨ s = 1 by omega) with rfl | rfl
      · rw [pk_un (by decide), pk_us]
      · rw [pk_us]
end
