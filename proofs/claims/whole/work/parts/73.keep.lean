/-! math: what is remembered and saved -/
theorem copyO {d : Nat} {O P : OF} {r : Nat → Int32} (h : RO d P r) : RO d (sX1_copyFrom O P) r := by
  have h10 := nS_le h.c
  have h24 := nP_le h.c
  have h30 := nW_le h.c
  have cp : ∀ (f g : Nat → Int32) (n k : Nat), k < n → va_cpy f g 0 0 n k = f k := fun f g n k hk => by
    unfold va_cpy
    rw [if_pos (by omega), Nat.zero_add, Nat.sub_zero]
  refine ⟨⟨h.1.1, fun k hk => ?_, fun k hk => ?_, fun k hk => ?_, fun k hk => ?_⟩, h.2⟩
  · show va_cpy (P.2 4) _ 0 0 3 k = _
    rw [cp _ _ _ _ hk]; exact h.1.2.1 k hk
  · obtain ⟨g1, g2, g3⟩ := h.1.2.2.1 k hk
    show va_cpy (P.2 5) _ 0 0 10 k = _ ∧ va_cpy (P.2 6) _ 0 0 10 k = _ ∧ ∀ f, f < 12 → va_cpy (P.2 7) _ 0 0 120 (12 * k + f) = _
    rw [cp _ _ _ _ (by omega), cp _ _ _ _ (by omega)]
    refine ⟨g1, g2, fun f hf => ?_⟩
    rw [cp _ _ _ _ (by omega)]
    exact g3 f hf
  · show va_cpy (P.2 8) _ 0 0 24 k = _ ∧ va_cpy (P.2 9) _ 0 0 24 k = _ ∧ va_cpy (P.2 10) _ 0 0 24 k = _ ∧ va_cpy (P.2 11) _ 0 0 24 k = _ ∧ va_cpy (P.2 12) _ 0 0 24 k = _ ∧ va_cpy (P.2 13) _ 0 0 24 k = _
    rw [cp _ _ _ _ (by omega), cp _ _ _ _ (by omega), cp _ _ _ _ (by omega), cp _ _ _ _ (by omega), cp _ _ _ _ (by omega), cp _ _ _ _ (by omega)]
    exact h.1.2.2.2.1 k hk
  · show va_cpy (P.2 14) _ 0 0 30 k = _ ∧ va_cpy (P.2 15) _ 0 0 30 k = _ ∧ va_cpy (P.2 16) _ 0 0 30 k = _ ∧ va_cpy (P.2 17) _ 0 0 30 k = _
    rw [cp _ _ _ _ (by omega), cp _ _ _ _ (by omega), cp _ _ _ _ (by omega), cp _ _ _ _ (by omega)]
    exact h.1.2.2.2.2 k hk
theorem ix414 {c i : Nat} (hc : c < 100) (hi : i < 1000) : ((414 : Int32) * nI c + nI i).toNatClampNeg = 414 * c + i := by
  have e : (414 : Int32) * nI c + nI i = nI (414 * c + i) := by
    show nI 414 * nI c + nI i = _
    rw [pk_mul, nI_add]
  rw [e, nI_clamp (by omega)]
theorem ix414a {i : Nat} (hi : i < 100000) : ((414 : Int32) + nI i).toNatClampNeg = 414 + i := ix 414 i (by omega)
theorem msA_w (M : MS) (j : Nat) (f : Nat → Int32) (k : Nat) (v : Int32) : msA (msA M j f) j (upd ((msA M j f).1.2 j) k v) = msA M j (upd f k v) := by
  show (stA (stA M.1 j f) j (upd ((stA M.1 j f).2 j) k v), M.2) = _
  rw [stA_w]
  rfl
theorem msA_id (M : MS) (j : Nat) : msA M j (M.1.2 j) = M := by
  show (stA M.1 j (M.1.2 j), M.2) = M
  rw [stA_id]
theorem msA_at (M : MS) (j : Nat) (f : Nat → Int32) : (msA M j f).1.2 j = f := va_up_self _ _ _
theorem msA_un (M : MS) {j i : Nat} (f : Nat → Int32) (h : i ≠ j) : (msA M j f).1.2 i = M.1.2 i := va_up_ne _ _ h
theorem rem52 {N : MS} {c : Nat} (hc : c < 14) {M : MS} (e : M.1.1 1 = nI c) : LX8_remember_52 N (upM 414 0 + 1) 0 M = msS (msA M 4 (fb_put (M.1.2 4) (M.1.2 1) (414 * c) 414)) 1 (nI (c + 1)) := by
  have key : ∀ n i, i + n = 414 → LX8_remember_52 N (n + 1) (nI i) (msA M 4 (fb_put (M.1.2 4) (M.1.2 1) (414 * c) i)) = msS (msA M 4 (fb_put (M.1.2 4) (M.1.2 1) (414 * c) 414)) 1 (nI (c + 1)) := by
    intro n
    induction n with
    | zero =>
      intro i hi
      have : i = 414 := by omega
      subst this
      rw [LX8_remember_52_eq, if_pos (by decide)]
      show msS _ 1 (M.1.1 1 + 1) = _
      rw [e, nI_1]
    | succ n ih =>
      intro i hi
      have e1 : (msA M 4 (fb_put (M.1.2 4) (M.1.2 1) (414 * c) i)).1.1 1 = nI c := e
      have e2 : (msA M 4 (fb_put (M.1.2 4) (M.1.2 1) (414 * c) i)).1.2 1 = M.1.2 1 := rfl
      rw [LX8_remember_52_eq, if_neg (ge414 (by omega)), e1, e2, ix414 (by omega) (by omega), ixN (by omega), msA_w, fb_put_succ, nI_1]
      exact ih (i + 1) (by omega)
  have k0 := key 414 0 (by omega)
  rw [fb_put_0, msA_id] at k0
  rw [show upM 414 0 = 414 from upM_n0 (m := 414) (by decide)]
  exact k0
theorem rem_lt {c : Nat} (hc : c < 14) {M : MS} (e : M.1.1 1 = nI c) : sX8_remember M = msS (msA M 4 (fb_put (M.1.2 4) (M.1.2 1) (414 * c) 414)) 1 (nI (c + 1)) := by
  unfold sX8_remember
  rw [e, if_neg (fun z => by have := (nI_eq (a := c) (b := 14) (by omega) (by omega)).mp z; omega)]
  exact rem52 hc e
theorem rem_14 {M : MS} (e : M.1.1 1 = nI 14) : sX8_remember M = msS (msA (msS (msA M 4 (fb_put (M.1.2 4) (fun k => M.1.2 4 (414 + k)) 0 5382)) 1 (nI 13)) 4 (fb_put (fb_put (M.1.2 4) (fun k => M.1.2 4 (414 + k)) 0 5382) (M.1.2 1) (414 * 13) 414)) 1 (nI (13 + 1)) := by
  obtain ⟨B, hB⟩ : ∃ B, B = M.1.2 4 := ⟨_, rfl⟩
  have key : ∀ n i, i + n = 5382 → LX8_remember_11 M (n + 1) (nI i) (msA M 4 (fb_put B (fun k => B (414 + k)) 0 i)) = msS (msA (msS (msA M 4 (fb_put B (fun k => B (414 + k)) 0 5382)) 1 (nI 13)) 4 (fb_put (fb_put B (fun k => B (414 + k)) 0 5382) (M.1.2 1) (414 * 13) 414)) 1 (nI (13 + 1)) := by
    intro n
    induction n with
    | zero =>
      intro i hi
      have : i = 5382 := by omega
      subst this
      rw [LX8_remember_11_eq, if_pos (by decide)]
      have e1 : (msA M 4 (fb_put B (fun k => B (414 + k)) 0 5382)).1.1 1 = nI 14 := e
      rw [e1, nI_pred]
      exact rem52 (by decide) (M := msS (msA M 4 (fb_put B (fun k => B (414 + k)) 0 5382)) 1 (nI 13)) rfl
    | succ n ih =>
      intro i hi
      have u := fb_put_succ B (fun k => B (414 + k)) 0 i
      rw [Nat.zero_add] at u
      rw [LX8_remember_11_eq, if_neg (ge5382 (by omega)), ix414a (by omega), nI_clamp (show i < 2 ^ 31 by omega), msA_w, msA_at, fb_put_out (k := 414 + i) (by omega), u, nI_1]
      exact ih (i + 1) (by omega)
  have k0 := key 5382 0 (by omega)
  rw [fb_put_0, hB, msA_id] at k0
  unfold sX8_remember
  rw [if_pos (show M.1.1 1 = 14 from e), show upM 5382 0 = 5382 from upM_n0 (m := 5382) (by decide)]
  exact k0
theorem up_self (f : Nat → OF) (k : Nat) : va_up f k (f k) = f := funext fun j => by
  unfold va_up
  by_cases c : j = k
  · subst c; rw [if_pos rfl]
  · rw [if_neg c]
section
variable {d : Nat} {Os : Nat → OF} {T : OF} {M : MS} (h : SR d Os T M)
theorem SR.mono {d' : Nat} (hd : d ≤ d') (h : SR d Os T M) : SR d' Os T M := by
  obtain ⟨n, c, h1, h2, h3, h4, h5, h6⟩ := h.2.2.1
  exact ⟨h.1.mono hd, h.2.1, ⟨n, c, h1, h2, h3, h4, h5, fun j hj => (h6 j hj).mono hd⟩, fun s hs => ⟨(h.2.2.2 s hs).1, fun q => ((h.2.2.2 s hs).2 q).mono hd⟩⟩
/-- an action that is refused -/
theorem hold_SR (h : SR d Os T M) : SR d (sX0_hold Os T).1 T M := by
  obtain ⟨n, c, h1, h2, h3, h4, h5, h6⟩ := h.2.2.1
  have e : sX0_hold Os T = (va_up Os (2 + n) (sX1_copyFrom (Os (2 + n)) (Os 0)), T) := by
    unfold sX0_hold
    rw [h3, ixN (by omega)]
  rw [e]
  have e0 : ∀ k, k ≠ 2 + n → va_up Os (2 + n) (sX1_copyFrom (Os (2 + n)) (Os 0)) k = Os k := fun k hk => va_up_ne _ _ hk
  refine ⟨?_, h.2.1, ⟨n, c, h1, h2, h3, h4, h5, fun j hj => ?_⟩, fun s hs => ⟨(h.2.2.2 s hs).1, fun q => ?_⟩⟩
  · show RO d (va_up Os (2 + n) (sX1_copyFrom (Os (2 + n)) (Os 0)) 0) _
    rw [e0 0 (by omega)]; exact h.1
  · show RO d (va_up Os (2 + n) (sX1_copyFrom (Os (2 + n)) (Os 0)) (2 + (n + 15 - c + j) % 15)) _
    rw [e0 _ (by omega)]; exact h6 j hj
  · show RO d (va_up Os (2 + n) (sX1_copyFrom (Os (2 + n)) (Os 0)) (17 + s)) _
    rw [e0 _ (by omega)]; exact (h.2.2.2 s hs).2 q
theorem hold_0 (h : SR d Os T M) : (sX0_hold Os T).1 0 = Os 0 := by
  obtain ⟨n, c, h1, h2, h3, h4, h5, h6⟩ := h.2.2.1
  unfold sX0_hold
  rw [h3, ixN (by omega)]
  exact va_up_ne _ _ (by omega)
/-- an action that is done -/
theorem kept_SR {d' : Nat} (hd : d ≤ d') (h : SR d Os T M) {O' : OF} {r' : Nat → Int32} (ho : RO d' O' r') : SR d' (va_up (sX0_hold Os T).1 0 O') (sX0_rememberHeld T) (msA (sX8_remember (msS M 0 0)) 1 r') := by
  obtain ⟨n, c, h1, h2, h3, h4, h5, h6⟩ := h.2.2.1
  have e : (sX0_hold Os T).1 = va_up Os (2 + n) (sX1_copyFrom (Os (2 + n)) (Os 0)) := by
    unfold sX0_hold
    rw [h3, ixN (by omega)]
  rw [e]
  have g0 : ∀ k, k ≠ 0 → k ≠ 2 + n → va_up (va_up Os (2 + n) (sX1_copyFrom (Os (2 + n)) (Os 0))) 0 O' k = Os k := fun k hk hk2 => by rw [va_up_ne _ _ hk, va_up_ne _ _ hk2]
  have g1 : va_up (va_up Os (2 + n) (sX1_copyFrom (Os (2 + n)) (Os 0))) 0 O' (2 + n) = sX1_copyFrom (Os (2 + n)) (Os 0) := by rw [va_up_ne _ _ (by omega), va_up_self]
  have hX : RO d' (sX1_copyFrom (Os (2 + n)) (Os 0)) (M.1.2 1) := (copyO h.1).mono hd
  have t4 : (sX0_rememberHeld T).1 4 = nI ((n + 1) % 15) := by
    show ((T.1 4) + 1) - ((T.1 4) + 1) / 15 * 15 = _
    rw [h3, nI_1]
    exact pk_rem (a := n + 1) (d := 15) (by omega) (by decide) (by decide)
  have hsl : ∀ N : MS, N.1.2 6 = M.1.2 6 → N.1.2 5 = M.1.2 5 → SLr d' (va_up (va_up Os (2 + n) (sX1_copyFrom (Os (2 + n)) (Os 0))) 0 O') (sX0_rememberHeld T) N := fun N n6 n5 s hs => by
    have t5 : (sX0_rememberHeld T).1 5 = T.1 5 := rfl
    rw [n6, n5, t5]
    refine ⟨(h.2.2.2 s hs).1, fun q => ?_⟩
    rw [g0 _ (by omega) (by omega)]
    exact ((h.2.2.2 s hs).2 q).mono hd
  rcases Nat.lt_or_ge c 14 with hc | hc
  · rw [rem_lt (M := msS M 0 0) hc h5]
    have t3 : (sX0_rememberHeld T).1 3 = nI (c + 1) := by
      show (if 14 < (T.1 3) + 1 then 14 else (T.1 3) + 1) = _
      rw [h4, nI_1, if_neg (show ¬ (14 : Int32) < nI (c + 1) from nI_nlt (a := 14) (b := c + 1) (by omega) (by decide))]
    refine ⟨ho, h.2.1, ⟨(n + 1) % 15, c + 1, by omega, by omega, t4, t3, rfl, fun j hj => ?_⟩, hsl _ rfl rfl⟩
    rcases Nat.lt_or_ge j c with q | q
    · have ei : ((n + 1) % 15 + 15 - (c + 1) + j) % 15 = (n + 15 - c + j) % 15 := by omega
      rw [ei, g0 _ (by omega) (by omega)]
      refine ((h6 j q).mono hd).congr (fun k _ hk => ?_)
      show fb_put (M.1.2 4) (M.1.2 1) (414 * c) 414 (414 * j + k) = _
      rw [fb_put_out (by omega)]
    · have ej : j = c := by omega
      subst ej
      have ei : ((n + 1) % 15 + 15 - (j + 1) + j) % 15 = n := by omega
      rw [ei, g1]
      refine hX.congr (fun k _ hk => ?_)
      show fb_put (M.1.2 4) (M.1.2 1) (414 * j) 414 (414 * j + k) = _
      rw [fb_put_in (by omega) (by omega)]
      exact congrArg _ (by omega)
  · have ec : c = 14 := by omega
    subst ec
    rw [rem_14 (M := msS M 0 0) h5]
    have t3 : (sX0_rememberHeld T).1 3 = nI 14 := by
      show (if 14 < (T.1 3) + 1 then 14 else (T.1 3) + 1) = _
      rw [h4, nI_1, if_pos (show (14 : Int32) < nI (14 + 1) by decide)]
      rfl
    refine ⟨ho, h.2.1, ⟨(n + 1) % 15, 14, by omega, by omega, t4, t3, rfl, fun j hj => ?_⟩, hsl _ rfl rfl⟩
    rcases Nat.lt_or_ge j 13 with q | q
    · have ei : ((n + 1) % 15 + 15 - 14 + j) % 15 = (n + 15 - 14 + (j + 1)) % 15 := by omega
      rw [ei, g0 _ (by omega) (by omega)]
      refine ((h6 (j + 1) (by omega)).mono hd).congr (fun k _ hk => ?_)
      show fb_put (fb_put (M.1.2 4) (fun k => M.1.2 4 (414 + k)) 0 5382) (M.1.2 1) (414 * 13) 414 (414 * j + k) = _
      rw [fb_put_out (by omega), fb_put_in (by omega) (by omega)]
      show M.1.2 4 (414 + (414 * j + k - 0)) = M.1.2 4 (414 * (j + 1) + k)
      exact congrArg _ (by omega)
    · have ej : j = 13 := by omega
      subst ej
      have ei : ((n + 1) % 15 + 15 - 14 + 13) % 15 = n := by omega
      rw [ei, g1]
      refine hX.congr (fun k _ hk => ?_)
      show fb_put (fb_put (M.1.2 4) (fun k => M.1.2 4 (414 + k)) 0 5382) (M.1.2 1) (414 * 13) 414 (414 * 13 + k) = _
      rw [fb_put_in (by omega) (by omega)]
      exact congrArg _ (by omega)
theorem rem_1 (h : SR d Os T M) : (sX8_remember (msS M 0 0)).1.2 1 = M.1.2 1 ∧ (sX8_remember (msS M 0 0)).1.1 0 = 0 := by
  obtain ⟨n, c, h1, h2, h3, h4, h5, h6⟩ := h.2.2.1
  rcases Nat.lt_or_ge c 14 with hc | hc
  · rw [rem_lt (M := msS M 0 0) hc h5]; exact ⟨rfl, rfl⟩
  · have ec : c = 14 := by omega
    subst ec
    rw [rem_14 (M := msS M 0 0) h5]; exact ⟨rfl, rfl⟩
theorem kept_r2 (Os : Nat → OF) (T : OF) : sX7_keptAnswer Os T (-2) = (3, 0, (Os, T)) := by unfold sX7_keptAnswer; rw [if_pos rfl]
theorem kept_r3 (Os : Nat → OF) (T : OF) : sX7_keptAnswer Os T (-3) = (1, 0, (Os, T)) := by unfold sX7_keptAnswer; rw [if_neg (by decide), if_pos rfl]
theorem kept_r4 (Os : Nat → OF) (T : OF) : sX7_keptAnswer Os T (-4) = (2, 0, (Os, T)) := by unfold sX7_keptAnswer; rw [if_neg (by decide), if_neg (by decide), if_pos rfl]
theorem kept_ok (Os : Nat → OF) (T : OF) {x : Int32} (hx : 0 ≤ x.toInt) : sX7_keptAnswer Os T x = (0, x, (Os, sX0_rememberHeld T)) := by
  unfold sX7_keptAnswer
  rw [if_neg (fun e => by rw [e] at hx; exact absurd hx (by decide)), if_neg (fun e => by rw [e] at hx; exact absurd hx (by decide)), if_neg (fun e => by rw [e] at hx; exact absurd hx (by decide))]
/-- an action of the face, out of what it does to an office -/
theorem fc_x (h : SR d Os T M) {hs : List Nat} {V : Nat × Int32 × TSt} {W : Int32 × MS} {c : Int32 × OF} {k : Nat} {a z : Int32}
    (hV : V = sX7_keptAnswer (va_up (sX0_hold Os T).1 0 c.2) T c.1) (hc : c = (a, Os 0)) (hk : sX7_keptAnswer (va_up (sX0_hold Os T).1 0 c.2) T a = (k, 0, (va_up (sX0_hold Os T).1 0 c.2, T))) (h1 : k ∈ hs) (h2 : ¬ k = 0) (hW : W = (0, msS M 0 z)) (e : z = nI (hs.idxOf k + 1)) : OKF hs d V W := by
  have e1 : c.1 = a := by rw [hc]
  have e2 : c.2 = (sX0_hold Os T).1 0 := by rw [hc, hold_0 h]
  rw [hV, e1, hk, hW, e2, up_self]
  exact ok_x (hold_SR h) 0 0 h1 h2 e
theorem fc_v {d' : Nat} (hd : d ≤ d') (h : SR d Os T M) {hs : List Nat} {V : Nat × Int32 × TSt} {W : Int32 × MS} {c : Int32 × OF} {g : Int32 × (Nat → Int32)}
    (hV : V = sX7_keptAnswer (va_up (sX0_hold Os T).1 0 c.2) T c.1) (hO : OKA d' c g) (hW : W = (g.1, msA (sX8_remember (msS M 0 0)) 1 g.2)) : OKF hs d' V W := by
  rw [hV, kept_ok _ _ hO.1, hW]
  refine ⟨Or.inl ⟨rfl, (rem_1 h).2, hO.2.1⟩, kept_SR hd h hO.2.2⟩
theorem kept_e {v : Nat × Int32 × TSt} : (if v.1 = 0 then (0, v.2.1, (v.2.2.1, v.2.2.2)) else (v.1, 0, (v.2.2.1, v.2.2.2))) = (v.1, if v.1 = 0 then v.2.1 else 0, v.2.2) := by
  by_cases c : v.1 = 0
  · rw [if_pos c, if_pos c, c]
  · rw [if_neg c, if_neg c]
theorem kept_z (Os : Nat → OF) (T : OF) (x : Int32) : (if (sX7_keptAnswer Os T x).1 = 0 then (0, (sX7_keptAnswer Os T x).2.1, ((sX7_keptAnswer Os T x).2.2.1, (sX7_keptAnswer Os T x).2.2.2)) else ((sX7_keptAnswer Os T x).1, 0, ((sX7_keptAnswer Os T x).2.2.1, (sX7_keptAnswer Os T x).2.2.2))) = sX7_keptAnswer Os T x := by
  unfold sX7_keptAnswer
  by_cases c1 : x = -2
  · rw [if_pos c1]; rfl
  · rw [if_neg c1]
    by_cases c2 : x = -3
    · rw [if_pos c2]; rfl
    · rw [if_neg c2]
      by_cases c3 : x = -4
      · rw [if_pos c3]; rfl
      · rw [if_neg c3]; rfl
end
