/-! math: draw -/
theorem stA_id (O : OF) (j : Nat) : stA O j (O.2 j) = O := by
  have e : va_up O.2 j (O.2 j) = O.2 := funext fun k => by
    unfold va_up
    by_cases c : k = j
    · subst c; rw [if_pos rfl]
    · rw [if_neg c]
  unfold stA
  rw [e]
theorem stA_tw (O : OF) (j : Nat) (f g : Nat → Int32) : stA (stA O j f) j g = stA O j g := by
  have e : va_up (va_up O.2 j f) j g = va_up O.2 j g := funext fun k => by
    unfold va_up
    by_cases c : k = j
    · rw [if_pos c, if_pos c]
    · rw [if_neg c, if_neg c, if_neg c]
  unfold stA
  show (O.1, va_up (va_up O.2 j f) j g) = _
  rw [e]
theorem stA_at (O : OF) (j : Nat) (f : Nat → Int32) : (stA O j f).2 j = f := va_up_self _ _ _
theorem stA_w (O : OF) (j : Nat) (f : Nat → Int32) (k : Nat) (v : Int32) : stA (stA O j f) j (upd ((stA O j f).2 j) k v) = stA O j (upd f k v) := by
  rw [stA_at, stA_tw]
theorem upd_id (f : Nat → Int32) (k : Nat) : upd f k (f k) = f := funext fun j => by
  by_cases c : j = k
  · subst c; rw [pk_us]
  · rw [pk_un c]
theorem upd_tw (f : Nat → Int32) (k : Nat) (x y : Int32) : upd (upd f k x) k y = upd f k y := funext fun j => by
  by_cases c : j = k
  · subst c; rw [pk_us, pk_us]
  · rw [pk_un c, pk_un c, pk_un c]
section
variable {d : Nat} {O : OF} {r : Nat → Int32} (h : RO d O r)
def drR (r : Nat → Int32) (s : Nat) (p : Int32) : Nat → Int32 := upd (fb_put (upd (upd r (10 + s) p) (20 + s) 0) (fun _ => 0) (30 + 12 * s) 12) 0 (nI (s + 1))
theorem goDraw_e {s : Nat} {p : Int32} (hs : s < 10) (e0 : r 0 = nI s) : sX8_goDraw r p = (nI s, drR r s p) := by
  have hu : upM 12 0 = 12 := upM_n0 (m := 12) (by decide)
  have key : ∀ n i, i + n = 12 → LX8_goDraw_20 r p (n + 1) (nI i) (fb_put (upd (upd r (10 + s) p) (20 + s) 0) (fun _ => 0) (30 + 12 * s) i) = (nI s, drR r s p) := by
    intro n
    induction n with
    | zero =>
      intro i hi
      have : i = 12 := by omega
      subst this
      rw [LX8_goDraw_20_eq, if_pos (show (12 : Int32) ≤ nI 12 by decide), cl_0, e0, fb_put_out (by omega), pk_un (by omega), pk_un (by omega), e0, nI_1]
      rfl
    | succ n ih =>
      intro i hi
      rw [LX8_goDraw_20_eq, if_neg (ge12 (by omega)), cl_0, e0, ixF (by omega) (by omega), nI_1, ← ih (i + 1) (by omega), ← fb_put_succ]
      congr 2
      omega
  have k0 := key 12 0 (by omega)
  rw [fb_put_0] at k0
  unfold sX8_goDraw
  rw [cl_0, e0, ix10 (by omega), ix20 (by omega), hu]
  exact k0
theorem add_e {s : Nat} {p : Int32} (hs : s < 10) (e0 : O.1 0 = nI s) : sX4_add O p = (nI s, stS (stA (stA (stA O 5 (upd (O.2 5) s p)) 6 (upd (O.2 6) s 0)) 7 (fb_put (O.2 7) (fun _ => 0) (12 * s) 12)) 0 (nI (s + 1))) := by
  have hu : upM 12 0 = 12 := upM_n0 (m := 12) (by decide)
  obtain ⟨B, hB⟩ : ∃ B, B = stA (stA O 5 (upd (O.2 5) s p)) 6 (upd (O.2 6) s 0) := ⟨_, rfl⟩
  have b0 : B.1 0 = nI s := by rw [hB]; exact e0
  have b7 : B.2 7 = O.2 7 := by rw [hB]; rfl
  have key : ∀ n i, i + n = 12 → LX4_add_34 O p (n + 1) (nI i) (stA B 7 (fb_put (O.2 7) (fun _ => 0) (12 * s) i)) = (nI s, stS (stA B 7 (fb_put (O.2 7) (fun _ => 0) (12 * s) 12)) 0 (nI (s + 1))) := by
    intro n
    induction n with
    | zero =>
      intro i hi
      have : i = 12 := by omega
      subst this
      rw [LX4_add_34_eq, if_pos (show (12 : Int32) ≤ nI 12 by decide), e0]
      show (nI s, stS _ 0 (B.1 0 + 1)) = _
      rw [b0, nI_1]
    | succ n ih =>
      intro i hi
      rw [LX4_add_34_eq, if_neg (ge12 (by omega)), e0, ixG (by omega) (by omega), stA_w, nI_1, ← ih (i + 1) (by omega), ← fb_put_succ]
  have k0 := key 12 0 (by omega)
  rw [fb_put_0, ← b7, stA_id] at k0
  unfold sX4_add
  rw [e0, if_neg (nI_pos (by omega)), if_pos (show nI s < 10 from nI_lt (b := 10) hs (by decide)), ixN (by omega), hu, ← hB, ← b7]
  exact k0
theorem dr_o {s : Nat} {p : Int32} {k : Nat} (h0 : k ≠ 0) (ha : k ≠ 10 + s) (hb : k ≠ 20 + s) (hc : k < 30 + 12 * s ∨ 42 + 12 * s ≤ k) : drR r s p k = r k := by
  unfold drR
  rw [pk_un h0, fb_put_out (by omega), pk_un hb, pk_un ha]
theorem ro_draw (h : RO d O r) {p : Int32} (hn : nS r < 10) (hp0 : -1 ≤ p.toInt) (hp1 : p.toInt < nS r) : RO d (stS (stA (stA (stA O 5 (upd (O.2 5) (nS r) p)) 6 (upd (O.2 6) (nS r) 0)) 7 (fb_put (O.2 7) (fun _ => 0) (12 * nS r) 12)) 0 (nI (nS r + 1))) (drR r (nS r) p) := by
  have h24 := nP_le h.c
  have h30 := nW_le h.c
  obtain ⟨n, en⟩ : ∃ n, nS r = n := ⟨_, rfl⟩
  have hP := h.1.2.2.1
  have hQ := h.2.2.2.2.1
  have hB := h.2.2.2.1
  have hc := h.1.1
  have hcc := h.c
  have hp2 := h.2.2.2.2.2.1
  have hw2 := h.2.2.2.2.2.2
  unfold ROs at hP
  unfold IVs at hQ
  rw [en] at hP hQ hn hp1 ⊢
  have e : ∀ k, k ≠ 0 → (k < 10 ∨ 150 ≤ k) → drR r n p k = r k := fun k h1 hk => dr_o h1 (by omega) (by omega) (by omega)
  have v0 : drR r n p 0 = nI (n + 1) := pk_us
  have vp : drR r n p (10 + n) = p := by unfold drR; rw [pk_un (by omega), fb_put_out (by omega), pk_un (by omega), pk_us]
  have vr : drR r n p (20 + n) = 0 := by unfold drR; rw [pk_un (by omega), fb_put_out (by omega), pk_us]
  have vd : ∀ f, f < 12 → drR r n p (30 + (12 * n + f)) = 0 := fun f hf => by unfold drR; rw [pk_un (by omega), fb_put_in (by omega) (by omega)]
  have o10 : ∀ k, k < n → drR r n p (10 + k) = r (10 + k) := fun k hk => dr_o (by omega) (by omega) (by omega) (by omega)
  have o20 : ∀ k, k < n → drR r n p (20 + k) = r (20 + k) := fun k hk => dr_o (by omega) (by omega) (by omega) (by omega)
  have o30 : ∀ k f, k < n → f < 12 → drR r n p (30 + (12 * k + f)) = r (30 + (12 * k + f)) := fun k f hk hf => dr_o (by omega) (by omega) (by omega) (by omega)
  have e1 := nP_c (e 1 (by decide) (by omega))
  have e2 := nW_c (e 2 (by decide) (by omega))
  have e0 : nS (drR r n p) = n + 1 := by unfold nS; rw [v0]; exact ixN (by omega)
  have hv : ∀ k, k < nS r → (r (20 + k)).toInt ≤ (drR r n p (20 + k)).toInt := fun k hk => by rw [o20 k (by omega)]; omega
  refine ⟨⟨⟨?_, ?_, ?_, ?_, ?_, ?_, ?_⟩, fun k hk => ?_, fun k hk => ?_, ROp_c e1 h24 (fun k h1 h2 => e k (by omega) (by omega)) (fun j h1 h2 => ?_) h.1.2.2.2.1, ROw_c e2 h30 (fun k h1 h2 => e k (by omega) (by omega)) (fun j h1 h2 => ?_) h.1.2.2.2.2⟩,
    ⟨by rw [v0, nI_toInt (by omega)]; omega, by rw [e 1 (by decide) (by omega)]; exact hcc.2.1, by rw [e 2 (by decide) (by omega)]; exact hcc.2.2⟩, IVd_c (e 3 (by decide) (by omega)) (e 5 (by decide) (by omega)) (e 6 (by decide) (by omega)) (e 7 (by decide) (by omega)) h.2.2.1, ⟨?_, ?_⟩, fun k hk => ?_, IVp_c e1 h24 (by omega) (fun k h1 h2 => e k (by omega) (by omega)) hv hp2, IVw_c e2 h30 (by omega) (fun k h1 h2 => e k (by omega) (by omega)) hv hw2⟩
  · rw [v0]; rfl
  · rw [e 8 (by decide) (by omega)]; exact hc.2.1
  · rw [e 1 (by decide) (by omega)]; exact hc.2.2.1
  · rw [e 9 (by decide) (by omega)]; exact hc.2.2.2.1
  · rw [e 2 (by decide) (by omega)]; exact hc.2.2.2.2.1
  · rw [e 3 (by decide) (by omega)]; exact hc.2.2.2.2.2.1
  · rw [e 4 (by decide) (by omega)]; exact hc.2.2.2.2.2.2
  · rw [e (5 + k) (by omega) (by omega)]; exact h.1.2.1 k hk
  · rw [e0] at hk
    show upd (O.2 5) n p k = _ ∧ upd (O.2 6) n 0 k = _ ∧ ∀ f, f < 12 → fb_put (O.2 7) (fun _ => 0) (12 * n) 12 (12 * k + f) = _
    by_cases c : k = n
    · subst c
      rw [vp, vr, pk_us, pk_us]
      refine ⟨rfl, rfl, fun f hf => ?_⟩
      rw [vd f hf, fb_put_in (by omega) (by omega)]
    · obtain ⟨g1, g2, g3⟩ := hP k (by omega)
      rw [o10 k (by omega), o20 k (by omega), pk_un c, pk_un c]
      refine ⟨g1, g2, fun f hf => ?_⟩
      rw [o30 k f (by omega) hf, fb_put_out (by omega)]
      exact g3 f hf
  · match j, h1, h2 with
    | 8, _, _ => rfl
    | 9, _, _ => rfl
    | 10, _, _ => rfl
    | 11, _, _ => rfl
    | 12, _, _ => rfl
    | 13, _, _ => rfl
    | j + 14, _, h2 => exact absurd h2 (by omega)
  · match j, h1, h2 with
    | 14, _, _ => rfl
    | 15, _, _ => rfl
    | 16, _, _ => rfl
    | 17, _, _ => rfl
    | j + 18, _, h2 => exact absurd h2 (by omega)
  · intro i hi hb
    rw [e 8 (by decide) (by omega)] at hb
    have := hB.1 i hi hb
    omega
  · rw [e 9 (by decide) (by omega), e1]; exact hB.2
  · rw [e0] at hk
    by_cases c : k = n
    · subst c
      rw [vp, vr]
      refine ⟨⟨hp0, hp1⟩, by decide, fun f hf => ?_⟩
      rw [vd f hf]
      decide
    · obtain ⟨g1, g2, g3⟩ := hQ k (by omega)
      rw [o10 k (by omega), o20 k (by omega)]
      refine ⟨g1, g2, fun f hf => ?_⟩
      rw [o30 k f (by omega) hf]
      exact g3 f hf
theorem a_draw (h : RO d O r) (x : Int32) :
    (¬ x = -1 ∧ sX8_hasSheet r x = false ∧ sX1_addSheet O x = (-2, O)) ∨ ((x = -1 ∨ sX8_hasSheet r x = true) ∧ sX8_canDraw r = false ∧ sX1_addSheet O x = (-4, O)) ∨
    ((x = -1 ∨ sX8_hasSheet r x = true) ∧ sX8_canDraw r = true ∧ OKA d (sX1_addSheet O x) (sX8_goDraw r x)) := by
  have h10 := nS_le h.c
  have e1 := nS_e h.c
  have ec : O.1 0 = nI (nS r) := by rw [h.1.1.1, e1]
  have e9 : sX8_canDraw r = decide (nS r < 10) := by
    unfold sX8_canDraw
    rw [show r (0 : Int32).toNatClampNeg = nI (nS r) from e1]
    by_cases c : nS r < 10
    · rw [if_neg (ge10 c), decide_eq_true c]
    · rw [if_pos (show (10 : Int32) ≤ nI (nS r) from nI_le (a := 10) (b := nS r) (by omega) (by omega)), decide_eq_false c]
  have main : -1 ≤ x.toInt → x.toInt < nS r → (sX8_canDraw r = false ∧ ((sX4_add O x).1, (sX4_add O x).2) = (-4, O)) ∨ (sX8_canDraw r = true ∧ OKA d ((sX4_add O x).1, (sX4_add O x).2) (sX8_goDraw r x)) := by
    intro b1 b2
    rw [e9]
    by_cases c : nS r < 10
    · right
      rw [decide_eq_true c, goDraw_e c e1, add_e c ec]
      refine ⟨rfl, ?_, rfl, ro_draw h c b1 b2⟩
      show 0 ≤ (nI (nS r)).toInt
      rw [nI_toInt (by omega)]
      omega
    · left
      rw [decide_eq_false c]
      unfold sX4_add
      rw [ec, if_neg (nI_pos (by omega)), if_neg (show ¬ nI (nS r) < 10 from nI_nlt (b := 10) (by omega) (by omega))]
      exact ⟨rfl, rfl⟩
  unfold sX1_addSheet
  rw [q_hasS h]
  by_cases c0 : x = -1
  · rw [if_pos c0]
    have z : x.toInt = -1 := by rw [c0]; rfl
    rcases main (by omega) (by omega) with ⟨a1, a2⟩ | ⟨a1, a2⟩
    · exact Or.inr (Or.inl ⟨Or.inl c0, a1, a2⟩)
    · exact Or.inr (Or.inr ⟨Or.inl c0, a1, a2⟩)
  · rw [if_neg c0]
    cases c1 : sX8_hasSheet r x
    · exact Or.inl ⟨c0, rfl, rfl⟩
    · have z := (hasS_iff h.c x).mp c1
      rw [if_pos rfl]
      rcases main (by omega) (by omega) with ⟨a1, a2⟩ | ⟨a1, a2⟩
      · exact Or.inr (Or.inl ⟨Or.inr rfl, a1, a2⟩)
      · exact Or.inr (Or.inr ⟨Or.inr rfl, a1, a2⟩)
end
