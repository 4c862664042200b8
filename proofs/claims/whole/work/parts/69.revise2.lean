/-! math: revise, the states behind it -/
section
variable {d : Nat} {O : OF} {r : Nat → Int32} (h : RO d O r)
theorem rv_o {s : Nat} {c : Int32} (h24 : nP r ≤ 24) {k : Nat} (h8 : k ≠ 8) (h20 : k ≠ 20 + s) (h30 : k < 30 + 12 * s ∨ 42 + 12 * s ≤ k) (h270 : k < 270 ∨ 294 ≤ k) : rvR r s c k = r k := by
  unfold rvR rv3 rv1
  rw [fb_put_out (by omega), pk_un h8, fb_put_out (by omega), pk_un h20]
theorem rv_8 {s : Nat} {c : Int32} : rvR r s c 8 = rvV r s := by
  unfold rvR rv3
  rw [fb_put_out (by omega), pk_us]
theorem rv_20 {s : Nat} {c : Int32} (hs : s < 10) : rvR r s c (20 + s) = r (20 + s) + 1 := by
  unfold rvR rv3 rv1
  rw [fb_put_out (by omega), pk_un (by omega), fb_put_out (by omega), pk_us]
theorem rv_30 {s f : Nat} {c : Int32} (hs : s < 10) (hf : f < 12) : rvR r s c (30 + (12 * s + f)) = rvG r s c f := by
  unfold rvR rv3 rv1
  rw [fb_put_out (by omega), pk_un (by omega), fb_put_in (by omega) (by omega)]
  exact congrArg _ (by omega)
theorem rv_270 {s p : Nat} {c : Int32} (hp : p < nP r) : rvR r s c (270 + p) = rvD r s p := by
  unfold rvR
  rw [fb_put_in (by omega) (by omega)]
  exact congrArg _ (by omega)
theorem rvV_bt (h : RO d O r) {s : Nat} (hs : s < nS r) {i : Nat} (hi : i < 32) : bt (rvV r s) i = ((bt (r 8) i && !decide (i = s)) || decide (i ∈ ups r (r (10 + s)))) := by
  have h10 := nS_le h.c
  unfold rvV
  rw [orb_bt _ _ (fun j hj => by have := ups32 h hs j hj; omega) i hi, b_clr (by omega) hi]
def rvO (O : OF) (r : Nat → Int32) (s : Nat) (c : Int32) : OF := sX4_drawAnew (sX3_recallAllOf O (nI s) (r 3 + r 5)) (nI s) c
theorem rvO_e (h : RO d O r) {s : Nat} (hs : s < nS r) (c : Int32) : rvO O r s c = sX4_markChecked (stS (stA (stA (stA O 13 (fb_put (O.2 13) (rcG O r s (r 3 + r 5)) 0 (nP r))) 6 (upd (O.2 6) s (r (20 + s) + 1))) 7 (fb_put (O.2 7) (rvG r s c) (12 * s) 12)) 1 (r 8 ||| sX4_above O (nI s))) (nI s) := by
  have h10 := nS_le h.c
  have g := h.1.2.2.1 s hs
  unfold rvO
  rw [recallAll_e h hs]
  obtain ⟨B, hB⟩ : ∃ B, B = stA O 13 (fb_put (O.2 13) (rcG O r s (r 3 + r 5)) 0 (nP r)) := ⟨_, rfl⟩
  rw [← hB]
  have b6 : B.2 6 = O.2 6 := by rw [hB]; rfl
  have b7 : B.2 7 = O.2 7 := by rw [hB]; rfl
  have b1 : B.1 1 = r 8 := by rw [hB]; exact h.1.1.2.1
  have hh : sX4_has B (nI s) = true := by
    have e : sX4_has B (nI s) = sX4_has O (nI s) := by rw [hB]; rfl
    rw [e, q_hasS h]; exact hasS_nI h.c hs
  rw [drawAnew_e (B := B) (by omega) c hh (sX4_above O (nI s)) (above_c (by rw [hB]; rfl) (by rw [hB]; rfl) _), b6, b7, b1, g.2.1]
  have e7 : fb_put (O.2 7) (dwG (stA B 6 (upd (O.2 6) s (r (20 + s) + 1))) s c) (12 * s) 12 = fb_put (O.2 7) (rvG r s c) (12 * s) 12 := fb_put_cong (fun _ _ => rfl) (fun f hf => by
    unfold dwG rvG
    have e6 : (stA B 6 (upd (O.2 6) s (r (20 + s) + 1))).2 6 s = r (20 + s) + 1 := by rw [stA_at, pk_us]
    have e77 : (stA B 6 (upd (O.2 6) s (r (20 + s) + 1))).2 7 (12 * s + f) = r (30 + (12 * s + f)) := by
      show B.2 7 (12 * s + f) = _
      rw [b7]; exact g.2.2 f hf
    rw [e6, e77])
  rw [e7]
theorem ro_revise (h : RO d O r) (hd : d ≤ 1000000) {s : Nat} (hs : s < nS r) (c : Int32) (h99 : (r (20 + s)).toInt < 99) : RO d (rvO O r s c) (rvR r s c) := by
  have h10 := nS_le h.c
  have h24 := nP_le h.c
  have h30 := nW_le h.c
  have hc := h.1.1
  have hcc := h.c
  rw [rvO_e h hs c]
  have hg := (h.2.2.2.2.1 s hs).2.1
  have z1 : (1 : Int32).toInt = 1 := rfl
  have eR : (r (20 + s) + 1).toInt = (r (20 + s)).toInt + 1 := by rw [fb_addI (by omega) (by omega)]; omega
  have e : ∀ k, k ≠ 8 → (k < 10 ∨ (150 ≤ k ∧ k < 270) ∨ 294 ≤ k) → rvR r s c k = r k := fun k h8 hk => rv_o h24 h8 (by omega) (by omega) (by omega)
  have o10 : ∀ k, k < 10 → rvR r s c (10 + k) = r (10 + k) := fun k hk => rv_o h24 (by omega) (by omega) (by omega) (by omega)
  have o20 : ∀ k, k < 10 → k ≠ s → rvR r s c (20 + k) = r (20 + k) := fun k hk hk2 => rv_o h24 (by omega) (by omega) (by omega) (by omega)
  have o30 : ∀ k f, k < 10 → k ≠ s → f < 12 → rvR r s c (30 + (12 * k + f)) = r (30 + (12 * k + f)) := fun k f hk hk2 hf => rv_o h24 (by omega) (by omega) (by omega) (by omega)
  have e0 := nS_c (e 0 (by decide) (by omega))
  have e1 := nP_c (e 1 (by decide) (by omega))
  have e2 := nW_c (e 2 (by decide) (by omega))
  have hv : ∀ k, k < nS r → (r (20 + k)).toInt ≤ (rvR r s c (20 + k)).toInt := fun k hk => by
    by_cases q : k = s
    · subst q; rw [rv_20 (by omega), eR]; omega
    · rw [o20 k (by omega) q]; omega
  have vG : ∀ f, f < 12 → 0 ≤ (rvG r s c f).toInt ∧ (rvG r s c f).toInt ≤ (r (20 + s)).toInt + 1 := fun f hf => by
    have g3 := (h.2.2.2.2.1 s hs).2.2 f hf
    unfold rvG
    by_cases q : bt c f = true
    · rw [if_pos q, eR]; omega
    · rw [if_neg q]; omega
  have hv8 : (r 8 ||| sX4_above O (nI s)) &&& ((1 <<< (nI s &&& 31)) ^^^ (-1)) = rvV r s := b_ext (fun i hi => by
    rw [b_clr (by omega) hi, b_or, above_bt h hs hi, rvV_bt h hs hi]
    by_cases q : i = s
    · subst q
      have : ¬ i ∈ ups r (r (10 + i)) := fun z => by have := (ups_par h.tr hs z).1; omega
      simp [this]
    · simp [q])
  refine ⟨⟨⟨?_, ?_, ?_, ?_, ?_, ?_, ?_⟩, fun k hk => ?_, fun k hk => ?_, fun k hk => ?_, ROw_c e2 h30 (fun k h1 h2 => e k (by omega) (by omega)) (fun j h1 h2 => ?_) h.1.2.2.2.2⟩,
    IVc_c (e 0 (by decide) (by omega)) (e 1 (by decide) (by omega)) (e 2 (by decide) (by omega)) hcc, IVd_c (e 3 (by decide) (by omega)) (e 5 (by decide) (by omega)) (e 6 (by decide) (by omega)) (e 7 (by decide) (by omega)) h.2.2.1, ⟨?_, ?_⟩, fun k hk => ?_, fun k hk => ?_, IVw_c e2 h30 (by omega) (fun k h1 h2 => e k (by omega) (by omega)) hv h.2.2.2.2.2.2⟩
  · rw [e 0 (by decide) (by omega)]; exact hc.1
  · rw [rv_8]; exact hv8
  · rw [e 1 (by decide) (by omega)]; exact hc.2.2.1
  · rw [e 9 (by decide) (by omega)]; exact hc.2.2.2.1
  · rw [e 2 (by decide) (by omega)]; exact hc.2.2.2.2.1
  · rw [e 3 (by decide) (by omega)]; exact hc.2.2.2.2.2.1
  · rw [e 4 (by decide) (by omega)]; exact hc.2.2.2.2.2.2
  · rw [e (5 + k) (by omega) (by omega)]; exact h.1.2.1 k hk
  · rw [e0] at hk
    obtain ⟨g1, g2, g3⟩ := h.1.2.2.1 k hk
    show O.2 5 k = _ ∧ upd (O.2 6) s (r (20 + s) + 1) k = _ ∧ ∀ f, f < 12 → fb_put (O.2 7) (rvG r s c) (12 * s) 12 (12 * k + f) = _
    rw [o10 k (by omega)]
    by_cases q : k = s
    · subst q
      rw [rv_20 (by omega), pk_us]
      refine ⟨g1, rfl, fun f hf => ?_⟩
      rw [rv_30 (by omega) hf, fb_put_in (by omega) (by omega)]
      exact congrArg _ (by omega)
    · rw [o20 k (by omega) q, pk_un q]
      refine ⟨g1, g2, fun f hf => ?_⟩
      rw [o30 k f (by omega) q hf, fb_put_out (by omega)]
      exact g3 f hf
  · rw [e1] at hk
    obtain ⟨g1, g2, g3, g4, g5, g6⟩ := h.1.2.2.2.1 k hk
    rw [e (150 + k) (by omega) (by omega), e (174 + k) (by omega) (by omega), e (198 + k) (by omega) (by omega), e (222 + k) (by omega) (by omega), e (246 + k) (by omega) (by omega), rv_270 hk]
    refine ⟨g1, g2, g3, g4, g5, ?_⟩
    show fb_put (O.2 13) (rcG O r s (r 3 + r 5)) 0 (nP r) k = _
    rw [fb_put_in (by omega) (by omega), Nat.sub_zero]
    unfold rcG rvD
    rw [g6]
  · match j, h1, h2 with
    | 14, _, _ => rfl
    | 15, _, _ => rfl
    | 16, _, _ => rfl
    | 17, _, _ => rfl
    | j + 18, _, h2 => exact absurd h2 (by omega)
  · intro i hi hb
    rw [rv_8, rvV_bt h hs hi] at hb
    rw [e0]
    rcases Bool.or_eq_true_iff.mp hb with b | b
    · exact h.2.2.2.1.1 i hi (Bool.and_eq_true_iff.mp b).1
    · exact (ups_par h.tr hs (of_decide_eq_true b)).2
  · rw [e 9 (by decide) (by omega), e1]; exact h.2.2.2.1.2
  · rw [e0] at hk
    obtain ⟨g1, g2, g3⟩ := h.2.2.2.2.1 k hk
    rw [o10 k (by omega)]
    by_cases q : k = s
    · subst q
      rw [rv_20 (by omega), eR]
      refine ⟨g1, ⟨by omega, by omega⟩, fun f hf => ?_⟩
      rw [rv_30 (by omega) hf]
      exact vG f hf
    · rw [o20 k (by omega) q]
      refine ⟨g1, g2, fun f hf => ?_⟩
      rw [o30 k f (by omega) q hf]
      exact g3 f hf
  · rw [e1] at hk
    obtain ⟨g1, g2, g3, g4⟩ := h.2.2.2.2.2.1 k hk
    rw [e (150 + k) (by omega) (by omega), e (174 + k) (by omega) (by omega), e (246 + k) (by omega) (by omega), rv_270 hk, e0]
    have hx := hv (r (150 + k)).toNatClampNeg (by rw [cl_eq]; omega)
    refine ⟨g1, ⟨g2.1, by omega⟩, g3, ?_⟩
    unfold rvD
    by_cases q : rvC r s k = true
    · have t := h.2.2.1
      rw [if_pos q, fb_addI (by have := t.1; have := t.2.1; omega) (by have := t.1; have := t.2.1; omega)]
      have := t.1; have := t.2.1
      omega
    · rw [if_neg q]; exact g4
theorem a_revise (h : RO d O r) (hd : d ≤ 1000000) (x c : Int32) :
    (sX8_hasSheet r x = false ∧ sX1_reviseSheet O x c = (-2, O)) ∨ (sX8_hasSheet r x = true ∧ sX8_isCloud c = false ∧ sX1_reviseSheet O x c = (-3, O)) ∨ (sX8_hasSheet r x = true ∧ sX8_isCloud c = true ∧ sX8_canRevise r x = false ∧ sX1_reviseSheet O x c = (-4, O)) ∨
    (sX8_hasSheet r x = true ∧ sX8_isCloud c = true ∧ sX8_canRevise r x = true ∧ OKA d (sX1_reviseSheet O x c) (sX8_goRevise r x c)) := by
  unfold sX1_reviseSheet
  rw [q_hasS h, q_isCloud]
  cases c1 : sX8_hasSheet r x
  · exact Or.inl ⟨rfl, rfl⟩
  · cases c2 : sX8_isCloud c
    · exact Or.inr (Or.inl ⟨rfl, rfl, rfl⟩)
    · obtain ⟨s, hs, rfl⟩ := hasS_of h.c c1
      have h10 := nS_le h.c
      have h24 := nP_le h.c
      rw [if_pos rfl, if_pos rfl, q_rev h hs]
      have z9 : (99 : Int32).toInt = 99 := rfl
      unfold sX8_canRevise
      rw [ix20 (by omega)]
      by_cases c3 : r (20 + s) < 99
      · have c4 : ¬ 99 ≤ r (20 + s) := fun q => by have := i32_le.mp q; have := i32_lt.mp c3; omega
        have c5 := i32_lt.mp c3
        rw [if_pos c3, if_neg c4, goRevise_e h.2 hs]
        have e5 : (O.1 5 + O.2 4 (0 : Int32).toNatClampNeg) = r 3 + r 5 := by
          rw [cl_0, h.1.1.2.2.2.2.2.1, h.1.2.1 0 (by decide)]
        rw [e5]
        refine Or.inr (Or.inr (Or.inr ⟨rfl, rfl, rfl, ?_, ?_, ro_revise h hd hs c (by omega)⟩))
        · show 0 ≤ (sX3_recallCountOf O (nI s)).toInt
          rw [k_recallCount h, nI_toInt (by have := fb_ct_le (fun p => decide (r (150 + p) = nI s) && (sX8_isOut r (nI p) && !sX8_isRecalled r (nI p))) (nP r); omega)]
          omega
        · exact k_recallCount h (nI s)
      · have c4 : 99 ≤ r (20 + s) := i32_le.mpr (by have : ¬ (r (20 + s)).toInt < (99 : Int32).toInt := fun q => c3 (i32_lt.mpr q); omega)
        rw [if_neg c3, if_pos c4]
        exact Or.inr (Or.inr (Or.inl ⟨rfl, rfl, rfl, rfl⟩))
end
