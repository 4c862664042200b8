/-! math: undo, save, restore -/
section
variable {d : Nat} {Os : Nat → OF} {T : OF} {M : MS} (h : SR d Os T M)
theorem undo_e {N M' : MS} {c : Nat} (hc : c < 14) (e : M'.1.1 1 = nI c) : LX8_undo_33 N (upM 414 0 + 1) 0 M' = (nI c, msA M' 1 (fb_put (M'.1.2 1) (fun k => M'.1.2 4 (414 * c + k)) 0 414)) := by
  have key : ∀ n i, i + n = 414 → LX8_undo_33 N (n + 1) (nI i) (msA M' 1 (fb_put (M'.1.2 1) (fun k => M'.1.2 4 (414 * c + k)) 0 i)) = (nI c, msA M' 1 (fb_put (M'.1.2 1) (fun k => M'.1.2 4 (414 * c + k)) 0 414)) := by
    intro n
    induction n with
    | zero =>
      intro i hi
      have : i = 414 := by omega
      subst this
      rw [LX8_undo_33_eq, if_pos (by decide)]
      show (M'.1.1 1, _) = _
      rw [e]
    | succ n ih =>
      intro i hi
      have u := fb_put_succ (M'.1.2 1) (fun k => M'.1.2 4 (414 * c + k)) 0 i
      rw [Nat.zero_add] at u
      have e1 : (msA M' 1 (fb_put (M'.1.2 1) (fun k => M'.1.2 4 (414 * c + k)) 0 i)).1.1 1 = nI c := e
      have e2 : (msA M' 1 (fb_put (M'.1.2 1) (fun k => M'.1.2 4 (414 * c + k)) 0 i)).1.2 4 = M'.1.2 4 := rfl
      rw [LX8_undo_33_eq, if_neg (ge414 (by omega)), e1, e2, ix414 (by omega) (by omega), ixN (by omega), msA_w, u, nI_1]
      exact ih (i + 1) (by omega)
  have k0 := key 414 0 (by omega)
  rw [fb_put_0, msA_id] at k0
  rw [show upM 414 0 = 414 from upM_n0 (m := 414) (by decide)]
  exact k0
theorem fc_undo (h : SR d Os T M) : OKF [2] d (sX7_undo Os T) (sX8_undo M) := by
  obtain ⟨n, c, h1, h2, h3, h4, h5, h6⟩ := h.2.2.1
  unfold sX7_undo sX8_undo sX0_isEmpty
  rw [h4, h5]
  by_cases c0 : c = 0
  · subst c0
    exact ok_x h (k := 2) (z := 1) 0 0 (by decide) (by decide) rfl
  · obtain ⟨b, rfl⟩ : ∃ b, c = b + 1 := ⟨c - 1, by omega⟩
    have hne : ¬ nI (b + 1) = 0 := nI_ne0 (by omega) (by omega)
    rw [if_neg hne, if_neg (by decide), if_neg (show ¬ refB (b2i false) = true by decide), nI_pred, undo_e (c := b) (by omega) rfl]
    have en : nxB (T.1 4) = nI ((n + 14) % 15) := by
      unfold nxB
      rw [h3]
      have : nI n + 15 - 1 = nI (n + 14) := by
        show nI n + nI 15 - 1 = _
        rw [nI_add, show n + 15 = (n + 14) + 1 by omega, nI_pred]
      rw [this]
      exact pk_rem (a := n + 14) (d := 15) (by omega) (by decide) (by decide)
    have et : sX0_takeBackInto Os T = (nI b, va_up Os 0 (sX1_copyFrom (Os 0) (Os (2 + (n + 14) % 15))), stS (stS T 4 (nI ((n + 14) % 15))) 3 (nI b)) := by
      unfold sX0_takeBackInto
      rw [en, ixN (by omega), h4, nI_pred]
    rw [et]
    refine ⟨Or.inl ⟨rfl, rfl, rfl⟩, ?_, h.2.1, ⟨(n + 14) % 15, b, by omega, by omega, rfl, rfl, rfl, fun j hj => ?_⟩, fun s hs => ⟨(h.2.2.2 s hs).1, fun q => ?_⟩⟩
    · show RO d (va_up Os 0 (sX1_copyFrom (Os 0) (Os (2 + (n + 14) % 15))) 0) (fb_put (M.1.2 1) (fun k => M.1.2 4 (414 * b + k)) 0 414)
      rw [va_up_self]
      have t := h6 b (by omega)
      have ei : (n + 15 - (b + 1) + b) % 15 = (n + 14) % 15 := by omega
      rw [ei] at t
      refine copyO (t.congr (fun k _ hk => ?_))
      rw [fb_put_in (by omega) (by omega)]
      rfl
    · show RO d (va_up Os 0 (sX1_copyFrom (Os 0) (Os (2 + (n + 14) % 15))) (2 + ((n + 14) % 15 + 15 - b + j) % 15)) (fun k => M.1.2 4 (414 * j + k))
      have t := h6 j (by omega)
      have ei : ((n + 14) % 15 + 15 - b + j) % 15 = (n + 15 - (b + 1) + j) % 15 := by omega
      rw [va_up_ne _ _ (by omega), ei]
      exact t
    · show RO d (va_up Os 0 (sX1_copyFrom (Os 0) (Os (2 + (n + 14) % 15))) (17 + s)) _
      rw [va_up_ne _ _ (by omega)]
      exact (h.2.2.2 s hs).2 q
theorem slot_of {x : Int32} (hx : sX8_in x.toInt64 0 1 = true) : ∃ s, s < 2 ∧ x = nI s := by
  have h1 := (in_iff32 x 0 1).mp hx
  have e2 : (0 : Int64).toInt = 0 := rfl
  have e4 : (1 : Int64).toInt = 1 := rfl
  obtain ⟨k, a, b, -⟩ := i_ex (x := x) (by omega)
  exact ⟨k, by omega, a⟩
theorem save_e {N M' : MS} {s : Nat} (hs : s < 2) : LX8_save_26 N (nI s) (upM 414 0 + 1) 0 M' = (M'.1.2 1 3, msA (msA M' 5 (fb_put (M'.1.2 5) (M'.1.2 1) (414 * s) 414)) 6 (upd (M'.1.2 6) s 1)) := by
  have key : ∀ n i, i + n = 414 → LX8_save_26 N (nI s) (n + 1) (nI i) (msA M' 5 (fb_put (M'.1.2 5) (M'.1.2 1) (414 * s) i)) = (M'.1.2 1 3, msA (msA M' 5 (fb_put (M'.1.2 5) (M'.1.2 1) (414 * s) 414)) 6 (upd (M'.1.2 6) s 1)) := by
    intro n
    induction n with
    | zero =>
      intro i hi
      have : i = 414 := by omega
      subst this
      rw [LX8_save_26_eq, if_pos (by decide), ixN (by omega)]
      rfl
    | succ n ih =>
      intro i hi
      have e2 : (msA M' 5 (fb_put (M'.1.2 5) (M'.1.2 1) (414 * s) i)).1.2 1 = M'.1.2 1 := rfl
      rw [LX8_save_26_eq, if_neg (ge414 (by omega)), e2, ix414 (by omega) (by omega), ixN (by omega), msA_w, fb_put_succ, nI_1]
      exact ih (i + 1) (by omega)
  have k0 := key 414 0 (by omega)
  rw [fb_put_0, msA_id] at k0
  rw [show upM 414 0 = 414 from upM_n0 (m := 414) (by decide)]
  exact k0
theorem fc_save (h : SR d Os T M) (x : Int32) : OKF [3] d (sX7_save Os T x) (sX8_save M x) := by
  unfold sX7_save sX8_save
  rw [q_isSlot]
  cases c : sX8_in x.toInt64 0 1
  · exact ok_x h (k := 3) (z := 1) 0 0 (by decide) (by decide) rfl
  · obtain ⟨s, hs, rfl⟩ := slot_of c
    have ek : sX5_keep Os T (nI s) = (va_up Os (17 + s) (sX1_copyFrom (Os (17 + s)) (Os 0)), stS T 5 (T.1 5 ||| 1 <<< (nI s &&& 31))) := by
      unfold sX5_keep
      rw [ixN (by omega)]
    rw [if_pos rfl, ek, if_neg (by decide), save_e hs]
    refine ⟨Or.inl ⟨rfl, rfl, ?_⟩, ?_, h.2.1, ?_, fun t ht => ?_⟩
    · show (va_up Os (17 + s) (sX1_copyFrom (Os (17 + s)) (Os 0)) 0).1 5 = M.1.2 1 3
      rw [va_up_ne _ _ (by omega)]
      exact h.1.1.1.2.2.2.2.2.1
    · show RO d (va_up Os (17 + s) (sX1_copyFrom (Os (17 + s)) (Os 0)) 0) (M.1.2 1)
      rw [va_up_ne _ _ (by omega)]
      exact h.1
    · obtain ⟨n, c, h1, h2, h3, h4, h5, h6⟩ := h.2.2.1
      refine ⟨n, c, h1, h2, h3, h4, h5, fun j hj => ?_⟩
      show RO d (va_up Os (17 + s) (sX1_copyFrom (Os (17 + s)) (Os 0)) (2 + (n + 15 - c + j) % 15)) (fun k => M.1.2 4 (414 * j + k))
      rw [va_up_ne _ _ (by omega)]
      exact h6 j hj
    · show upd (M.1.2 6) s 1 t = b2i (bt (T.1 5 ||| 1 <<< (nI s &&& 31)) t) ∧ (bt (T.1 5 ||| 1 <<< (nI s &&& 31)) t = true → RO d (va_up Os (17 + s) (sX1_copyFrom (Os (17 + s)) (Os 0)) (17 + t)) (fun k => fb_put (M.1.2 5) (M.1.2 1) (414 * s) 414 (414 * t + k)))
      rw [b_set (by omega) (by omega)]
      by_cases ct : t = s
      · subst ct
        rw [pk_us, va_up_self]
        refine ⟨by simp [b2i], fun _ => copyO (h.1.congr (fun k _ hk => ?_))⟩
        rw [fb_put_in (by omega) (by omega)]
        exact congrArg _ (by omega)
      · rw [pk_un ct, va_up_ne _ _ (by omega), decide_eq_false ct, Bool.or_false]
        refine ⟨(h.2.2.2 t ht).1, fun q => ((h.2.2.2 t ht).2 q).congr (fun k _ hk => ?_)⟩
        rw [fb_put_out (by omega)]
theorem restore_e {N M' : MS} {s : Nat} (hs : s < 2) : LX8_restore_39 N (nI s) (upM 414 0 + 1) 0 M' = (M'.1.2 5 (414 * s + 3), msS (msA M' 1 (fb_put (M'.1.2 1) (fun k => M'.1.2 5 (414 * s + k)) 0 414)) 1 0) := by
  have key : ∀ n i, i + n = 414 → LX8_restore_39 N (nI s) (n + 1) (nI i) (msA M' 1 (fb_put (M'.1.2 1) (fun k => M'.1.2 5 (414 * s + k)) 0 i)) = (M'.1.2 5 (414 * s + 3), msS (msA M' 1 (fb_put (M'.1.2 1) (fun k => M'.1.2 5 (414 * s + k)) 0 414)) 1 0) := by
    intro n
    induction n with
    | zero =>
      intro i hi
      have : i = 414 := by omega
      subst this
      rw [LX8_restore_39_eq, if_pos (by decide), msA_at, cl_3, fb_put_in (by omega) (by omega)]
    | succ n ih =>
      intro i hi
      have u := fb_put_succ (M'.1.2 1) (fun k => M'.1.2 5 (414 * s + k)) 0 i
      rw [Nat.zero_add] at u
      have e2 : (msA M' 1 (fb_put (M'.1.2 1) (fun k => M'.1.2 5 (414 * s + k)) 0 i)).1.2 5 = M'.1.2 5 := rfl
      rw [LX8_restore_39_eq, if_neg (ge414 (by omega)), e2, ix414 (by omega) (by omega), ixN (by omega), msA_w, u, nI_1]
      exact ih (i + 1) (by omega)
  have k0 := key 414 0 (by omega)
  rw [fb_put_0, msA_id] at k0
  rw [show upM 414 0 = 414 from upM_n0 (m := 414) (by decide)]
  exact k0
theorem fc_restore (h : SR d Os T M) (x : Int32) : OKF [3, 2] d (sX7_restore Os T x) (sX8_restore M x) := by
  unfold sX7_restore sX8_restore
  rw [q_isSlot]
  cases c : sX8_in x.toInt64 0 1
  · exact ok_x h (k := 3) (z := 1) 0 0 (by decide) (by decide) rfl
  · obtain ⟨s, hs, rfl⟩ := slot_of c
    obtain ⟨g1, g2⟩ := h.2.2.2 s hs
    unfold sX5_holds
    rw [isIn_bt _ (by omega), ixN (by omega), g1]
    cases cb : bt (T.1 5) s
    · exact ok_x h (k := 2) (z := 2) 0 0 (by decide) (by decide) rfl
    · have g3 := g2 cb
      have ek : sX5_copyInto Os T (nI s) = (va_up Os 0 (sX1_copyFrom (Os 0) (Os (17 + s))), T) := by
        unfold sX5_copyInto
        rw [ixN (by omega)]
      rw [if_pos rfl, if_pos rfl, ek, if_neg (by decide), restore_e hs]
      obtain ⟨n, c, h1, h2, h3, h4, h5, h6⟩ := h.2.2.1
      refine ⟨Or.inl ⟨rfl, rfl, ?_⟩, ?_, h.2.1, ⟨n, 0, h1, by omega, h3, rfl, rfl, fun j hj => absurd hj (Nat.not_lt_zero j)⟩, fun t ht => ⟨(h.2.2.2 t ht).1, fun q => ?_⟩⟩
      · show (va_up Os 0 (sX1_copyFrom (Os 0) (Os (17 + s))) 0).1 5 = M.1.2 5 (414 * s + 3)
        rw [va_up_self]
        exact g3.1.1.2.2.2.2.2.1
      · show RO d (va_up Os 0 (sX1_copyFrom (Os 0) (Os (17 + s))) 0) (fb_put (M.1.2 1) (fun k => M.1.2 5 (414 * s + k)) 0 414)
        rw [va_up_self]
        refine copyO (g3.congr (fun k _ hk => ?_))
        rw [fb_put_in (by omega) (by omega)]
        rfl
      · show RO d (va_up Os 0 (sX1_copyFrom (Os 0) (Os (17 + s))) (17 + t)) (fun k => M.1.2 5 (414 * t + k))
        rw [va_up_ne _ _ (by omega)]
        exact (h.2.2.2 t ht).2 q
end
