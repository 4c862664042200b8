theorem D_nd {X : Nat → Prop} {ws : va_W} (h : va_D X ws) : (ws.map (·.1)).Pairwise (· ≠ ·) := by
  rw [List.pairwise_iff_getElem]
  intro i j hi hj hij e
  rw [List.length_map] at hi hj
  rw [List.getElem_map, List.getElem_map] at e
  have := h.1 i j _ _ (List.getElem?_eq_getElem hi) (List.getElem?_eq_getElem hj) e
  omega
theorem nd_D {X : Nat → Prop} {ws : va_W} (h : (ws.map (·.1)).Pairwise (· ≠ ·)) (hX : ∀ q ∈ ws, X q.1) : va_D X ws := by
  rw [List.pairwise_iff_getElem] at h
  refine ⟨fun i j p q hp hq e => ?_, fun k q hq => hX q (List.mem_of_getElem? hq)⟩
  obtain ⟨hi, ei⟩ := List.getElem?_eq_some_iff.mp hp
  obtain ⟨hj, ej⟩ := List.getElem?_eq_some_iff.mp hq
  rcases Nat.lt_trichotomy i j with hl | hl | hl
  · exact absurd (by rw [List.getElem_map, List.getElem_map, ei, ej]; exact e) (h i j (by rw [List.length_map]; exact hi) (by rw [List.length_map]; exact hj) hl)
  · exact hl
  · exact absurd (by rw [List.getElem_map, List.getElem_map, ei, ej]; exact e.symm) (h j i (by rw [List.length_map]; exact hj) (by rw [List.length_map]; exact hi) hl)
theorem D_perm {X : Nat → Prop} {ws ws' : va_W} (h : va_D X ws) (hp : (ws.map (·.1)).Perm (ws'.map (·.1))) : va_D X ws' := by
  refine nd_D ((hp.pairwise_iff (fun e => e.symm)).mp (D_nd h)) (fun q hq => ?_)
  have h1 : q.1 ∈ ws.map (·.1) := hp.mem_iff.mpr (List.mem_map.mpr ⟨q, hq, rfl⟩)
  obtain ⟨q', hq', e⟩ := List.mem_map.mp h1
  obtain ⟨k, hk⟩ := List.getElem?_of_mem hq'
  rw [← e]
  exact h.2 k q' hk
theorem al_split {cs : Nat → ClassId} (A : Nat → Nat → Nat) (Os : Nat → OF) (m n : Nat) : alW cs A Os (m + n) = alW cs A Os m ++ alW cs (fun k => A (m + k)) (fun k => Os (m + k)) n := by
  induction n with
  | zero => exact (List.append_nil _).symm
  | succ n ih =>
    show alW cs A Os (m + n) ++ ofW cs (A (m + n)) (Os (m + n)) = alW cs A Os m ++ (alW cs (fun k => A (m + k)) (fun k => Os (m + k)) n ++ ofW cs (A (m + n)) (Os (m + n)))
    rw [ih, List.append_assoc]
theorem tD_of {X : Nat → Prop} {cs : Nat → ClassId} {z : Nat → Nat} {A : Nat → Nat → Nat} {T : OF} {Os : Nat → OF} (h : va_D X (zW cs z A T ++ alW cs A Os 19)) : tD z A := by
  have gz : ∀ i, i < 10 → ∃ x, (zW cs z A T ++ alW cs A Os 19)[i]? = some x ∧ x.1 = z i := fun i hi => by
    have h1 : i < (zW cs z A T).length := by rw [z_len]; exact hi
    exact ⟨(zW cs z A T)[i], by rw [List.getElem?_append_left h1]; exact List.getElem?_eq_getElem h1, (z_ad cs z A T i _ (List.getElem?_eq_getElem h1)).2⟩
  have gA : ∀ k j, k < 19 → j < 18 → ∃ x, (zW cs z A T ++ alW cs A Os 19)[10 + (18 * k + j)]? = some x ∧ x.1 = A k j := fun k j hk hj => by
    have h1 : j < (ofW cs (A k) (Os k)).length := by rw [of_len]; exact hj
    refine ⟨(ofW cs (A k) (Os k))[j], ?_, (of_ad cs (A k) (Os k) j _ (List.getElem?_eq_getElem h1)).2⟩
    rw [List.getElem?_append_right (by rw [z_len]; omega), z_len, show 10 + (18 * k + j) - 10 = 18 * k + j by omega]
    exact al_in cs A Os 19 k hk j _ (List.getElem?_eq_getElem h1)
  refine ⟨fun i j hi hj e => ?_, fun k i k' i' hk hi hk' hi' e => ?_, fun i k j hi hk hj e => ?_⟩
  · obtain ⟨x, h1, h2⟩ := gz i hi
    obtain ⟨y, h3, h4⟩ := gz j hj
    exact h.1 i j x y h1 h3 (by rw [h2, h4, e])
  · obtain ⟨x, h1, h2⟩ := gA k i hk hi
    obtain ⟨y, h3, h4⟩ := gA k' i' hk' hi'
    have := h.1 _ _ x y h1 h3 (by rw [h2, h4, e])
    omega
  · obtain ⟨x, h1, h2⟩ := gz i hi
    obtain ⟨y, h3, h4⟩ := gA k j hk hj
    have := h.1 _ _ x y h1 h3 (by rw [h2, h4, e])
    omega
theorem p_ext {D : va_G} {x : Nat × va_E} {q n : Nat} {cA : ClassId} {f g : Nat → Option Nat} {H : Heap} (h : va_P D vwC [x, (q, .inl (cA, n, .inr (.inr (.inr (.inr f)))))] H) (e : ∀ j, j < n → f j = g j) : va_P D vwC [x, (q, .inl (cA, n, .inr (.inr (.inr (.inr g)))))] H := by
  intro k y hy
  match k, hy with
  | 0, hy => exact h 0 y hy
  | 1, hy =>
    cases hy
    have h1 : H[q]? = some (vp_cell cA (n, .inr (.inr (.inr (.inr f))))) := h 1 _ rfl
    show H[q]? = some (vp_cell cA (n, .inr (.inr (.inr (.inr g)))))
    rw [h1, vp_cell_q, vp_cell_q]
    unfold arrV
    have h2 : (fun j : Fin n => va_rf (f j.val)) = fun j : Fin n => va_rf (g j.val) := funext fun j => by rw [e j.val j.isLt]
    show some ({ cls := cA, slots := Array.ofFn fun j : Fin n => va_rf (f j.val), vm := .none } : Cell) = some { cls := cA, slots := Array.ofFn fun j : Fin n => va_rf (g j.val), vm := .none }
    rw [h2]
  | k + 2, hy => simp at hy
/-- the object as its constructor leaves it, out of the pieces that were made -/
theorem ts_fin {D : va_G} {cs : Nat → ClassId} {H : Heap} {h0 h1 a1 a2 a3 a4 h4 q4 h5 q5 : Nat} {a b : Nat → Nat} {f4 f5 : Nat → Option Nat} {B4 B5 : Nat → Nat → Nat} (hf4 : ∀ j, j < 15 → f4 j = some (B4 j 0)) (hf5 : ∀ j, j < 2 → f5 j = some (B5 j 0))
    (hP : va_P D vwC ((((([(h0, .inr (7, [.ref h1, .ref (a 0), .ref (b 0), .ref h4, .ref h5]))] ++ kX2 cs h1 a1 a2 a3 a4) ++ ofW cs a ofI) ++ ofW cs b ofI) ++ kX0 cs h4 q4 f4 B4) ++ kX5 cs h5 q5 f5 B5) H)
    (hD : va_D (fun q : Nat => h0 ≤ q) ((((([(h0, .inr (7, [.ref h1, .ref (a 0), .ref (b 0), .ref h4, .ref h5]))] ++ kX2 cs h1 a1 a2 a3 a4) ++ ofW cs a ofI) ++ ofW cs b ofI) ++ kX0 cs h4 q4 f4 B4) ++ kX5 cs h5 q5 f5 B5)) :
    ∃ (z : Nat → Nat) (A : Nat → Nat → Nat), z 0 = h0 ∧ tD z A ∧ tsP D cs z A (fun _ => ofI) ofZ H ∧ ∀ q, tA z A q → h0 ≤ q := by
  obtain ⟨A, hA⟩ : ∃ A : Nat → Nat → Nat, A = fun k => if k = 0 then a else if k = 1 then b else if k < 17 then B4 (k - 2) else B5 (k - 17) := ⟨_, rfl⟩
  have A0 : A 0 = a := by rw [hA]; rfl
  have A1 : A 1 = b := by rw [hA]; rfl
  have A2 : ∀ j, j < 15 → A (2 + j) = B4 j := fun j hj => by
    rw [hA]
    show (if 2 + j = 0 then a else if 2 + j = 1 then b else if 2 + j < 17 then B4 (2 + j - 2) else B5 (2 + j - 17)) = B4 j
    rw [if_neg (by omega), if_neg (by omega), if_pos (by omega), show 2 + j - 2 = j by omega]
  have A3 : ∀ j, j < 2 → A (17 + j) = B5 j := fun j hj => by
    rw [hA]
    show (if 17 + j = 0 then a else if 17 + j = 1 then b else if 17 + j < 17 then B4 (17 + j - 2) else B5 (17 + j - 17)) = B5 j
    rw [if_neg (by omega), if_neg (by omega), if_neg (by omega), show 17 + j - 17 = j by omega]
  have eal : alW cs A (fun _ => ofI) 19 = ((ofW cs a ofI ++ ofW cs b ofI) ++ alW cs B4 (fun _ => ofI) 15) ++ alW cs B5 (fun _ => ofI) 2 := by
    rw [show (19 : Nat) = 17 + 2 from rfl, al_split A _ 17 2, show (17 : Nat) = 2 + 15 from rfl, al_split A _ 2 15, al_cong (A := fun k => A (2 + k)) (B := B4) (Os := fun _ => ofI) (Ps := fun _ => ofI) 15 (fun j hj => ⟨A2 j hj, rfl⟩), al_cong (A := fun k => A (2 + 15 + k)) (B := B5) (Os := fun _ => ofI) (Ps := fun _ => ofI) 2 (fun j hj => ⟨A3 j hj, rfl⟩)]
    show (([] ++ ofW cs (A 0) ofI) ++ ofW cs (A 1) ofI) ++ alW cs B4 (fun _ => ofI) 15 ++ alW cs B5 (fun _ => ofI) 2 = _
    rw [A0, A1]
    rfl
  obtain ⟨z, hz⟩ : ∃ z : Nat → Nat, z = fun i => ([h0, h1, a1, a2, a3, a4, h4, q4, h5, q5] : List Nat).getD i 0 := ⟨_, rfl⟩
  have P0 : va_P D vwC [(h4, .inr (0, [.ref q4, .int 0, .int 0])), (q4, .inl (cs 3, 15, .inr (.inr (.inr (.inr (fun j => some (A (2 + j) 0)))))))] H := p_ext (f := f4) (p_l (p_r (p_l hP))) (fun j hj => by rw [hf4 j hj, A2 j hj])
  have P5 : va_P D vwC [(h5, .inr (5, [.ref q5, .int 0])), (q5, .inl (cs 3, 2, .inr (.inr (.inr (.inr (fun j => some (A (17 + j) 0)))))))] H := p_ext (f := f5) (p_l (p_r hP)) (fun j hj => by rw [hf5 j hj, A3 j hj])
  have PZ : va_P D vwC (zW cs z A ofZ) H := by
    have h9 := ((p_l (p_l (p_l (p_l hP)))).app P0).app P5
    rw [hz]
    unfold zW
    rw [A0, A1]
    exact h9
  have PA : va_P D vwC (alW cs A (fun _ => ofI) 19) H := by
    rw [eal]
    exact (((p_r (p_l (p_l (p_l hP)))).app (p_r (p_l (p_l hP)))).app (p_r (p_r (p_l hP)))).app (p_r (p_r hP))
  have DD : va_D (fun q : Nat => h0 ≤ q) (zW cs z A ofZ ++ alW cs A (fun _ => ofI) 19) := by
    refine D_perm hD ?_
    rw [eal]
    have e9 : (zW cs z A ofZ).map (·.1) = [h0] ++ [h1, a1, a2, a3, a4] ++ [h4, q4] ++ [h5, q5] := by rw [hz]; rfl
    have e8 : (kX0 cs h4 q4 f4 B4).map (·.1) = [h4, q4] ++ (alW cs B4 (fun _ => ofI) 15).map (·.1) := by unfold kX0; rw [List.map_append]; rfl
    have e7 : (kX5 cs h5 q5 f5 B5).map (·.1) = [h5, q5] ++ (alW cs B5 (fun _ => ofI) 2).map (·.1) := by unfold kX5; rw [List.map_append]; rfl
    have e6 : (kX2 cs h1 a1 a2 a3 a4).map (·.1) = [h1, a1, a2, a3, a4] := rfl
    have e5 : ([(h0, .inr (7, [.ref h1, .ref (a 0), .ref (b 0), .ref h4, .ref h5]))] : va_W).map (·.1) = [h0] := rfl
    refine List.perm_iff_count.mpr (fun x => ?_)
    simp only [List.map_append, e9, e8, e7, e6, e5, List.count_append]
    omega
  refine ⟨z, A, by rw [hz]; rfl, tD_of DD, ts_of_all (PZ.app PA), fun q hq => ?_⟩
  have h9 := ts_D cs (fun _ => ofI) ofZ (tD_of DD)
  rcases hq with ⟨i, hi, e⟩ | ⟨k, hk, j, hj, e⟩
  · have h1 : i < (zW cs z A ofZ).length := by rw [z_len]; exact hi
    have h2 := DD.2 i _ (by rw [List.getElem?_append_left h1]; exact List.getElem?_eq_getElem h1)
    rw [(z_ad cs z A ofZ i _ (List.getElem?_eq_getElem h1)).2] at h2
    rw [e]; exact h2
  · have h1 : j < (ofW cs (A k) ofI).length := by rw [of_len]; exact hj
    have h2 := DD.2 (10 + (18 * k + j)) _ (by
      rw [List.getElem?_append_right (by rw [z_len]; omega), z_len, show 10 + (18 * k + j) - 10 = 18 * k + j by omega]
      exact al_in cs A (fun _ => ofI) 19 k hk j _ (List.getElem?_eq_getElem h1))
    rw [(of_ad cs (A k) ofI j _ (List.getElem?_eq_getElem h1)).2] at h2
    rw [e]; exact h2
theorem hd_X7_init : yX7_init.cls ≠ "java/lang/invoke/MethodHandle" ∧ yX7_init.cls ≠ "java/lang/invoke/VarHandle" ∧ (parseMethodDescriptor yX7_init.desc).map (fun d => d.parameters.length) = some 0 := by decide +kernel
set_option maxHeartbeats 4000000 in
set_option maxRecDepth 100000 in
theorem c_X7_init (l : Launch) (D : va_G) (cs : Nat → ClassId) (h0 : Nat) : Met l yX7_init (wc yX7_init cX7_init 1 none) ({ frames := 4, cells := 351, slots := 8410, locals := 130 } : Room) (va_Pc [.ref h0] (CP D cs h0 7 [.null, .null, .null, .null, .null])) (va_Qv (fun _ : Unit => True) (fun _ t => ∃ (z : Nat → Nat) (A : Nat → Nat → Nat), z 0 = h0 ∧ tD z A ∧ tsP D cs z A (fun _ => ofI) ofZ t.heap ∧ ∀ q, tA z A q → h0 ≤ q) (fun q => h0 ≤ q)) 351 8410 (fun q => h0 ≤ q) := by
  refine met_g (lv := [(0, .ref h0)]) (by decide) (Nat.le_of_ble_eq_true rfl) rfl ?_
  intro p e s m args below meth c ls hx hb hr hml hts hown hlocks hin hB0 hl
  obtain ⟨⟨hz, hP⟩, hE⟩ := hB0
  have hown : s.vm.findClass RX7 = some m.cls := hown
  have hK := hE.1.1
  have hA : ∀ q : Nat, h0 ≤ q → (fun q : Nat => h0 ≤ q) q := fun _ h => h
  have hS : va_S (fun q : Nat => h0 ≤ q) s.heap s.heap [] := va_S.rf
  have hD : va_D (fun q : Nat => h0 ≤ q) [((h0, .inr (7, [.null, .null, .null, .null, .null])) : Nat × va_E)] := k_oneD (Nat.le_refl _)
  refine lv_aload_n hx hb dX7_init_0 rfl (lv_at hl 0 rfl) ?_
  refine W.objInit hx hb hown (hts _ w_oi_X7) (hts _ w_oi_im) (hts _ w_oi_co) rfl (by rw [hml]; exact hl.1) rfl dX7_init_1 (Nat.le_of_ble_eq_true rfl) (Nat.le_of_ble_eq_true rfl) ?_
  refine W.eq (g2 := F0 m 4 ls []) rfl ?_
  refine lv_aload_n hx hb dX7_init_4 rfl (lv_at hl 0 rfl) ?_
  obtain ⟨h1, hz_h1⟩ : ∃ q, s.heap.size = q := ⟨_, rfl⟩
  have hlt_h1 := p_lt hP hz_h1
  have hh_h1 : h0 ≤ h1 := Nat.le_of_lt (hlt_h1 0 _ rfl)
  refine k_new (ci := 2) (fs := [.null, .int 0, .int 0, .null, .null, .null, .int 0]) (h := h1) (C := RX2) (T := TX2) (N := 7) hx hb hts iw_X2 tyX2 tyX2_ok hown (hts _ w_cl_X7_9) (hts _ w_ib_X2) (hts _ w_in_X2) hK hP hS rfl (fun j hj => by rcases (show j = 0 ∨ j = 1 ∨ j = 2 ∨ j = 3 ∨ j = 4 ∨ j = 5 ∨ j = 6 by omega) with rfl | rfl | rfl | rfl | rfl | rfl | rfl <;> rfl) hz_h1 (Nat.le_of_ble_eq_true rfl) (Nat.le_of_ble_eq_true rfl) dX7_init_5 (fun H hz hP hPn hS => ?_)
  refine W.widen (k := 1) (n := 7) (Nat.le_of_ble_eq_true rfl) (Nat.le_of_ble_eq_true rfl) ?_
  refine lv_dup hx hb dX7_init_8 rfl ?_
  refine k_call (h1 := h1) (va_runIN (As := []) (rest := [.ref h1, .ref h0]) ⟨hx, hb, hml, hown, hts⟩ (c_X2_init l D cs h1) ⟨va_cnB 0 hts (good_code w_co_X2_init) rfl rfl rfl (hE.1.2.1 ("TrueSheets", 11, yX2_init) (List.mem_of_getElem? (i := 14) rfl)) (hts _ w_in_X2) hd_X2_init ⟨Nat.le_of_ble_eq_true rfl, Nat.le_of_ble_eq_true rfl⟩, rfl, hts _ w_im_X2_init⟩ (cp_S hz hPn hE) rfl rfl hl.1 rfl (lv_room (Nat.le_of_ble_eq_true rfl)) dX7_init_9 ⟨Nat.le_of_ble_eq_true rfl, Nat.le_of_ble_eq_true rfl⟩) hS (fun q h => Nat.le_trans hh_h1 h) hP hlt_h1 (fun u t locs _ hB hP _ hS => ?_)
  refine W.widen (k := 5) (n := 199) (Nat.le_of_ble_eq_true rfl) (Nat.le_of_ble_eq_true rfl) ?_
  obtain ⟨a1, a2, a3, a4, hPc, hDc⟩ := hB
  have hD := k_join hD hlt_h1 hDc (fun q h => Nat.le_trans hh_h1 h)
  have hP := hP.app hPc
  have hP : va_P D vwC ([(h0, .inr (7, [.null, .null, .null, .null, .null]))] ++ kX2 cs h1 a1 a2 a3 a4) t.heap := hP
  have hD : va_D (fun q : Nat => h0 ≤ q) ([(h0, .inr (7, [.null, .null, .null, .null, .null]))] ++ kX2 cs h1 a1 a2 a3 a4) := hD
  refine va_putF (D := D) (ci := 7) (v := .ref h1) (ty := .object "TrueSheets$OfficeText") (C := RX7) (T := TX7) (N := 5) hx hb hts iw_X7 tyX7 tyX7_ok nmX7 hown hK hP hD hS 0 rfl rfl 0 (by decide) (hts _ w_fl_X7_12) (fun _ h9 => h9) rfl hin rfl (by decide +kernel) rfl rfl (Nat.le_of_ble_eq_true rfl) dX7_init_12 (fun H locs hP hD hS => ?_)
  have hP : va_P D vwC ([(h0, .inr (7, [.ref h1, .null, .null, .null, .null]))] ++ kX2 cs h1 a1 a2 a3 a4) H := hP
  have hD : va_D (fun q : Nat => h0 ≤ q) ([(h0, .inr (7, [.ref h1, .null, .null, .null, .null]))] ++ kX2 cs h1 a1 a2 a3 a4) := hD
  refine lv_aload_n hx hb dX7_init_15 rfl (lv_at hl 0 rfl) ?_
  obtain ⟨h2, hz_h2⟩ : ∃ q, H.size = q := ⟨_, rfl⟩
  have hlt_h2 := p_lt hP hz_h2
  have hh_h2 : h0 ≤ h2 := Nat.le_of_lt (hlt_h2 0 _ rfl)
  refine k_new (ci := 1) (fs := [.null, .null, .null, .null, .int 0, .int 0]) (h := h2) (C := RX1) (T := TX1) (N := 6) hx hb hts iw_X1 tyX1 tyX1_ok hown (hts _ w_cl_X7_16) (hts _ w_ib_X1) (hts _ w_in_X1) hK hP hS rfl (fun j hj => by rcases (show j = 0 ∨ j = 1 ∨ j = 2 ∨ j = 3 ∨ j = 4 ∨ j = 5 by omega) with rfl | rfl | rfl | rfl | rfl | rfl <;> rfl) hz_h2 (Nat.le_of_ble_eq_true rfl) (Nat.le_of_ble_eq_true rfl) dX7_init_16 (fun H hz hP hPn hS => ?_)
  refine W.widen (k := 6) (n := 205) (Nat.le_of_ble_eq_true rfl) (Nat.le_of_ble_eq_true rfl) ?_
  refine lv_dup hx hb dX7_init_19 rfl ?_
  refine k_call (h1 := h2) (va_runI (As := []) (rest := [.ref h2, .ref h0]) ⟨hx, hb, hml, hown, hts⟩ (c_X1_init l D cs h2) (cwI 0 hts (good_code w_co_X1_init) rfl rfl rfl (hts _ w_in_X1) (hts _ w_ml_X7_18) (hts _ w_im_X1_init) rfl hd_X1_init ⟨Nat.le_of_ble_eq_true rfl, Nat.le_of_ble_eq_true rfl⟩) (cp_S hz hPn hE) rfl rfl hl.1 rfl (lv_room (Nat.le_of_ble_eq_true rfl)) dX7_init_20 ⟨Nat.le_of_ble_eq_true rfl, Nat.le_of_ble_eq_true rfl⟩) hS (fun q h => Nat.le_trans hh_h2 h) hP hlt_h2 (fun u t locs _ hB hP _ hS => ?_)
  refine W.widen (k := 23) (n := 630) (Nat.le_of_ble_eq_true rfl) (Nat.le_of_ble_eq_true rfl) ?_
  obtain ⟨a, e_a, hd_a, hg_a, hPc⟩ := hB
  subst e_a
  have hDc : va_D (fun q : Nat => a 0 ≤ q) (ofW cs a ofI) := (of_D cs ofI hd_a).weaken (fun k q _ hq => by obtain ⟨i, hi, e⟩ := hq; rw [e]; exact hg_a i hi)
  have hD := k_join hD hlt_h2 hDc (fun q h => Nat.le_trans hh_h2 h)
  have hP := hP.app hPc
  have hP : va_P D vwC (([(h0, .inr (7, [.ref h1, .null, .null, .null, .null]))] ++ kX2 cs h1 a1 a2 a3 a4) ++ ofW cs a ofI) t.heap := hP
  have hD : va_D (fun q : Nat => h0 ≤ q) (([(h0, .inr (7, [.ref h1, .null, .null, .null, .null]))] ++ kX2 cs h1 a1 a2 a3 a4) ++ ofW cs a ofI) := hD
  refine va_putF (D := D) (ci := 7) (v := .ref (a 0)) (ty := .object "TrueSheets$Office") (C := RX7) (T := TX7) (N := 5) hx hb hts iw_X7 tyX7 tyX7_ok nmX7 hown hK hP hD hS 0 rfl rfl 1 (by decide) (hts _ w_fl_X7_19) (fun _ h9 => h9) rfl hin rfl (by decide +kernel) rfl rfl (Nat.le_of_ble_eq_true rfl) dX7_init_23 (fun H locs hP hD hS => ?_)
  have hP : va_P D vwC (([(h0, .inr (7, [.ref h1, .ref (a 0), .null, .null, .null]))] ++ kX2 cs h1 a1 a2 a3 a4) ++ ofW cs a ofI) H := hP
  have hD : va_D (fun q : Nat => h0 ≤ q) (([(h0, .inr (7, [.ref h1, .ref (a 0), .null, .null, .null]))] ++ kX2 cs h1 a1 a2 a3 a4) ++ ofW cs a ofI) := hD
  refine lv_aload_n hx hb dX7_init_26 rfl (lv_at hl 0 rfl) ?_
  obtain ⟨h3, hz_h3⟩ : ∃ q, H.size = q := ⟨_, rfl⟩
  have hlt_h3 := p_lt hP hz_h3
  have hh_h3 : h0 ≤ h3 := Nat.le_of_lt (hlt_h3 0 _ rfl)
  refine k_new (ci := 1) (fs := [.null, .null, .null, .null, .int 0, .int 0]) (h := h3) (C := RX1) (T := TX1) (N := 6) hx hb hts iw_X1 tyX1 tyX1_ok hown (hts _ w_cl_X7_16) (hts _ w_ib_X1) (hts _ w_in_X1) hK hP hS rfl (fun j hj => by rcases (show j = 0 ∨ j = 1 ∨ j = 2 ∨ j = 3 ∨ j = 4 ∨ j = 5 by omega) with rfl | rfl | rfl | rfl | rfl | rfl <;> rfl) hz_h3 (Nat.le_of_ble_eq_true rfl) (Nat.le_of_ble_eq_true rfl) dX7_init_27 (fun H hz hP hPn hS => ?_)
  refine W.widen (k := 24) (n := 636) (Nat.le_of_ble_eq_true rfl) (Nat.le_of_ble_eq_true rfl) ?_
  refine lv_dup hx hb dX7_init_30 rfl ?_
  refine k_call (h1 := h3) (va_runI (As := []) (rest := [.ref h3, .ref h0]) ⟨hx, hb, hml, hown, hts⟩ (c_X1_init l D cs h3) (cwI 0 hts (good_code w_co_X1_init) rfl rfl rfl (hts _ w_in_X1) (hts _ w_ml_X7_18) (hts _ w_im_X1_init) rfl hd_X1_init ⟨Nat.le_of_ble_eq_true rfl, Nat.le_of_ble_eq_true rfl⟩) (cp_S hz hPn hE) rfl rfl hl.1 rfl (lv_room (Nat.le_of_ble_eq_true rfl)) dX7_init_31 ⟨Nat.le_of_ble_eq_true rfl, Nat.le_of_ble_eq_true rfl⟩) hS (fun q h => Nat.le_trans hh_h3 h) hP hlt_h3 (fun u t locs _ hB hP _ hS => ?_)
  refine W.widen (k := 41) (n := 1061) (Nat.le_of_ble_eq_true rfl) (Nat.le_of_ble_eq_true rfl) ?_
  obtain ⟨b, e_b, hd_b, hg_b, hPc⟩ := hB
  subst e_b
  have hDc : va_D (fun q : Nat => b 0 ≤ q) (ofW cs b ofI) := (of_D cs ofI hd_b).weaken (fun k q _ hq => by obtain ⟨i, hi, e⟩ := hq; rw [e]; exact hg_b i hi)
  have hD := k_join hD hlt_h3 hDc (fun q h => Nat.le_trans hh_h3 h)
  have hP := hP.app hPc
  have hP : va_P D vwC ((([(h0, .inr (7, [.ref h1, .ref (a 0), .null, .null, .null]))] ++ kX2 cs h1 a1 a2 a3 a4) ++ ofW cs a ofI) ++ ofW cs b ofI) t.heap := hP
  have hD : va_D (fun q : Nat => h0 ≤ q) ((([(h0, .inr (7, [.ref h1, .ref (a 0), .null, .null, .null]))] ++ kX2 cs h1 a1 a2 a3 a4) ++ ofW cs a ofI) ++ ofW cs b ofI) := hD
  refine va_putF (D := D) (ci := 7) (v := .ref (b 0)) (ty := .object "TrueSheets$Office") (C := RX7) (T := TX7) (N := 5) hx hb hts iw_X7 tyX7 tyX7_ok nmX7 hown hK hP hD hS 0 rfl rfl 2 (by decide) (hts _ w_fl_X7_23) (fun _ h9 => h9) rfl hin rfl (by decide +kernel) rfl rfl (Nat.le_of_ble_eq_true rfl) dX7_init_34 (fun H locs hP hD hS => ?_)
  have hP : va_P D vwC ((([(h0, .inr (7, [.ref h1, .ref (a 0), .ref (b 0), .null, .null]))] ++ kX2 cs h1 a1 a2 a3 a4) ++ ofW cs a ofI) ++ ofW cs b ofI) H := hP
  have hD : va_D (fun q : Nat => h0 ≤ q) ((([(h0, .inr (7, [.ref h1, .ref (a 0), .ref (b 0), .null, .null]))] ++ kX2 cs h1 a1 a2 a3 a4) ++ ofW cs a ofI) ++ ofW cs b ofI) := hD
  refine lv_aload_n hx hb dX7_init_37 rfl (lv_at hl 0 rfl) ?_
  obtain ⟨h4, hz_h4⟩ : ∃ q, H.size = q := ⟨_, rfl⟩
  have hlt_h4 := p_lt hP hz_h4
  have hh_h4 : h0 ≤ h4 := Nat.le_of_lt (hlt_h4 0 _ rfl)
  refine k_new (ci := 0) (fs := [.null, .int 0, .int 0]) (h := h4) (C := RX0) (T := TX0) (N := 3) hx hb hts iw_X0 tyX0 tyX0_ok hown (hts _ w_cl_X7_26) (hts _ w_ib_X0) (hts _ w_in_X0) hK hP hS rfl (fun j hj => by rcases (show j = 0 ∨ j = 1 ∨ j = 2 by omega) with rfl | rfl | rfl <;> rfl) hz_h4 (Nat.le_of_ble_eq_true rfl) (Nat.le_of_ble_eq_true rfl) dX7_init_38 (fun H hz hP hPn hS => ?_)
  refine W.widen (k := 42) (n := 1064) (Nat.le_of_ble_eq_true rfl) (Nat.le_of_ble_eq_true rfl) ?_
  refine lv_dup hx hb dX7_init_41 rfl ?_
  refine k_call (h1 := h4) (va_runI (As := []) (rest := [.ref h4, .ref h0]) ⟨hx, hb, hml, hown, hts⟩ (c_X0_init l D cs h4) (cwI 0 hts (good_code w_co_X0_init) rfl rfl rfl (hts _ w_in_X0) (hts _ w_ml_X7_28) (hts _ w_im_X0_init) rfl hd_X0_init ⟨Nat.le_of_ble_eq_true rfl, Nat.le_of_ble_eq_true rfl⟩) (cp_S hz hPn hE) rfl rfl hl.1 rfl (lv_room (Nat.le_of_ble_eq_true rfl)) dX7_init_42 ⟨Nat.le_of_ble_eq_true rfl, Nat.le_of_ble_eq_true rfl⟩) hS (fun q h => Nat.le_trans hh_h4 h) hP hlt_h4 (fun u t locs _ hB hP _ hS => ?_)
  refine W.widen (k := 313) (n := 7544) (Nat.le_of_ble_eq_true rfl) (Nat.le_of_ble_eq_true rfl) ?_
  obtain ⟨q4, B4, f4, hf4, hPc, hDc⟩ := hB
  have hD := k_join hD hlt_h4 hDc (fun q h => Nat.le_trans hh_h4 h)
  have hP := hP.app hPc
  have hP : va_P D vwC (((([(h0, .inr (7, [.ref h1, .ref (a 0), .ref (b 0), .null, .null]))] ++ kX2 cs h1 a1 a2 a3 a4) ++ ofW cs a ofI) ++ ofW cs b ofI) ++ kX0 cs h4 q4 f4 B4) t.heap := hP
  have hD : va_D (fun q : Nat => h0 ≤ q) (((([(h0, .inr (7, [.ref h1, .ref (a 0), .ref (b 0), .null, .null]))] ++ kX2 cs h1 a1 a2 a3 a4) ++ ofW cs a ofI) ++ ofW cs b ofI) ++ kX0 cs h4 q4 f4 B4) := hD
  refine va_putF (D := D) (ci := 7) (v := .ref h4) (ty := .object "TrueSheets$History") (C := RX7) (T := TX7) (N := 5) hx hb hts iw_X7 tyX7 tyX7_ok nmX7 hown hK hP hD hS 0 rfl rfl 3 (by decide) (hts _ w_fl_X7_29) (fun _ h9 => h9) rfl hin rfl (by decide +kernel) rfl rfl (Nat.le_of_ble_eq_true rfl) dX7_init_45 (fun H locs hP hD hS => ?_)
  have hP : va_P D vwC (((([(h0, .inr (7, [.ref h1, .ref (a 0), .ref (b 0), .ref h4, .null]))] ++ kX2 cs h1 a1 a2 a3 a4) ++ ofW cs a ofI) ++ ofW cs b ofI) ++ kX0 cs h4 q4 f4 B4) H := hP
  have hD : va_D (fun q : Nat => h0 ≤ q) (((([(h0, .inr (7, [.ref h1, .ref (a 0), .ref (b 0), .ref h4, .null]))] ++ kX2 cs h1 a1 a2 a3 a4) ++ ofW cs a ofI) ++ ofW cs b ofI) ++ kX0 cs h4 q4 f4 B4) := hD
  refine lv_aload_n hx hb dX7_init_48 rfl (lv_at hl 0 rfl) ?_
  obtain ⟨h5, hz_h5⟩ : ∃ q, H.size = q := ⟨_, rfl⟩
  have hlt_h5 := p_lt hP hz_h5
  have hh_h5 : h0 ≤ h5 := Nat.le_of_lt (hlt_h5 0 _ rfl)
  refine k_new (ci := 5) (fs := [.null, .int 0]) (h := h5) (C := RX5) (T := TX5) (N := 2) hx hb hts iw_X5 tyX5 tyX5_ok hown (hts _ w_cl_X7_33) (hts _ w_ib_X5) (hts _ w_in_X5) hK hP hS rfl (fun j hj => by rcases (show j = 0 ∨ j = 1 by omega) with rfl | rfl <;> rfl) hz_h5 (Nat.le_of_ble_eq_true rfl) (Nat.le_of_ble_eq_true rfl) dX7_init_49 (fun H hz hP hPn hS => ?_)
  refine W.widen (k := 314) (n := 7546) (Nat.le_of_ble_eq_true rfl) (Nat.le_of_ble_eq_true rfl) ?_
  refine lv_dup hx hb dX7_init_52 rfl ?_
  refine k_call (h1 := h5) (va_runI (As := []) (rest := [.ref h5, .ref h0]) ⟨hx, hb, hml, hown, hts⟩ (c_X5_init l D cs h5) (cwI 0 hts (good_code w_co_X5_init) rfl rfl rfl (hts _ w_in_X5) (hts _ w_ml_X7_35) (hts _ w_im_X5_init) rfl hd_X5_init ⟨Nat.le_of_ble_eq_true rfl, Nat.le_of_ble_eq_true rfl⟩) (cp_S hz hPn hE) rfl rfl hl.1 rfl (lv_room (Nat.le_of_ble_eq_true rfl)) dX7_init_53 ⟨Nat.le_of_ble_eq_true rfl, Nat.le_of_ble_eq_true rfl⟩) hS (fun q h => Nat.le_trans hh_h5 h) hP hlt_h5 (fun u t locs _ hB hP _ hS => ?_)
  refine W.widen (k := 351) (n := 8410) (Nat.le_of_ble_eq_true rfl) (Nat.le_of_ble_eq_true rfl) ?_
  obtain ⟨q5, B5, f5, hf5, hPc, hDc⟩ := hB
  have hD := k_join hD hlt_h5 hDc (fun q h => Nat.le_trans hh_h5 h)
  have hP := hP.app hPc
  have hP : va_P D vwC ((((([(h0, .inr (7, [.ref h1, .ref (a 0), .ref (b 0), .ref h4, .null]))] ++ kX2 cs h1 a1 a2 a3 a4) ++ ofW cs a ofI) ++ ofW cs b ofI) ++ kX0 cs h4 q4 f4 B4) ++ kX5 cs h5 q5 f5 B5) t.heap := hP
  have hD : va_D (fun q : Nat => h0 ≤ q) ((((([(h0, .inr (7, [.ref h1, .ref (a 0), .ref (b 0), .ref h4, .null]))] ++ kX2 cs h1 a1 a2 a3 a4) ++ ofW cs a ofI) ++ ofW cs b ofI) ++ kX0 cs h4 q4 f4 B4) ++ kX5 cs h5 q5 f5 B5) := hD
  refine va_putF (D := D) (ci := 7) (v := .ref h5) (ty := .object "TrueSheets$Slots") (C := RX7) (T := TX7) (N := 5) hx hb hts iw_X7 tyX7 tyX7_ok nmX7 hown hK hP hD hS 0 rfl rfl 4 (by decide) (hts _ w_fl_X7_36) (fun _ h9 => h9) rfl hin rfl (by decide +kernel) rfl rfl (Nat.le_of_ble_eq_true rfl) dX7_init_56 (fun H locs hP hD hS => ?_)
  have hP : va_P D vwC ((((([(h0, .inr (7, [.ref h1, .ref (a 0), .ref (b 0), .ref h4, .ref h5]))] ++ kX2 cs h1 a1 a2 a3 a4) ++ ofW cs a ofI) ++ ofW cs b ofI) ++ kX0 cs h4 q4 f4 B4) ++ kX5 cs h5 q5 f5 B5) H := hP
  have hD : va_D (fun q : Nat => h0 ≤ q) ((((([(h0, .inr (7, [.ref h1, .ref (a 0), .ref (b 0), .ref h4, .ref h5]))] ++ kX2 cs h1 a1 a2 a3 a4) ++ ofW cs a ofI) ++ ofW cs b ofI) ++ kX0 cs h4 q4 f4 B4) ++ kX5 cs h5 q5 f5 B5) := hD
  obtain ⟨z, A, g0, g1, g2, g3⟩ := ts_fin hf4 hf5 hP hD
  exact W.vret hx hb hr (fun t ht hW => ⟨⟨(), rfl, trivial, z, A, g0, g1, by rw [ht]; exact g2, g3⟩, hS.F ht⟩) hS.2.2 dX7_init_59 (hlocks := hlocks)
