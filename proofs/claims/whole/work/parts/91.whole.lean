/-! the law, from its entry -/
theorem ad_ex {ws : va_W} {n : Nat} {f : Nat → Nat} (hn : ws.length = n) (h : ∀ (k : Nat) (q : Nat × va_E), ws[k]? = some q → k < n ∧ q.1 = f k) {k : Nat} (hk : k < n) : ∃ x, ws[k]? = some x ∧ x.1 = f k :=
  have h1 : k < ws.length := by rw [hn]; exact hk
  ⟨ws[k], List.getElem?_eq_getElem h1, (h k _ (List.getElem?_eq_getElem h1)).2⟩
theorem ts_lt {D : va_G} {cs : Nat → ClassId} {z : Nat → Nat} {A : Nat → Nat → Nat} {Os : Nat → OF} {T : OF} {H : Heap} (h : tsP D cs z A Os T H) (q : Nat) (hq : tA z A q) : q < H.size := by
  rcases hq with ⟨i, hi, e⟩ | ⟨k, hk, ⟨j, hj, e⟩⟩
  · obtain ⟨x, h1, h2⟩ := ad_ex (z_len cs z A T) (z_ad cs z A T) hi
    rw [e, ← h2]; exact (h.1 i x h1).lt
  · obtain ⟨x, h1, h2⟩ := ad_ex (of_len cs (A k) (Os k)) (of_ad cs (A k) (Os k)) hj
    rw [e, ← h2]; exact (h.2 k hk j x h1).lt
theorem m_lt {D : va_G} {cs : Nat → ClassId} {w : Nat → Nat} {M : MS} {H : Heap} (h : va_P D vwC (mW cs w M) H) {i : Nat} (hi : i < 8) : w i < H.size := by
  obtain ⟨x, h1, h2⟩ := ad_ex (m_len cs w M) (m_ad cs w M) hi
  rw [← h2]; exact (h i x h1).lt
theorem m_D1 {cs : Nat → ClassId} {w : Nat → Nat} {h1 : Nat} (M : MS) (hm : mD w) (hw : ∀ i, i < 8 → h1 ≤ w i) : va_D (fun q => h1 ≤ q) (mW cs w M) := by
  refine ⟨fun i j p q hp hq e => ?_, fun k q h => ?_⟩
  · obtain ⟨g1, e1⟩ := m_ad cs w M i p hp
    obtain ⟨g2, e2⟩ := m_ad cs w M j q hq
    exact hm i j g1 g2 (by rw [← e1, ← e2, e])
  · obtain ⟨g1, e1⟩ := m_ad cs w M k q h
    rw [e1]; exact hw k g1
theorem ac_long {D : va_G} {cs : Nat → ClassId} {s : State} (h : va_K D vwC (atys cs) s) : s.vm.findClass ("[" ++ (newarray.typeOf .long).toString) = some (cs 4) := (h.2 4 _ rfl).2
set_option maxHeartbeats 4000000 in
set_option maxRecDepth 100000 in
/-- from the entry, for every script of at most 2048 ints, the law comes to its end with true -/
theorem whole_start {p : Program} {e : Env} {s : State} {m : MethodId} {below : List Frame} {meth : Method} {c : Code} (l : Launch) (hflags : l.flags = flags0) {b L : Nat} {xs : Nat → Int32} (hL : L ≤ 2048) (C0 : lw_At p s m meth c b L xs) : W p l e room_1 s m #[Value.ref b] below meth c s.heap [] 0 0 (lw_Z below #[Value.ref b] s) (entryFrame m ([Value.ref b] : List Value).toArray 7) := by
  obtain ⟨hx, hb, hr, hml, hown, hts, hX, hbl, hlocks, hgv⟩ := C0
  have hown : s.vm.findClass RL = some m.cls := hown
  have hn : ∀ q ∈ NL, q.before #[Value.ref b] s = true := flat_of_before _ hgv
  have hG : ∀ q ∈ GL, q.before #[Value.ref b] s = true := fun q hq => hts q (List.mem_filter.mp hq).1
  have hlst : l.stackTraces = false := by
    unfold Launch.stackTraces
    rw [hflags]
    decide
  obtain ⟨D, cs, hK⟩ := k_0 hts
  have hE : EV D cs s := ⟨hK, kn_0 hts⟩
  have hCE : CE D cs s := ⟨hE, va_AO.of (hts _ t_ao)⟩
  have hS : va_S (fun q : Nat => s.heap.size ≤ q) s.heap s.heap [] := va_S.rf
  have hP : va_P D vwC [] s.heap := fun k q h => by simp at h
  have hl := lv_entry ([.ref b]) (n := 7) (Nat.le_of_ble_eq_true rfl)
  rw [lg_entry_eq]
  generalize (lg_sl ([.ref b]) ++ List.replicate (7 - (lg_sl ([.ref b])).length) Slot.unset).toArray = ls at hl ⊢
  have hl : lv_has ls 7 [(0, .ref b)] := hl
  obtain ⟨h0, hz0⟩ : ∃ q, s.heap.size = q := ⟨_, rfl⟩
  refine k_new (ci := 7) (fs := [.null, .null, .null, .null, .null]) (h := h0) (C := RX7) (T := TX7) (N := 5) hx hb hG iw_X7 tyX7 tyX7_ok hown (hG _ w_cl_L_8) (hG _ w_ib_X7) (hG _ w_in_X7) hK hP hS rfl (fun j hj => by rcases (show j = 0 ∨ j = 1 ∨ j = 2 ∨ j = 3 ∨ j = 4 by omega) with rfl | rfl | rfl | rfl | rfl <;> rfl) hz0 (Nat.le_of_ble_eq_true rfl) (Nat.le_of_ble_eq_true rfl) d_law_0 (fun H hz hP hPn hS => ?_)
  refine W.widen (k := 1) (n := 5) (Nat.le_of_ble_eq_true rfl) (Nat.le_of_ble_eq_true rfl) ?_
  refine lv_dup hx hb d_law_3 rfl ?_
  refine k_call (h1 := h0) (va_runI (As := []) (rest := [.ref h0]) ⟨hx, hb, hml, hown, hG⟩ (c_X7_init l D cs h0) (cwI 0 hG (good_code w_co_X7_init) rfl rfl rfl (hG _ w_in_X7) (hG _ w_ml_L_108) (hG _ w_im_X7_init) rfl hd_X7_init ⟨Nat.le_of_ble_eq_true rfl, Nat.le_of_ble_eq_true rfl⟩) (cp_S hz hPn hCE) rfl rfl hl.1 rfl (lv_room (Nat.le_of_ble_eq_true rfl)) d_law_4 ⟨Nat.le_of_ble_eq_true rfl, Nat.le_of_ble_eq_true rfl⟩) hS (fun q h => by show s.heap.size ≤ q; omega) hP (fun k q h => by simp at h) (fun u t locs _ hB _ _ hS => ?_)
  obtain ⟨z, A, ez, hd, hT, hzA⟩ := hB
  subst ez
  generalize t.heap = H9 at hT hS ⊢
  refine W.widen (k := 352) (n := 8415) (Nat.le_of_ble_eq_true rfl) (Nat.le_of_ble_eq_true rfl) ?_
  refine lv_astore_n (lv' := [(1, .ref (z 0)), (0, .ref b)]) hx hb d_law_7 rfl hl (by decide) rfl (fun ls hl => ?_)
  have hP := ts_all hT
  obtain ⟨h1, hz1⟩ : ∃ q, H9.size = q := ⟨_, rfl⟩
  have hlt1 := p_lt hP hz1
  have hs1 : s.heap.size ≤ h1 := by have := hS.1; omega
  refine k_new (ci := 8) (fs := [.int 0, .null, .null, .null, .null, .int 0, .null, .null, .null, .int 0, .int 0, .int 0, .int 0, .int 0]) (h := h1) (C := RX8) (T := TX8) (N := 14) hx hb hG iw_X8 tyX8 tyX8_ok hown (hG _ w_cl_L_109) (hG _ w_ib_X8) (hG _ w_in_X8) hK hP hS rfl (fun j hj => by rcases (show j = 0 ∨ j = 1 ∨ j = 2 ∨ j = 3 ∨ j = 4 ∨ j = 5 ∨ j = 6 ∨ j = 7 ∨ j = 8 ∨ j = 9 ∨ j = 10 ∨ j = 11 ∨ j = 12 ∨ j = 13 by omega) with rfl | rfl | rfl | rfl | rfl | rfl | rfl | rfl | rfl | rfl | rfl | rfl | rfl | rfl <;> rfl) hz1 (Nat.le_of_ble_eq_true rfl) (Nat.le_of_ble_eq_true rfl) d_law_8 (fun H hz hP hPn hS => ?_)
  refine W.widen (k := 353) (n := 8429) (Nat.le_of_ble_eq_true rfl) (Nat.le_of_ble_eq_true rfl) ?_
  refine lv_dup hx hb d_law_11 rfl ?_
  refine k_call (h1 := h1) (va_runI (As := []) (rest := [.ref h1]) ⟨hx, hb, hml, hown, hG⟩ (c_X8_init l D cs h1) (cwI 0 hG (good_code w_co_X8_init) rfl rfl rfl (hG _ w_in_X8) (hG _ w_ml_L_111) (hG _ w_im_X8_init) rfl hd_X8_init ⟨Nat.le_of_ble_eq_true rfl, Nat.le_of_ble_eq_true rfl⟩) (cp_S hz hPn hCE) rfl rfl hl.1 rfl (lv_room (Nat.le_of_ble_eq_true rfl)) d_law_12 ⟨Nat.le_of_ble_eq_true rfl, Nat.le_of_ble_eq_true rfl⟩) hS (fun q h => by show s.heap.size ≤ q; omega) hP hlt1 (fun u t locs _ hB hP _ hS => ?_)
  obtain ⟨w, ew, hm, hwA, hM⟩ := hB
  generalize t.heap = H8 at hM hP hS ⊢
  refine W.widen (k := 360) (n := 16417) (Nat.le_of_ble_eq_true rfl) (Nat.le_of_ble_eq_true rfl) ?_
  refine lv_astore_n (lv' := [(2, .ref h1), (1, .ref (z 0)), (0, .ref b)]) hx hb d_law_15 rfl hl (by decide) rfl (fun ls hl => ?_)
  refine lv_iconst (v := 1) hx hb d_law_16 (by decide) ?_
  have hD : va_D (fun q : Nat => s.heap.size ≤ q) ((zW cs z A ofZ ++ alW cs A (fun _ => ofI) 19) ++ mW cs w msI) := k_join ((ts_D cs (fun _ => ofI) ofZ hd).weaken (fun _ _ _ h => by have := hzA _ h; show s.heap.size ≤ _; omega)) hlt1 (m_D1 msI hm hwA) (fun q h => by show s.heap.size ≤ q; omega)
  have hP : va_P D vwC ((zW cs z A ofZ ++ alW cs A (fun _ => ofI) 19) ++ mW cs w msI) H8 := va_P.app hP hM
  obtain ⟨oo, hzo⟩ : ∃ q, H8.size = q := ⟨_, rfl⟩
  have hso : s.heap.size ≤ oo := by have := hS.1; omega
  refine k_newa (atype := .long) (cA := cs 4) (N' := 1) (a0 := (1, .inr (.inl (fun _ => 0)))) (h := oo) hx hb (hG _ w_ac_long) (ac_long hK) hP hD hS rfl (by decide) (by decide) (Nat.le_of_ble_eq_true rfl) hzo hso (Nat.le_of_ble_eq_true rfl) (Nat.le_of_ble_eq_true rfl) d_law_17 (fun H hz hP _ hS => ?_)
  have htl : ∀ q, tA z A q → q < h1 := fun q hq => by rw [← hz1]; exact ts_lt hT q hq
  have hwl : ∀ i, i < 8 → w i < oo := fun i hi => by rw [← hzo]; exact m_lt hM hi
  have h1o : h1 ≤ oo := Nat.le_of_lt (Nat.lt_of_le_of_lt (hwA 0 (by decide)) (hwl 0 (by decide)))
  refine lv_astore_n (lv' := [(3, .ref oo), (2, .ref h1), (1, .ref (z 0)), (0, .ref b)]) hx hb d_law_19 rfl hl (by decide) rfl (fun ls hl => ?_)
  refine lv_iconst (v := 0) hx hb d_law_20 (by decide) ?_
  refine lv_istore (lv' := [(4, .int 0), (3, .ref oo), (2, .ref h1), (1, .ref (z 0)), (0, .ref b)]) hx hb d_law_21 hl (by decide) rfl (fun ls hl => ?_)
  subst ew
  obtain ⟨adK, adV, hXE⟩ := xe_0 (z := z) (A := A) hts hn (fun a ha h => by have := hzA a h; omega)
  have K : LawK p l s m c D cs z A adK adV w oo b L xs := ⟨hx, hb, hml, hG, hown, hlst, hX, hbl, hE, hXE, nc_0 hn, hd, hm, fun h => by have := htl oo h; omega, fun i hi h => by have h2 := htl _ h; have h3 := hwA i hi; omega, fun i hi h => by have h2 := hwl i hi; omega, hso, fun q h => by have := hzA q h; omega, fun i hi => by have := hwA i hi; omega⟩
  refine W.widen (k := 400 + 2 * 0) (n := 17000 + 12 * 0) (Nat.le_of_ble_eq_true rfl) (Nat.le_of_ble_eq_true rfl) ?_
  exact law_loop K hr hlocks hL (L + 1) 0 0 (Nat.zero_le L) (by omega) rfl (fun _ => ofI) ofZ msI (fun _ => 0) H _ ls (sr_first 720) ⟨ts_of_all (p_l (p_l hP)), p_r (p_l hP), p_r hP⟩ hS (lv_sub hl [4, 3, 2, 1, 0] rfl)
