/-! the law's loop, out of its 32 cases -/
def lwT : Array Int := #[141, 197, 210, 223, 267, 323, 391, 459, 527, 595, 663, 719, 775, 843, 899, 967, 1035, 1091, 1159, 1215, 1271, 1339, 1383, 1451, 1531, 1587, 1643, 1656, 1724, 1824, 1924, 1980]
theorem law_tab : ∀ k : Nat, k < 32 → ∃ (off : Int) (tgt : Nat), lwT[k]? = some off ∧ ((39 : Nat) : Int) + off = (tgt : Int) ∧ LCase tgt := by
  intro k hk
  rcases (show k = 0 ∨ k = 1 ∨ k = 2 ∨ k = 3 ∨ k = 4 ∨ k = 5 ∨ k = 6 ∨ k = 7 ∨ k = 8 ∨ k = 9 ∨ k = 10 ∨ k = 11 ∨ k = 12 ∨ k = 13 ∨ k = 14 ∨ k = 15 ∨ k = 16 ∨ k = 17 ∨ k = 18 ∨ k = 19 ∨ k = 20 ∨ k = 21 ∨ k = 22 ∨ k = 23 ∨ k = 24 ∨ k = 25 ∨ k = 26 ∨ k = 27 ∨ k = 28 ∨ k = 29 ∨ k = 30 ∨ k = 31 by omega) with rfl | rfl | rfl | rfl | rfl | rfl | rfl | rfl | rfl | rfl | rfl | rfl | rfl | rfl | rfl | rfl | rfl | rfl | rfl | rfl | rfl | rfl | rfl | rfl | rfl | rfl | rfl | rfl | rfl | rfl | rfl | rfl
  · exact ⟨141, 180, rfl, by decide, law_c180⟩
  · exact ⟨197, 236, rfl, by decide, law_c236⟩
  · exact ⟨210, 249, rfl, by decide, law_c249⟩
  · exact ⟨223, 262, rfl, by decide, law_c262⟩
  · exact ⟨267, 306, rfl, by decide, law_c306⟩
  · exact ⟨323, 362, rfl, by decide, law_c362⟩
  · exact ⟨391, 430, rfl, by decide, law_c430⟩
  · exact ⟨459, 498, rfl, by decide, law_c498⟩
  · exact ⟨527, 566, rfl, by decide, law_c566⟩
  · exact ⟨595, 634, rfl, by decide, law_c634⟩
  · exact ⟨663, 702, rfl, by decide, law_c702⟩
  · exact ⟨719, 758, rfl, by decide, law_c758⟩
  · exact ⟨775, 814, rfl, by decide, law_c814⟩
  · exact ⟨843, 882, rfl, by decide, law_c882⟩
  · exact ⟨899, 938, rfl, by decide, law_c938⟩
  · exact ⟨967, 1006, rfl, by decide, law_c1006⟩
  · exact ⟨1035, 1074, rfl, by decide, law_c1074⟩
  · exact ⟨1091, 1130, rfl, by decide, law_c1130⟩
  · exact ⟨1159, 1198, rfl, by decide, law_c1198⟩
  · exact ⟨1215, 1254, rfl, by decide, law_c1254⟩
  · exact ⟨1271, 1310, rfl, by decide, law_c1310⟩
  · exact ⟨1339, 1378, rfl, by decide, law_c1378⟩
  · exact ⟨1383, 1422, rfl, by decide, law_c1422⟩
  · exact ⟨1451, 1490, rfl, by decide, law_c1490⟩
  · exact ⟨1531, 1570, rfl, by decide, law_c1570⟩
  · exact ⟨1587, 1626, rfl, by decide, law_c1626⟩
  · exact ⟨1643, 1682, rfl, by decide, law_c1682⟩
  · exact ⟨1656, 1695, rfl, by decide, law_c1695⟩
  · exact ⟨1724, 1763, rfl, by decide, law_c1763⟩
  · exact ⟨1824, 1863, rfl, by decide, law_c1863⟩
  · exact ⟨1924, 1963, rfl, by decide, law_c1963⟩
  · exact ⟨1980, 2019, rfl, by decide, law_c2019⟩
theorem and31 (y : Int32) : ∃ k : Nat, k < 32 ∧ y &&& 31 = nI k := by
  have h1 : (y &&& 31).toBitVec.toNat ≤ 31 := by
    rw [Int32.toBitVec_and, BitVec.toNat_and]
    exact Nat.le_trans Nat.and_le_right (by decide)
  refine ⟨(y &&& 31).toBitVec.toNat, by omega, ?_⟩
  refine i_of ?_
  rw [← Int32.toInt_toBitVec, BitVec.toInt_eq_toNat_of_lt (by omega)]
theorem len_gt {L j : Nat} (hL : L ≤ 2048) (hj : 4 * j ≤ L) : Int32.ofNat L - 4 < nI (4 * j) ↔ L < 4 * j + 4 := by
  have e1 : (Int32.ofNat L - 4).toInt = (L : Int) - 4 := by
    have h1 : (Int32.ofNat L).toInt = (L : Int) := nI_toInt (n := L) (by omega)
    have h2 : (4 : Int32).toInt = 4 := rfl
    rw [Int32.toInt_sub, h1, h2]
    exact fb_bmod (by omega) (by omega)
  rw [i32_lt, e1, nI_toInt (by omega)]
  omega
set_option maxHeartbeats 4000000 in
set_option maxRecDepth 100000 in
theorem law_loop {p : Program} {l : Launch} {e : Env} {s : State} {m : MethodId} {below : List Frame} {meth : Method} {c : Code} {D : va_G} {cs : Nat → ClassId} {z : Nat → Nat} {A : Nat → Nat → Nat} {adK adV : Nat → Nat} {w : Nat → Nat} {oo b L : Nat} {xs : Nat → Int32} (K : LawK p l s m c D cs z A adK adV w oo b L xs) (hr : meth.sig.returnType = ret) (hlocks : meth.locks = false) (hL : L ≤ 2048) :
    ∀ (n j : Nat) (x4 : Int32), 4 * j ≤ L → L + 4 ≤ 4 * (j + n) → x4 = nI (4 * j) → ∀ (Os : Nat → OF) (T : OF) (M : MS) (g : Nat → Int64) (H : Heap) (locs : List Loc) (ls : Array Slot), SR (720 + 30 * j) Os T M → LWP D cs z A w oo Os T M g H → va_S (fun q : Nat => s.heap.size ≤ q) s.heap H locs → lv_has ls 7 (lvs b z w oo x4) → W p l e room_1 s m #[Value.ref b] below meth c H locs (400 + 2 * j) (17000 + 12 * j) (lw_Z below #[Value.ref b] s) (F0 m 23 ls []) := by
  have hx := K.hx
  have hb := K.hb
  intro n
  induction n with
  | zero =>
    intro j x4 h1 h2
    exact absurd h2 (by omega)
  | succ n ih =>
    intro j x4 hj hn ex Os T M g H locs ls hR hP hS hl
    refine lv_iload hx hb d_law_23 (lv_at hl 4 rfl) ?_
    refine lv_aload_n hx hb d_law_25 rfl (lv_at hl 0 rfl) ?_
    refine va_slen hx hb K.hX K.hbl K.hbA hS d_law_26 ?_
    refine lv_iconst (v := 4) hx hb d_law_27 (by decide) ?_
    refine lv_isub hx hb d_law_28 ?_
    refine lv_icmp_gt (tgt := 2081) hx hb d_law_29 (by decide) (fun c29 => ?_) (fun c29 => ?_)
    · refine lv_iconst (v := 1) hx hb d_law_2081 (by decide) ?_
      refine va_forget (fun q hq => hS.2.2 q hq) ?_
      refine W.widen (k := 601024) (n := 7293034) (by omega) (by omega) ?_
      exact lw_ret hx hb hr hlocks d_law_2082
    · rw [ex, len_gt hL hj] at c29
      have hlt : 4 * j + 4 ≤ L := by omega
      have hin : ∀ i : Nat, i < 4 → vp_in (x4 + nI i) L := fun i hi => by
        rw [ex, nI_add]; exact vp_in_nI (by omega) (by omega)
      have hi0 : vp_in x4 L := by rw [ex]; exact vp_in_nI (by omega) (by omega)
      refine lv_aload_n hx hb d_law_32 rfl (lv_at hl 0 rfl) ?_
      refine lv_iload hx hb d_law_33 (lv_at hl 4 rfl) ?_
      refine va_sld hx hb K.hX K.hbl K.hbA hS hi0 d_law_35 ?_
      refine lv_bipush (v := 31) hx hb d_law_36 (by decide) ?_
      refine lv_iand hx hb d_law_38 ?_
      obtain ⟨k, hk, ek⟩ := and31 (xs x4.toNatClampNeg)
      rw [ek]
      obtain ⟨off, tgt, o1, o2, o3⟩ := law_tab k hk
      have ek2 : (nI k).toInt = (k : Int) := nI_toInt (by omega)
      refine lv_tableIn (offs := lwT) (off := off) (tgt := tgt) hx hb d_law_39 (by rw [ek2]; omega) (by rw [ek2]; omega) (by rw [ek2, show ((k : Int) - 0).toNat = k by omega]; exact o1) o2 ?_
      refine o3 p l e s m below meth c D cs z A adK adV w oo b L xs _ x4 _ _ _ (720 + 30 * j) Os T M g H locs _ _ ls K (hin 1 (by decide)) (hin 2 (by decide)) (hin 3 (by decide)) rfl rfl rfl hR (by omega) (by omega) hP hS hl (by omega) (by omega) (fun Os T M g H locs ls hR hP hS hl => ?_)
      refine lv_iinc (v := nI (4 * (j + 1))) (lv' := [(4, .int (nI (4 * (j + 1)))), (0, .ref b), (1, .ref (z 0)), (2, .ref (w 0)), (3, .ref oo)]) hx hb d_law_2075 hl (k := 4) rfl (by rw [ex]; exact nI_add (4 * j) 4) (by decide) rfl (fun ls hl => ?_)
      refine lv_goto (tgt := 23) hx hb d_law_2078 (by decide) ?_
      refine W.widen (k := 400 + 2 * (j + 1)) (n := 17000 + 12 * (j + 1)) (by omega) (by omega) ?_
      exact ih (j + 1) _ hlt (by omega) rfl Os T M g H locs ls hR hP hS (lv_sub hl [1, 2, 3, 4, 0] rfl)
