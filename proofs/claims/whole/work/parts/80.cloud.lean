/-! math: the fields of a revision -/
section
variable {n : Nat} {f : Nat → Int32} (hF : TOK n f)
theorem cloud_of {V : Int32} {v : Nat} (hv : v < 12) (hb : ∀ j, j < 32 → bt V j = true → j < 12) (h1 : bt V v = true) : sX8_isCloud V = true := by
  have hl := lt_of_bits (N := 12) (by decide) hb
  have e := nI_self V
  obtain ⟨m, em⟩ : ∃ m, m = V.toBitVec.toNat := ⟨_, rfl⟩
  rw [← em] at hl e
  have hl : m < 4096 := hl
  have hm : m ≠ 0 := fun z => by
    rw [e, z] at h1
    have : bt (nI 0) v = false := b_0 v
    rw [this] at h1
    exact nomatch h1
  unfold sX8_isCloud
  rw [in_iff32, e, nI_toInt (by omega)]
  have z1 : (1 : Int64).toInt = 1 := rfl
  have z2 : (4095 : Int64).toInt = 4095 := rfl
  omega
theorem s6_g (M : MS) (a : Nat) (v : Int32) : msS (gM M a) 6 v = gM (msS M 6 v) a := by
  show ((upd (upd M.1.1 3 (nI a)) 6 v, M.1.2), true) = ((upd (upd M.1.1 6 v) 3 (nI a), M.1.2), true)
  have e : upd (upd M.1.1 3 (nI a)) 6 v = upd (upd M.1.1 6 v) 3 (nI a) := funext fun k => by
    by_cases c6 : k = 6
    · subst c6; rw [pk_us, pk_un (by decide), pk_us]
    · rw [pk_un c6]
      by_cases c3 : k = 3
      · subst c3; rw [pk_us, pk_us]
      · rw [pk_un c3, pk_un c3, pk_un c6]
  rw [e]
theorem s6_6 (M : MS) (x y : Int32) : msS (msS M 6 x) 6 y = msS M 6 y := by
  show ((upd (upd M.1.1 6 x) 6 y, M.1.2), M.2) = _
  rw [upd_tw]
  rfl
theorem bad_x {M : MS} {acc w : Int32} (q : Nat) : BAD M q (msS (msG (gM (msS M 6 acc) q) false) 6 w) := ⟨rfl, rfl, fun k h3 h6 => by
  show upd (upd (upd M.1.1 6 acc) 3 (nI q)) 6 w k = _
  rw [pk_un h6, pk_un h3, pk_un h6], rfl⟩
theorem bad_y {M : MS} {acc w : Int32} (q : Nat) : BAD M q (msS (msG (bM (msS M 6 acc) q) false) 6 w) := ⟨rfl, rfl, fun k h3 h6 => by
  show upd (upd (upd M.1.1 6 acc) 3 (nI q)) 6 w k = _
  rw [pk_un h6, pk_un h3, pk_un h6], rfl⟩
theorem cl_stop (M0 : MS) (F : Nat) (x : Int32) (N : MS) : LX8_readCloud_9 M0 (F + 1) x false N = N := by
  rw [LX8_readCloud_9_eq]
  by_cases c : N.2 = true
  · rw [if_pos c, if_neg (by decide)]
  · rw [if_neg c]
def FO (n : Nat) (M : MS) (T : OF) (a : Nat) (c : Int32 × OF) (N : MS) : Prop :=
  (∃ p, p ≤ n ∧ c = (-1, stS T 1 (nI p)) ∧ BAD M p N) ∨ ∃ q V, c = (V, stS T 1 (nI q)) ∧ sX8_isCloud V = true ∧ N = gM (msS M 6 V) q ∧ a + 1 ≤ q ∧ q ≤ n
theorem cloud_loop (hF : TOK n f) {T T0 : OF} (hT : CT n f T) {M M0 : MS} (hM : CR n f M) : ∀ (r i a : Nat) (x acc : Int32) (F : Nat), i + r = 13 → a ≤ n → -1 ≤ x.toInt → x.toInt ≤ 11 → (i : Int) ≤ x.toInt + 1 → (∀ j, j < 32 → bt acc j = true → j < 12) → 2 * (n - a) + 1 ≤ F →
    FO n M T a (LX2_readFields_7 T0 (nI 11) (r + 1) acc x (nI i) (stS T 1 (nI a))) (LX8_readCloud_9 M0 (F + 1) x true (gM (msS M 6 acc) a)) := by
  have h120 := hF.1
  intro r
  induction r with
  | zero => intro i a x acc F hi ha h1 h2 h3 _ _; exfalso; omega
  | succ r ih =>
    intro i a x acc F hi ha h1 h2 h3 hb hf
    obtain ⟨F', rfl⟩ : ∃ F', F = F' + 1 := ⟨F - 1, by omega⟩
    have hT1 : CT n f (stS T 1 (nI a)) := hT
    have hN : CR n f (msS M 6 acc) := hM
    have hc := rnum_n hF hT1 (a := a) (by omega) rfl (lo := 0) (hi := 11) (by decide) (by decide)
    have hr := number_n hF hN (a := a) (by omega) (lo := 0) (hi := 11) (by decide) (by decide) (by decide)
    have hc1 : sX2_readNumber (stS T 1 (nI a)) 0 (nI 11) = sX2_readNumber (stS T 1 (nI a)) (nI 0) (nI 11) := rfl
    have hr1 : sX8_number (gM (msS M 6 acc) a) 0 11 = sX8_number (gM (msS M 6 acc) a) (nI 0) (nI 11) := rfl
    have n12 : ¬ (12 : Int32) < nI i := nI_nlt (a := 12) (b := i) (by omega) (by decide)
    rw [LX2_readFields_7_eq, LX8_readCloud_9_eq, if_neg n12, hc1, hr1]
    by_cases ok : nok n f ((0 : Nat) : Int) ((11 : Nat) : Int) a
    · obtain ⟨v1, v2, v3, v4⟩ := nval_in (lo := 0) (hi := 11) ok
      rw [hc.1 ok, hr.1 ok, stS_tw]
      obtain ⟨v, ev⟩ : ∃ v, nval n f ((11 : Nat) : Int) a = v := ⟨_, rfl⟩
      obtain ⟨q, eq⟩ : ∃ q, nend n f ((11 : Nat) : Int) a = q := ⟨_, rfl⟩
      rw [ev] at v1 v2 ⊢
      rw [eq] at v3 v4 ⊢
      have hT2 : CT n f (stS T 1 (nI q)) := hT
      have e6 : (gM (msS M 6 acc) q).1.1 6 = acc := rfl
      have e2 : (gM (msS M 6 acc) q).2 = true := rfl
      have ea : (gM (msS M 6 acc) a).2 = true := rfl
      dsimp only
      rw [e2, e6, ea, if_pos rfl, if_pos rfl]
      by_cases cv : x < nI v
      · have cv' : ¬ nI v ≤ x := fun z => by have := i32_lt.mp cv; have := i32_le.mp z; omega
        have tv : (nI v).toInt = (v : Int) := nI_toInt (by omega)
        have xv := i32_lt.mp cv
        rw [tv] at xv
        have hb2 : ∀ j, j < 32 → bt (acc ||| 1 <<< (nI v &&& 31)) j = true → j < 12 := fun j hj hbt => by
          rw [b_set (by omega) hj] at hbt
          rcases Bool.or_eq_true_iff.mp hbt with z | z
          · exact hb j hj z
          · have := of_decide_eq_true z; omega
        have hcl : sX8_isCloud (acc ||| 1 <<< (nI v &&& 31)) = true := cloud_of (v := v) (by omega) hb2 (by rw [b_set (by omega) (by omega)]; simp)
        have est : msS (msG (gM (msS M 6 acc) q) true) 6 (acc ||| 1 <<< (nI v &&& 31)) = gM (msS M 6 (acc ||| 1 <<< (nI v &&& 31))) q := by
          show msS (gM (msS M 6 acc) q) 6 _ = _
          rw [s6_g, s6_6]
        have hN2 : CR n f (msS M 6 (acc ||| 1 <<< (nI v &&& 31))) := hM
        rw [if_pos cv]
        simp only [cv', if_false, if_true]
        rw [est, here_e hF (gM_c hN2 q) (by omega) (gM_at _ q), rsign_n hF hT2 (a := q) (by omega) rfl]
        by_cases c44 : tch n f q = 44
        · have hq : q < n := tch_lt (by rw [c44]; decide)
          simp only [c44, if_true]
          rw [take_g, if_pos rfl, stS_tw]
          rcases ih (i + 1) (q + 1) (nI v) (acc ||| 1 <<< (nI v &&& 31)) F' (by omega) (by omega) (by omega) (by omega) (by omega) hb2 (by omega) with ⟨p, hp, g1, g2⟩ | ⟨q2, V, g1, g2, g3, g4, g5⟩
          · exact Or.inl ⟨p, hp, by rw [nI_1]; exact g1, g2⟩
          · exact Or.inr ⟨q2, V, by rw [nI_1]; exact g1, g2, g3, by omega, g5⟩
        · simp only [c44, if_false, Bool.false_eq_true]
          rw [cl_stop]
          exact Or.inr ⟨q, _, rfl, hcl, rfl, by omega, v4⟩
      · have cv' : nI v ≤ x := i32_le.mpr (by have : ¬ x.toInt < (nI v).toInt := fun z => cv (i32_lt.mpr z); omega)
        rw [if_neg cv]
        simp only [cv', if_true, Bool.false_eq_true, if_false]
        rw [cl_stop]
        exact Or.inl ⟨q, v4, rfl, bad_x q⟩
    · have e6 : (bM (msS M 6 acc) a).1.1 6 = acc := rfl
      have e2 : (bM (msS M 6 acc) a).2 = false := rfl
      have ea : (gM (msS M 6 acc) a).2 = true := rfl
      rw [hc.2 ok, hr.2 ok]
      dsimp only
      have cx : ¬ x < -1 := fun z => by have := i32_lt.mp z; have : (-1 : Int32).toInt = -1 := rfl; omega
      rw [e2, ea, if_neg cx]
      simp only [if_true, Bool.false_eq_true, if_false]
      rw [cl_stop]
      exact Or.inl ⟨a, ha, rfl, bad_y a⟩
theorem cloud_n (hF : TOK n f) {T : OF} (hT : CT n f T) {M : MS} (hM : CR n f M) {a : Nat} (ha : a ≤ n) (hp : T.1 1 = nI a) : FO n M T a (sX2_readFields T 11) (sX8_readCloud (gM M a)) := by
  have h120 := hF.1
  have eT : stS T 1 (nI a) = T := by
    show (upd T.1 1 (nI a), T.2) = T
    rw [← hp, upd_id]
  have eM : msS (gM M a) 6 0 = gM (msS M 6 0) a := s6_g M a 0
  have eR : rcM (gM (msS M 6 0) a) true = 2 * (n - a) + 1 := by
    unfold rcM
    have e1 : (gM (msS M 6 0) a).1.1 2 = nI n := hM.1
    have e2 : (gM (msS M 6 0) a).1.1 3 = nI a := rfl
    rw [e1, e2, nI_toInt (by omega), nI_toInt (by omega), if_pos rfl]
    omega
  unfold sX2_readFields sX8_readCloud
  rw [eM, eR]
  have k := cloud_loop hF (T0 := T) hT (M0 := gM M a) hM 13 0 a (-1) 0 (2 * (n - a) + 1) (by decide) ha (by decide) (by decide) (by decide) (fun j _ hb => by rw [b_0] at hb; exact nomatch hb) (Nat.le_refl _)
  rw [eT] at k
  exact k
end
