/-! the law's walk: what stands during all of it, one script word, one call, the comparison behind two calls -/
def lvs (b : Nat) (z w : Nat → Nat) (oo : Nat) (x4 : Int32) : List (Nat × Value) := [(0, .ref b), (1, .ref (z 0)), (2, .ref (w 0)), (3, .ref oo), (4, .int x4)]
/-- the cells of the law: the class's, the reference's, the one for longs -/
def LWP (D : va_G) (cs : Nat → ClassId) (z : Nat → Nat) (A : Nat → Nat → Nat) (w : Nat → Nat) (oo : Nat) (Os : Nat → OF) (T : OF) (M : MS) (g : Nat → Int64) (H : Heap) : Prop := tsP D cs z A Os T H ∧ va_P D vwC (mW cs w M) H ∧ va_P D vwC (oW cs oo g) H
def LawK (p : Program) (l : Launch) (s : State) (m : MethodId) (c : Code) (D : va_G) (cs : Nat → ClassId) (z : Nat → Nat) (A : Nat → Nat → Nat) (adK adV : Nat → Nat) (w : Nat → Nat) (oo b L : Nat) (xs : Nat → Int32) : Prop :=
  p.tables.exec = Jvm.exec ∧ c.code = code ∧ c.maxLocals = 7 ∧ (∀ q ∈ GL, q.before #[Value.ref b] s = true) ∧ s.vm.findClass RL = some m.cls ∧ l.stackTraces = false ∧ va_X b L xs s s.heap ∧ b < s.heap.size ∧ EV D cs s ∧ XE z A adK adV s ∧ NCs s ∧ tD z A ∧ mD w ∧ ¬ tA z A oo ∧ (∀ i, i < 8 → ¬ tA z A (w i)) ∧ (∀ i, i < 8 → w i ≠ oo) ∧ s.heap.size ≤ oo ∧ (∀ q, tA z A q → s.heap.size ≤ q) ∧ (∀ i, i < 8 → s.heap.size ≤ w i)
theorem LawK.hx {p : Program} {l : Launch} {s : State} {m : MethodId} {c : Code} {D : va_G} {cs : Nat → ClassId} {z : Nat → Nat} {A : Nat → Nat → Nat} {adK adV : Nat → Nat} {w : Nat → Nat} {oo b L : Nat} {xs : Nat → Int32} (K : LawK p l s m c D cs z A adK adV w oo b L xs) : p.tables.exec = Jvm.exec := K.1
theorem LawK.hb {p : Program} {l : Launch} {s : State} {m : MethodId} {c : Code} {D : va_G} {cs : Nat → ClassId} {z : Nat → Nat} {A : Nat → Nat → Nat} {adK adV : Nat → Nat} {w : Nat → Nat} {oo b L : Nat} {xs : Nat → Int32} (K : LawK p l s m c D cs z A adK adV w oo b L xs) : c.code = code := K.2.1
theorem LawK.hml {p : Program} {l : Launch} {s : State} {m : MethodId} {c : Code} {D : va_G} {cs : Nat → ClassId} {z : Nat → Nat} {A : Nat → Nat → Nat} {adK adV : Nat → Nat} {w : Nat → Nat} {oo b L : Nat} {xs : Nat → Int32} (K : LawK p l s m c D cs z A adK adV w oo b L xs) : c.maxLocals = 7 := K.2.2.1
theorem LawK.hts {p : Program} {l : Launch} {s : State} {m : MethodId} {c : Code} {D : va_G} {cs : Nat → ClassId} {z : Nat → Nat} {A : Nat → Nat → Nat} {adK adV : Nat → Nat} {w : Nat → Nat} {oo b L : Nat} {xs : Nat → Int32} (K : LawK p l s m c D cs z A adK adV w oo b L xs) : ∀ q ∈ GL, q.before #[Value.ref b] s = true := K.2.2.2.1
theorem LawK.hown {p : Program} {l : Launch} {s : State} {m : MethodId} {c : Code} {D : va_G} {cs : Nat → ClassId} {z : Nat → Nat} {A : Nat → Nat → Nat} {adK adV : Nat → Nat} {w : Nat → Nat} {oo b L : Nat} {xs : Nat → Int32} (K : LawK p l s m c D cs z A adK adV w oo b L xs) : s.vm.findClass RL = some m.cls := K.2.2.2.2.1
theorem LawK.hlst {p : Program} {l : Launch} {s : State} {m : MethodId} {c : Code} {D : va_G} {cs : Nat → ClassId} {z : Nat → Nat} {A : Nat → Nat → Nat} {adK adV : Nat → Nat} {w : Nat → Nat} {oo b L : Nat} {xs : Nat → Int32} (K : LawK p l s m c D cs z A adK adV w oo b L xs) : l.stackTraces = false := K.2.2.2.2.2.1
theorem LawK.hX {p : Program} {l : Launch} {s : State} {m : MethodId} {c : Code} {D : va_G} {cs : Nat → ClassId} {z : Nat → Nat} {A : Nat → Nat → Nat} {adK adV : Nat → Nat} {w : Nat → Nat} {oo b L : Nat} {xs : Nat → Int32} (K : LawK p l s m c D cs z A adK adV w oo b L xs) : va_X b L xs s s.heap := K.2.2.2.2.2.2.1
theorem LawK.hbl {p : Program} {l : Launch} {s : State} {m : MethodId} {c : Code} {D : va_G} {cs : Nat → ClassId} {z : Nat → Nat} {A : Nat → Nat → Nat} {adK adV : Nat → Nat} {w : Nat → Nat} {oo b L : Nat} {xs : Nat → Int32} (K : LawK p l s m c D cs z A adK adV w oo b L xs) : b < s.heap.size := K.2.2.2.2.2.2.2.1
theorem LawK.hE {p : Program} {l : Launch} {s : State} {m : MethodId} {c : Code} {D : va_G} {cs : Nat → ClassId} {z : Nat → Nat} {A : Nat → Nat → Nat} {adK adV : Nat → Nat} {w : Nat → Nat} {oo b L : Nat} {xs : Nat → Int32} (K : LawK p l s m c D cs z A adK adV w oo b L xs) : EV D cs s := K.2.2.2.2.2.2.2.2.1
theorem LawK.hXE {p : Program} {l : Launch} {s : State} {m : MethodId} {c : Code} {D : va_G} {cs : Nat → ClassId} {z : Nat → Nat} {A : Nat → Nat → Nat} {adK adV : Nat → Nat} {w : Nat → Nat} {oo b L : Nat} {xs : Nat → Int32} (K : LawK p l s m c D cs z A adK adV w oo b L xs) : XE z A adK adV s := K.2.2.2.2.2.2.2.2.2.1
theorem LawK.hN {p : Program} {l : Launch} {s : State} {m : MethodId} {c : Code} {D : va_G} {cs : Nat → ClassId} {z : Nat → Nat} {A : Nat → Nat → Nat} {adK adV : Nat → Nat} {w : Nat → Nat} {oo b L : Nat} {xs : Nat → Int32} (K : LawK p l s m c D cs z A adK adV w oo b L xs) : NCs s := K.2.2.2.2.2.2.2.2.2.2.1
theorem LawK.hd {p : Program} {l : Launch} {s : State} {m : MethodId} {c : Code} {D : va_G} {cs : Nat → ClassId} {z : Nat → Nat} {A : Nat → Nat → Nat} {adK adV : Nat → Nat} {w : Nat → Nat} {oo b L : Nat} {xs : Nat → Int32} (K : LawK p l s m c D cs z A adK adV w oo b L xs) : tD z A := K.2.2.2.2.2.2.2.2.2.2.2.1
theorem LawK.hm {p : Program} {l : Launch} {s : State} {m : MethodId} {c : Code} {D : va_G} {cs : Nat → ClassId} {z : Nat → Nat} {A : Nat → Nat → Nat} {adK adV : Nat → Nat} {w : Nat → Nat} {oo b L : Nat} {xs : Nat → Int32} (K : LawK p l s m c D cs z A adK adV w oo b L xs) : mD w := K.2.2.2.2.2.2.2.2.2.2.2.2.1
theorem LawK.ho {p : Program} {l : Launch} {s : State} {m : MethodId} {c : Code} {D : va_G} {cs : Nat → ClassId} {z : Nat → Nat} {A : Nat → Nat → Nat} {adK adV : Nat → Nat} {w : Nat → Nat} {oo b L : Nat} {xs : Nat → Int32} (K : LawK p l s m c D cs z A adK adV w oo b L xs) : ¬ tA z A oo := K.2.2.2.2.2.2.2.2.2.2.2.2.2.1
theorem LawK.hwz {p : Program} {l : Launch} {s : State} {m : MethodId} {c : Code} {D : va_G} {cs : Nat → ClassId} {z : Nat → Nat} {A : Nat → Nat → Nat} {adK adV : Nat → Nat} {w : Nat → Nat} {oo b L : Nat} {xs : Nat → Int32} (K : LawK p l s m c D cs z A adK adV w oo b L xs) : ∀ i, i < 8 → ¬ tA z A (w i) := K.2.2.2.2.2.2.2.2.2.2.2.2.2.2.1
theorem LawK.hwo {p : Program} {l : Launch} {s : State} {m : MethodId} {c : Code} {D : va_G} {cs : Nat → ClassId} {z : Nat → Nat} {A : Nat → Nat → Nat} {adK adV : Nat → Nat} {w : Nat → Nat} {oo b L : Nat} {xs : Nat → Int32} (K : LawK p l s m c D cs z A adK adV w oo b L xs) : ∀ i, i < 8 → w i ≠ oo := K.2.2.2.2.2.2.2.2.2.2.2.2.2.2.2.1
theorem LawK.hoS {p : Program} {l : Launch} {s : State} {m : MethodId} {c : Code} {D : va_G} {cs : Nat → ClassId} {z : Nat → Nat} {A : Nat → Nat → Nat} {adK adV : Nat → Nat} {w : Nat → Nat} {oo b L : Nat} {xs : Nat → Int32} (K : LawK p l s m c D cs z A adK adV w oo b L xs) : s.heap.size ≤ oo := K.2.2.2.2.2.2.2.2.2.2.2.2.2.2.2.2.1
theorem LawK.hzS {p : Program} {l : Launch} {s : State} {m : MethodId} {c : Code} {D : va_G} {cs : Nat → ClassId} {z : Nat → Nat} {A : Nat → Nat → Nat} {adK adV : Nat → Nat} {w : Nat → Nat} {oo b L : Nat} {xs : Nat → Int32} (K : LawK p l s m c D cs z A adK adV w oo b L xs) : ∀ q, tA z A q → s.heap.size ≤ q := K.2.2.2.2.2.2.2.2.2.2.2.2.2.2.2.2.2.1
theorem LawK.hwS {p : Program} {l : Launch} {s : State} {m : MethodId} {c : Code} {D : va_G} {cs : Nat → ClassId} {z : Nat → Nat} {A : Nat → Nat → Nat} {adK adV : Nat → Nat} {w : Nat → Nat} {oo b L : Nat} {xs : Nat → Int32} (K : LawK p l s m c D cs z A adK adV w oo b L xs) : ∀ i, i < 8 → s.heap.size ≤ w i := K.2.2.2.2.2.2.2.2.2.2.2.2.2.2.2.2.2.2
section
variable {p : Program} {l : Launch} {e : Env} {s : State} {m : MethodId} {below : List Frame} {meth : Method} {c : Code} {D : va_G} {cs : Nat → ClassId} {z : Nat → Nat} {A : Nat → Nat → Nat} {adK adV : Nat → Nat} {w : Nat → Nat} {oo b L : Nat} {xs : Nat → Int32} {Q : State → Prop} {x4 : Int32} {Os : Nat → OF} {T : OF} {M : MS} {g : Nat → Int64} {H : Heap} {locs : List Loc} {cells slots : Nat} {ls : Array Slot} {rest : List Value}
theorem LawK.hA (K : LawK p l s m c D cs z A adK adV w oo b L xs) (q : Nat) (h : wAd z A oo q) : s.heap.size ≤ q := h.elim (K.hzS q) (fun e => by rw [e]; exact K.hoS)
theorem LawK.hAm (K : LawK p l s m c D cs z A adK adV w oo b L xs) (q : Nat) (h : mA w q) : s.heap.size ≤ q := by
  obtain ⟨i, hi, e⟩ := h
  rw [e]; exact K.hwS i hi
theorem LawK.hSt (K : LawK p l s m c D cs z A adK adV w oo b L xs) (hS : va_S (fun q : Nat => s.heap.size ≤ q) s.heap H locs) : va_S (tA z A) s.heap H [] := ⟨hS.1, fun q h1 h2 => hS.2.1 q h1 (Nat.not_le.mpr h1), fun _ h => by cases h⟩
theorem LawK.hbA (K : LawK p l s m c D cs z A adK adV w oo b L xs) : ¬ (fun q : Nat => s.heap.size ≤ q) b := Nat.not_le.mpr K.hbl
theorem m_keep {H1 : Heap} {X : Nat → Prop} (hP : va_P D vwC (mW cs w M) H) (hx : ∀ i, i < 8 → ¬ X (w i)) (hk : ∀ q : Nat, q < H.size → ¬ X q → H1[q]? = H[q]?) : va_P D vwC (mW cs w M) H1 :=
  p_keep hP (fun i q hq => by obtain ⟨h1, e1⟩ := m_ad cs w M i q hq; rw [e1]; exact hx i h1) hk
theorem o_keep {H1 : Heap} {X : Nat → Prop} (hP : va_P D vwC (oW cs oo g) H) (hx : ¬ X oo) (hk : ∀ q : Nat, q < H.size → ¬ X q → H1[q]? = H[q]?) : va_P D vwC (oW cs oo g) H1 :=
  p_keep hP (fun i q hq => by match i, hq with | 0, hq => (cases hq; exact hx) | i + 1, hq => simp [oW] at hq) hk
theorem t_keep {H1 : Heap} {X : Nat → Prop} (hP : tsP D cs z A Os T H) (hx : ∀ q, tA z A q → ¬ X q) (hk : ∀ q : Nat, q < H.size → ¬ X q → H1[q]? = H[q]?) : tsP D cs z A Os T H1 :=
  ⟨p_keep hP.1 (fun i q hq => by obtain ⟨h1, e1⟩ := z_ad cs z A T i q hq; exact hx _ (Or.inl ⟨i, h1, e1⟩)) hk,
   fun k hk9 => p_keep (hP.2 k hk9) (fun i q hq => by obtain ⟨h1, e1⟩ := of_ad cs (A k) (Os k) i q hq; exact hx _ (Or.inr ⟨k, hk9, ⟨i, h1, e1⟩⟩)) hk⟩
/-- what a wrapper's call finds -/
theorem lwe_S (K : LawK p l s m c D cs z A adK adV w oo b L xs) (hP : LWP D cs z A w oo Os T M g H) (hS : va_S (fun q : Nat => s.heap.size ≤ q) s.heap H locs) (av : List Value) : PreS s H (va_Pc av (LWE D cs z A adK adV oo Os T g)) av :=
  ⟨fun a U gf mk q => ⟨q.1, ⟨⟨⟨q.2.1.1.1.1, ((pe_blind D cs (zW cs z A T) av a U gf mk ⟨q.1, q.2.1.1.1.1.1, q.2.1.1.1.2⟩).2).2⟩, XE.blind U gf mk a q.2.1.1.2⟩, q.2.1.2⟩, NCs.moved (u := U) (U := U.calling gf mk a) (Vm.Alike.refl U.vm) q.2.2⟩,
   fun U hU hW => ⟨rfl, ⟨⟨⟨by rw [hU]; exact hP.1, K.hE.warm hW⟩, K.hXE.at (K.hSt hS) U hU hW⟩, by rw [hU]; exact hP.2.2⟩, K.hN.moved hW.alike⟩⟩
/-- a word of the script onto the stack -/
theorem law_arg {t : Nat} {v y : Int32} {n : Int} (K : LawK p l s m c D cs z A adK adV w oo b L xs) (hS : va_S (fun q : Nat => s.heap.size ≤ q) s.heap H locs) (hl : lv_has ls 7 [(0, .ref b), (4, .int x4)])
    (h0 : decode code t = .ok (.aload_n 0, 1)) (h1 : decode code (t + 1) = .ok (.iload 4, 2)) (h3 : decode code (t + 3) = .ok (.iconst n, 1)) (h4 : decode code (t + 4) = .ok (.iadd, 1)) (h5 : decode code (t + 5) = .ok (.iaload, 1)) (hv : Int32.ofInt n = v) (hin : vp_in (x4 + v) L) (hy : xs (x4 + v).toNatClampNeg = y)
    (k : W p l e room_1 s m #[Value.ref b] below meth c H locs cells slots Q (F0 m (t + 6) ls (.int y :: rest))) : W p l e room_1 s m #[Value.ref b] below meth c H locs cells slots Q (F0 m t ls rest) := by
  subst hy
  refine lv_aload_n K.hx K.hb h0 rfl (lv_at hl 0 rfl) ?_
  refine lv_iload K.hx K.hb h1 (lv_at hl 1 rfl) ?_
  refine lv_iconst (v := v) K.hx K.hb h3 hv ?_
  refine lv_iadd K.hx K.hb h4 ?_
  exact va_sld K.hx K.hb K.hX K.hbl K.hbA hS hin h5 k
variable {pc mc ms : Nat} {st0 : List Value} {a : Array Value}
/-- a wrapper was called -/
theorem law_w {σ : Int32 × TSt × (Nat → Int64)} (K : LawK p l s m c D cs z A adK adV w oo b L xs) (hP : LWP D cs z A w oo Os T M g H) (hS : va_S (fun q : Nat => s.heap.size ≤ q) s.heap H locs)
    (hr : va_Run p l e room_1 s m #[Value.ref b] below meth c H locs cells slots mc ms (F0 m pc ls st0) rest (va_Qi (fun (r9 : Int32) (u : TSt × (Nat → Int64)) => r9 = σ.1 ∧ u = σ.2) (fun u t => tsP D cs z A u.1.1 u.1.2 t.heap ∧ va_P D vwC (oW cs oo u.2) t.heap) (wAd z A oo) a) (wAd z A oo))
    (kk : ∀ (H1 : Heap) (locs1 : List Loc), LWP D cs z A w oo σ.2.1.1 σ.2.1.2 M σ.2.2 H1 → va_S (fun q : Nat => s.heap.size ≤ q) s.heap H1 locs1 → W p l e room_1 s m #[Value.ref b] below meth c H1 locs1 (cells + mc) (slots + ms) Q (F0 m (pc + 3) ls (.int σ.1 :: rest))) : W p l e room_1 s m #[Value.ref b] below meth c H locs cells slots Q (F0 m pc ls st0) := by
  refine va_calli hr hS (fun q _ h => K.hA q h) (fun q h => K.hA q h) (fun r u t H1 locs1 ht hvm hw hB hz hk hS1 => ?_)
  obtain ⟨e1, e2⟩ := hw
  subst e1; subst e2
  rw [ht] at hB
  exact kk H1 locs1 ⟨hB.1, m_keep hP.2.1 (fun i hi => fun h => h.elim (K.hwz i hi) (K.hwo i hi)) hk, hB.2⟩ hS1
/-- the reference was called -/
theorem law_m {σ : Int32 × MS} (K : LawK p l s m c D cs z A adK adV w oo b L xs) (hP : LWP D cs z A w oo Os T M g H) (hS : va_S (fun q : Nat => s.heap.size ≤ q) s.heap H locs)
    (hr : va_Run p l e room_1 s m #[Value.ref b] below meth c H locs cells slots mc ms (F0 m pc ls st0) rest (va_Qi (fun (r9 : Int32) (u : MS) => r9 = σ.1 ∧ u = σ.2) (fun u t => va_P D vwC (mW cs w u) t.heap) (mA w) a) (mA w))
    (kk : ∀ (H1 : Heap) (locs1 : List Loc), LWP D cs z A w oo Os T σ.2 g H1 → va_S (fun q : Nat => s.heap.size ≤ q) s.heap H1 locs1 → W p l e room_1 s m #[Value.ref b] below meth c H1 locs1 (cells + mc) (slots + ms) Q (F0 m (pc + 3) ls (.int σ.1 :: rest))) : W p l e room_1 s m #[Value.ref b] below meth c H locs cells slots Q (F0 m pc ls st0) := by
  refine va_calli hr hS (fun q _ h => K.hAm q h) (fun q h => K.hAm q h) (fun r u t H1 locs1 ht hvm hw hB hz hk hS1 => ?_)
  obtain ⟨e1, e2⟩ := hw
  subst e1; subst e2
  rw [ht] at hB
  exact kk H1 locs1 ⟨t_keep hP.1 (fun q hq => by rintro ⟨i, hi, e⟩; rw [e] at hq; exact K.hwz i hi hq) hk, hB, o_keep hP.2.2 (by rintro ⟨i, hi, e⟩; exact K.hwo i hi e.symm) hk⟩ hS1
/-- the class was called by itself -/
theorem law_t {σ : Int32 × TSt} (K : LawK p l s m c D cs z A adK adV w oo b L xs) (hP : LWP D cs z A w oo Os T M g H) (hS : va_S (fun q : Nat => s.heap.size ≤ q) s.heap H locs)
    (hr : va_Run p l e room_1 s m #[Value.ref b] below meth c H locs cells slots mc ms (F0 m pc ls st0) rest (va_Qi (fun (r9 : Int32) (u : TSt) => r9 = σ.1 ∧ u = σ.2) (fun u t => tsP D cs z A u.1 u.2 t.heap) (tA z A) a) (tA z A))
    (kk : ∀ (H1 : Heap) (locs1 : List Loc), LWP D cs z A w oo σ.2.1 σ.2.2 M g H1 → va_S (fun q : Nat => s.heap.size ≤ q) s.heap H1 locs1 → W p l e room_1 s m #[Value.ref b] below meth c H1 locs1 (cells + mc) (slots + ms) Q (F0 m (pc + 3) ls (.int σ.1 :: rest))) : W p l e room_1 s m #[Value.ref b] below meth c H locs cells slots Q (F0 m pc ls st0) := by
  refine va_calli hr hS (fun q _ h => K.hzS q h) (fun q h => K.hzS q h) (fun r u t H1 locs1 ht hvm hw hB hz hk hS1 => ?_)
  obtain ⟨e1, e2⟩ := hw
  subst e1; subst e2
  rw [ht] at hB
  exact kk H1 locs1 ⟨hB, m_keep hP.2.1 (fun i hi => K.hwz i hi) hk, o_keep hP.2.2 K.ho hk⟩ hS1
theorem lcmp_rf (x : Int64) : lg_cmp x x = 0 := by
  unfold lg_cmp
  rw [if_neg (show ¬ x > x from Int64.lt_irrefl), if_pos rfl]
/-- the comparison behind two calls -/
theorem law_tail {r1 r2 : Int32} {t : Nat} {off : Int} (K : LawK p l s m c D cs z A adK adV w oo b L xs) (hP : LWP D cs z A w oo Os T M g H) (hl : lv_has ls 7 ((6, .int r2) :: (5, .int r1) :: lvs b z w oo x4))
    (h0 : decode code t = .ok (.aload_n 2, 1)) (h1 : decode code (t + 1) = .ok (.invokevirtual 118, 3)) (h4 : decode code (t + 4) = .ok (.iload 5, 2)) (h6 : decode code (t + 6) = .ok (.if_icmp .eq 5, 3)) (h11 : decode code (t + 11) = .ok (.iload 5, 2)) (h13 : decode code (t + 13) = .ok (.ifCond .ne 15, 3))
    (h16 : decode code (t + 16) = .ok (.aload_n 3, 1)) (h17 : decode code (t + 17) = .ok (.iconst 0, 1)) (h18 : decode code (t + 18) = .ok (.laload, 1)) (h19 : decode code (t + 19) = .ok (.iload 6, 2)) (h21 : decode code (t + 21) = .ok (.i2l, 1)) (h22 : decode code (t + 22) = .ok (.lcmp, 1)) (h23 : decode code (t + 23) = .ok (.ifCond .eq 5, 3)) (h28 : decode code (t + 28) = .ok (.goto off, 3)) (ht : ((t + 28 : Nat) : Int) + off = (2075 : Nat))
    (hcs : cells ≤ 601024 ∧ slots ≤ 7293034) (e1 : r1 = sX8_thrown M) (e2 : r1 = 0 → g (0 : Int32).toNatClampNeg = r2.toInt64)
    (k : W p l e room_1 s m #[Value.ref b] below meth c H locs cells slots Q (F0 m 2075 ls [])) : W p l e room_1 s m #[Value.ref b] below meth c H locs cells slots Q (F0 m t ls []) := by
  obtain ⟨hx, hb, hml, hts, hown, -, -, -, hE, -⟩ := K
  have hj : W p l e room_1 s m #[Value.ref b] below meth c H locs cells slots Q (F0 m (t + 28) ls []) := lv_goto (tgt := 2075) hx hb h28 ht k
  refine lv_aload_n hx hb h0 rfl (lv_at hl 4 rfl) ?_
  refine vp_callSi (run_c (va_runV (As := []) (rest := []) ⟨hx, hb, hml, hown, hts⟩ (c_X8_thrown l D cs w M) (cwV 0 hts (good_V w_ml_L_118 w_im_X8_thrown w_se_X8_thrown w_in_X8 w_co_X8_thrown) rfl rfl rfl ⟨rfl, hd_X8_thrown⟩ ⟨Nat.le_of_ble_eq_true rfl, Nat.le_of_ble_eq_true rfl⟩) (pe_V (ci := 8) (q0 := 0) hP.2.1 hE rfl rfl) rfl rfl hl.1 rfl (lv_room (Nat.le_of_ble_eq_true rfl)) h1 hcs)) (fun r hr => ?_)
  refine lv_iload hx hb h4 (lv_at hl 1 rfl) ?_
  refine lv_icmp_eq (tgt := t + 11) hx hb h6 (by omega) (fun c6 => ?_) (fun c6 => ?_)
  · refine lv_iload hx hb h11 (lv_at hl 1 rfl) ?_
    refine lv_if_ne (tgt := t + 28) hx hb h13 (by omega) (fun c13 => hj) (fun c13 => ?_)
    refine lv_aload_n hx hb h16 rfl (lv_at hl 5 rfl) ?_
    refine lv_iconst (v := 0) hx hb h17 (by decide) ?_
    refine va_lald hx hb hE.1 hP.2.2 0 4 rfl rfl (by unfold vp_in; decide) h18 ?_
    refine lv_iload hx hb h19 (lv_at hl 0 rfl) ?_
    refine lv_i2l hx hb h21 rfl ?_
    refine W.lcmp hx hb h22 ?_
    rw [e2 c13, lcmp_rf]
    exact lv_if_eq (tgt := t + 28) hx hb h23 (by omega) (fun _ => hj) (fun c => absurd rfl c)
  · exact absurd (by rw [hr, e1]) c6
end
/-- one case of the law's loop: from its place to the step of the loop -/
def LCase (pc : Nat) : Prop := ∀ (p : Program) (l : Launch) (e : Env) (s : State) (m : MethodId) (below : List Frame) (meth : Method) (c : Code) (D : va_G) (cs : Nat → ClassId) (z : Nat → Nat) (A : Nat → Nat → Nat) (adK adV : Nat → Nat) (w : Nat → Nat) (oo b L : Nat) (xs : Nat → Int32) (Q : State → Prop) (x4 w1 w2 w3 : Int32) (d : Nat) (Os : Nat → OF) (T : OF) (M : MS) (g : Nat → Int64) (H : Heap) (locs : List Loc) (cells slots : Nat) (ls : Array Slot),
  LawK p l s m c D cs z A adK adV w oo b L xs → vp_in (x4 + 1) L → vp_in (x4 + 2) L → vp_in (x4 + 3) L → xs (x4 + 1).toNatClampNeg = w1 → xs (x4 + 2).toNatClampNeg = w2 → xs (x4 + 3).toNatClampNeg = w3 → SR d Os T M → 720 ≤ d → d ≤ 900000 → LWP D cs z A w oo Os T M g H → va_S (fun q : Nat => s.heap.size ≤ q) s.heap H locs → lv_has ls 7 (lvs b z w oo x4) → cells + 2 ≤ 601024 → slots + 12 ≤ 7293034 →
  (∀ (Os : Nat → OF) (T : OF) (M : MS) (g : Nat → Int64) (H : Heap) (locs : List Loc) (ls : Array Slot), SR (d + 30) Os T M → LWP D cs z A w oo Os T M g H → va_S (fun q : Nat => s.heap.size ≤ q) s.heap H locs → lv_has ls 7 (lvs b z w oo x4) → W p l e room_1 s m #[Value.ref b] below meth c H locs (cells + 2) (slots + 12) Q (F0 m 2075 ls [])) →
  W p l e room_1 s m #[Value.ref b] below meth c H locs cells slots Q (F0 m pc ls [])
