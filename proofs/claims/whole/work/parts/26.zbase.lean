/-! the class's own object: ten cells (z), nineteen offices (A k: 0 the office, 1 the trial one, 2 to 16 the history, 17, 18 the slots) -/
def zW (cs : Nat → ClassId) (z : Nat → Nat) (A : Nat → Nat → Nat) (T : OF) : va_W :=
  [(z 0, .inr (7, [.ref (z 1), .ref (A 0 0), .ref (A 1 0), .ref (z 6), .ref (z 8)])),
   (z 1, .inr (2, [.ref (z 2), .int (T.1 0), .int (T.1 1), .ref (z 3), .ref (z 4), .ref (z 5), .int (T.1 2)])),
   (z 2, .inl (cs 1, 120, .inl (T.2 2))), (z 3, .inl (cs 0, 24, .inl (T.2 3))), (z 4, .inl (cs 0, 24, .inl (T.2 4))), (z 5, .inl (cs 0, 24, .inl (T.2 5))),
   (z 6, .inr (0, [.ref (z 7), .int (T.1 3), .int (T.1 4)])), (z 7, .inl (cs 3, 15, .inr (.inr (.inr (.inr (fun j => some (A (2 + j) 0))))))),
   (z 8, .inr (5, [.ref (z 9), .int (T.1 5)])), (z 9, .inl (cs 3, 2, .inr (.inr (.inr (.inr (fun j => some (A (17 + j) 0)))))))]
def zA (z : Nat → Nat) : Nat → Prop := fun q => ∃ i, i < 10 ∧ q = z i
def tA (z : Nat → Nat) (A : Nat → Nat → Nat) : Nat → Prop := fun q => zA z q ∨ ∃ k, k < 19 ∧ oA (A k) q
def tD (z : Nat → Nat) (A : Nat → Nat → Nat) : Prop := (∀ i j, i < 10 → j < 10 → z i = z j → i = j) ∧ (∀ k i k' i', k < 19 → i < 18 → k' < 19 → i' < 18 → A k i = A k' i' → k = k' ∧ i = i') ∧ ∀ i k j, i < 10 → k < 19 → j < 18 → z i ≠ A k j
theorem z_len (cs : Nat → ClassId) (z : Nat → Nat) (A : Nat → Nat → Nat) (T : OF) : (zW cs z A T).length = 10 := rfl
theorem z_ad (cs : Nat → ClassId) (z : Nat → Nat) (A : Nat → Nat → Nat) (T : OF) : ∀ (k : Nat) (q : Nat × va_E), (zW cs z A T)[k]? = some q → k < 10 ∧ q.1 = z k := by
  intro k q h
  have hk : k < 10 := by
    rcases Nat.lt_or_ge k 10 with h1 | h1
    · exact h1
    · rw [List.getElem?_eq_none (by rw [z_len]; exact h1)] at h; cases h
  refine ⟨hk, ?_⟩
  have h2 : ((zW cs z A T).map (·.1))[k]? = some q.1 := by rw [List.getElem?_map, h]; rfl
  have h3 : (zW cs z A T).map (·.1) = (List.range 10).map z := rfl
  rw [h3, List.getElem?_map, List.getElem?_range hk] at h2
  exact (Option.some.inj h2).symm
theorem z_D (cs : Nat → ClassId) {z : Nat → Nat} (A : Nat → Nat → Nat) (T : OF) (hd : tD z A) : va_D (zA z) (zW cs z A T) := by
  refine ⟨fun i j p q hp hq e => ?_, fun k q h => ?_⟩
  · obtain ⟨h1, e1⟩ := z_ad cs z A T i p hp
    obtain ⟨h2, e2⟩ := z_ad cs z A T j q hq
    exact hd.1 i j h1 h2 (by rw [← e1, ← e2, e])
  · obtain ⟨h1, e1⟩ := z_ad cs z A T k q h
    exact ⟨k, h1, e1⟩
theorem tD.o {z : Nat → Nat} {A : Nat → Nat → Nat} (h : tD z A) {k : Nat} (hk : k < 19) : oD (A k) := fun i j hi hj e => (h.2.1 k i k j hk hi hk hj e).2
theorem tD.o2 {z : Nat → Nat} {A : Nat → Nat → Nat} (h : tD z A) {k j : Nat} (hk : k < 19) (hj : j < 19) (hn : k ≠ j) : oD2 (A k) (A j) := ⟨h.o hk, h.o hj, fun i i' hi hi' e => hn (h.2.1 k i j i' hk hi hj hi' e).1⟩
/-- what isn't touched stays -/
theorem p_keep {D : va_G} {ws : va_W} {H H1 : Heap} {X : Nat → Prop} (hP : va_P D vwC ws H) (hx : ∀ (k : Nat) (q : Nat × va_E), ws[k]? = some q → ¬ X q.1) (hk : ∀ q : Nat, q < H.size → ¬ X q → H1[q]? = H[q]?) : va_P D vwC ws H1 :=
  fun k q h => (hP k q h).kept (hk q.1 (hP k q h).lt (hx k q h))
def tsP (D : va_G) (cs : Nat → ClassId) (z : Nat → Nat) (A : Nat → Nat → Nat) (Os : Nat → OF) (T : OF) (H : Heap) : Prop := va_P D vwC (zW cs z A T) H ∧ ∀ k, k < 19 → va_P D vwC (ofW cs (A k) (Os k)) H
theorem t_of {D : va_G} {cs : Nat → ClassId} {z : Nat → Nat} {A : Nat → Nat → Nat} {Os : Nat → OF} {T u : OF} {H H1 : Heap} (hd : tD z A) (h : tsP D cs z A Os T H) {k : Nat} (hk : k < 19) (hF : ∀ q : Nat, q < H.size → ¬ oA (A k) q → H1[q]? = H[q]?) (hB : va_P D vwC (ofW cs (A k) u) H1) : tsP D cs z A (va_up Os k u) T H1 := by
  refine ⟨p_keep h.1 (fun i q hq => ?_) hF, fun j hj => ?_⟩
  · obtain ⟨h1, e1⟩ := z_ad cs z A T i q hq
    rintro ⟨n, hn, e2⟩
    exact hd.2.2 i k n h1 hk hn (by rw [← e1, e2])
  · unfold va_up
    by_cases e : j = k
    · rw [if_pos e, e]; exact hB
    · rw [if_neg e]
      refine p_keep (h.2 j hj) (fun i q hq => ?_) hF
      obtain ⟨h1, e1⟩ := of_ad cs (A j) (Os j) i q hq
      rintro ⟨n, hn, e2⟩
      exact e (hd.2.1 j i k n hj h1 hk hn (by rw [← e1, e2])).1
theorem t_cp {D : va_G} {cs : Nat → ClassId} {z : Nat → Nat} {A : Nat → Nat → Nat} {Os : Nat → OF} {T u P : OF} {H H1 : Heap} (hd : tD z A) (h : tsP D cs z A Os T H) {k k' : Nat} (hk : k < 19) (hk' : k' < 19) (hP : P = Os k') (hF : ∀ q : Nat, q < H.size → ¬ oA2 (A k) (A k') q → H1[q]? = H[q]?) (hB : va_P D vwC (ofW cs (A k) u ++ ofW cs (A k') P) H1) : tsP D cs z A (va_up Os k u) T H1 := by
  refine ⟨p_keep h.1 (fun i q hq => ?_) hF, fun j hj => ?_⟩
  · obtain ⟨h1, e1⟩ := z_ad cs z A T i q hq
    rintro (⟨n, hn, e2⟩ | ⟨n, hn, e2⟩)
    · exact hd.2.2 i k n h1 hk hn (by rw [← e1, e2])
    · exact hd.2.2 i k' n h1 hk' hn (by rw [← e1, e2])
  · unfold va_up
    by_cases e : j = k
    · rw [if_pos e, e]
      exact fun i q hq => hB i q (by rw [List.getElem?_append_left (by rw [of_len]; exact (of_ad cs (A k) u i q hq).1)]; exact hq)
    · rw [if_neg e]
      by_cases e' : j = k'
      · rw [e', ← hP]
        exact fun i q hq => hB (18 + i) q (by rw [List.getElem?_append_right (by rw [of_len]; omega), of_len]; rw [show 18 + i - 18 = i by omega]; exact hq)
      · refine p_keep (h.2 j hj) (fun i q hq => ?_) hF
        obtain ⟨h1, e1⟩ := of_ad cs (A j) (Os j) i q hq
        rintro (⟨n, hn, e2⟩ | ⟨n, hn, e2⟩)
        · exact e (hd.2.1 j i k n hj h1 hk hn (by rw [← e1, e2])).1
        · exact e' (hd.2.1 j i k' n hj h1 hk' hn (by rw [← e1, e2])).1
theorem t_z {D : va_G} {cs : Nat → ClassId} {z : Nat → Nat} {A : Nat → Nat → Nat} {Os : Nat → OF} {T u : OF} {H H1 : Heap} (hd : tD z A) (h : tsP D cs z A Os T H) (hF : ∀ q : Nat, q < H.size → ¬ zA z q → H1[q]? = H[q]?) (hB : va_P D vwC (zW cs z A u) H1) : tsP D cs z A Os u H1 := by
  refine ⟨hB, fun j hj => p_keep (h.2 j hj) (fun i q hq => ?_) hF⟩
  obtain ⟨h1, e1⟩ := of_ad cs (A j) (Os j) i q hq
  rintro ⟨n, hn, e2⟩
  exact hd.2.2 n j i hn hj h1 (by rw [← e2, e1])
def ZS (D : va_G) (cs : Nat → ClassId) (z : Nat → Nat) (A : Nat → Nat → Nat) (T : OF) (adK adV : Nat → Nat) : State → Prop := fun U => PE D cs (zW cs z A T) U ∧ SE (zA z) adK adV U
theorem zs_V {D : va_G} {cs : Nat → ClassId} {z : Nat → Nat} {A : Nat → Nat → Nat} {T : OF} {adK adV : Nat → Nat} {s : State} {H : Heap} {locs : List Loc} {As : List Value} {b : Addr} {q0 ci : Nat} {C : String} {T9 : u_T} {N : Nat} {fs : List Value} (hP : va_P D vwC (zW cs z A T) H) (hE : EV D cs s) (hSE : SE (zA z) adK adV s) (hS : va_S (zA z) s.heap H locs) (hc : vwC[ci]? = some (C, T9, N)) (he : (zW cs z A T)[q0]? = some (b, .inr (ci, fs))) : PreV s H C b (va_Pc (.ref b :: As) (ZS D cs z A T adK adV)) As :=
  ⟨fun a U g mk q => ⟨q.1, (pe_blind D cs (zW cs z A T) (.ref b :: As) a U g mk ⟨q.1, q.2.1⟩).2, SE.blind _ _ _ U g mk a q.2.2⟩, (pe_V (As := As) hP hE hc he).2.1, fun U hU hW => ⟨rfl, (pe_at (.ref b :: As) hP hE U hU hW).2, hSE.at hS U hU hW⟩⟩
def spI (x : Int32) : Nat := if x = 0 then 0 else if x = 1 then 1 else if x = 2 then 2 else if x = 3 then 3 else 4
theorem spI_lt (x : Int32) : spI x < 5 := by
  unfold spI
  split
  · omega
  · split
    · omega
    · split
      · omega
      · split <;> omega
theorem hd_X2_spelling : yX2_spelling.cls ≠ "java/lang/invoke/MethodHandle" ∧ yX2_spelling.cls ≠ "java/lang/invoke/VarHandle" ∧ (parseMethodDescriptor yX2_spelling.desc).map (fun d => d.parameters.length) = some 1 := by decide +kernel
theorem wl_in {i : Nat} {x : Int32} (hi : i < 5) (i0 : ¬ x < 0) (c : ¬ nI (wlen.getD i 0) ≤ x) : vp_in x (wlen.getD i 0) := cnt_in (by rw [nI_toInt (wl_lt i hi)]; exact Int.le_refl _) i0 c
