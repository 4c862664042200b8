/-! the start: what the words say -/
section
variable {b : Nat} {s : State} {A : Nat → Prop}
theorem str_0 (hn : ∀ q ∈ NL, q.before #[Value.ref b] s = true) (hA : ∀ a : Nat, a < s.heap.size → ¬ A a) : ∃ q : Nat × Nat, (va_O "java/lang/String" q.1 A s s.heap ∧ va_OF "java/lang/String" "coder" "B" (.int 0) q.1 A s s.heap ∧ va_OF "java/lang/String" "value" "[B" (.ref q.2) q.1 A s s.heap ∧ va_T .byte q.2 (wlen.getD 0 0) (fun j => .int ((wbyt.getD 0 []).getD j 0)) A s s.heap) ∧ (Term.string "TrueSheets$OfficeText" 70).eval #[Value.ref b] s none [] s = some (.ref q.1) := by
  obtain ⟨ad, av, h, he⟩ := vk_Sof (args := #[Value.ref b]) (s := s) (N := 1) (tm := fun _ => .string "TrueSheets$OfficeText" 70) (len := [4]) (byt := [[100, 114, 97, 119]]) (A := A) (fun i hi => by rw [show i = 0 by omega]; decide) (fun i hi => hn _ n_ex0) (fun i hi => hn _ n_co0) (fun i hi => hn _ n_ar0) (fun i hi => by rw [show i = 0 by omega]; exact hn _ n_le0)
    (by
      intro i hi j hj
      have hj : j < 4 := by have e : ([4] : List Nat).getD i 0 = 4 := by rw [show i = 0 by omega]; rfl
                            omega
      rw [show i = 0 by omega]
      rcases (show j = 0 ∨ j = 1 ∨ j = 2 ∨ j = 3 by omega) with rfl | rfl | rfl | rfl
      · exact hn _ n_el0_0
      · exact hn _ n_el0_1
      · exact hn _ n_el0_2
      · exact hn _ n_el0_3) (fun i j hi hj h => absurd (show i = j by omega) h) hA
  exact ⟨(ad 0, av 0), h.1 0 (by decide), he 0 (by decide)⟩
theorem str_1 (hn : ∀ q ∈ NL, q.before #[Value.ref b] s = true) (hA : ∀ a : Nat, a < s.heap.size → ¬ A a) : ∃ q : Nat × Nat, (va_O "java/lang/String" q.1 A s s.heap ∧ va_OF "java/lang/String" "coder" "B" (.int 0) q.1 A s s.heap ∧ va_OF "java/lang/String" "value" "[B" (.ref q.2) q.1 A s s.heap ∧ va_T .byte q.2 (wlen.getD 1 0) (fun j => .int ((wbyt.getD 1 []).getD j 0)) A s s.heap) ∧ (Term.string "TrueSheets$OfficeText" 72).eval #[Value.ref b] s none [] s = some (.ref q.1) := by
  obtain ⟨ad, av, h, he⟩ := vk_Sof (args := #[Value.ref b]) (s := s) (N := 1) (tm := fun _ => .string "TrueSheets$OfficeText" 72) (len := [3]) (byt := [[114, 101, 118]]) (A := A) (fun i hi => by rw [show i = 0 by omega]; decide) (fun i hi => hn _ n_ex1) (fun i hi => hn _ n_co1) (fun i hi => hn _ n_ar1) (fun i hi => by rw [show i = 0 by omega]; exact hn _ n_le1)
    (by
      intro i hi j hj
      have hj : j < 3 := by have e : ([3] : List Nat).getD i 0 = 3 := by rw [show i = 0 by omega]; rfl
                            omega
      rw [show i = 0 by omega]
      rcases (show j = 0 ∨ j = 1 ∨ j = 2 by omega) with rfl | rfl | rfl
      · exact hn _ n_el1_0
      · exact hn _ n_el1_1
      · exact hn _ n_el1_2) (fun i j hi hj h => absurd (show i = j by omega) h) hA
  exact ⟨(ad 0, av 0), h.1 0 (by decide), he 0 (by decide)⟩
theorem str_2 (hn : ∀ q ∈ NL, q.before #[Value.ref b] s = true) (hA : ∀ a : Nat, a < s.heap.size → ¬ A a) : ∃ q : Nat × Nat, (va_O "java/lang/String" q.1 A s s.heap ∧ va_OF "java/lang/String" "coder" "B" (.int 0) q.1 A s s.heap ∧ va_OF "java/lang/String" "value" "[B" (.ref q.2) q.1 A s s.heap ∧ va_T .byte q.2 (wlen.getD 2 0) (fun j => .int ((wbyt.getD 2 []).getD j 0)) A s s.heap) ∧ (Term.string "TrueSheets$OfficeText" 74).eval #[Value.ref b] s none [] s = some (.ref q.1) := by
  obtain ⟨ad, av, h, he⟩ := vk_Sof (args := #[Value.ref b]) (s := s) (N := 1) (tm := fun _ => .string "TrueSheets$OfficeText" 74) (len := [5]) (byt := [[112, 114, 105, 110, 116]]) (A := A) (fun i hi => by rw [show i = 0 by omega]; decide) (fun i hi => hn _ n_ex2) (fun i hi => hn _ n_co2) (fun i hi => hn _ n_ar2) (fun i hi => by rw [show i = 0 by omega]; exact hn _ n_le2)
    (by
      intro i hi j hj
      have hj : j < 5 := by have e : ([5] : List Nat).getD i 0 = 5 := by rw [show i = 0 by omega]; rfl
                            omega
      rw [show i = 0 by omega]
      rcases (show j = 0 ∨ j = 1 ∨ j = 2 ∨ j = 3 ∨ j = 4 by omega) with rfl | rfl | rfl | rfl | rfl
      · exact hn _ n_el2_0
      · exact hn _ n_el2_1
      · exact hn _ n_el2_2
      · exact hn _ n_el2_3
      · exact hn _ n_el2_4) (fun i j hi hj h => absurd (show i = j by omega) h) hA
  exact ⟨(ad 0, av 0), h.1 0 (by decide), he 0 (by decide)⟩
theorem str_3 (hn : ∀ q ∈ NL, q.before #[Value.ref b] s = true) (hA : ∀ a : Nat, a < s.heap.size → ¬ A a) : ∃ q : Nat × Nat, (va_O "java/lang/String" q.1 A s s.heap ∧ va_OF "java/lang/String" "coder" "B" (.int 0) q.1 A s s.heap ∧ va_OF "java/lang/String" "value" "[B" (.ref q.2) q.1 A s s.heap ∧ va_T .byte q.2 (wlen.getD 3 0) (fun j => .int ((wbyt.getD 3 []).getD j 0)) A s s.heap) ∧ (Term.string "TrueSheets$OfficeText" 76).eval #[Value.ref b] s none [] s = some (.ref q.1) := by
  obtain ⟨ad, av, h, he⟩ := vk_Sof (args := #[Value.ref b]) (s := s) (N := 1) (tm := fun _ => .string "TrueSheets$OfficeText" 76) (len := [5]) (byt := [[115, 116, 97, 109, 112]]) (A := A) (fun i hi => by rw [show i = 0 by omega]; decide) (fun i hi => hn _ n_ex3) (fun i hi => hn _ n_co3) (fun i hi => hn _ n_ar3) (fun i hi => by rw [show i = 0 by omega]; exact hn _ n_le3)
    (by
      intro i hi j hj
      have hj : j < 5 := by have e : ([5] : List Nat).getD i 0 = 5 := by rw [show i = 0 by omega]; rfl
                            omega
      rw [show i = 0 by omega]
      rcases (show j = 0 ∨ j = 1 ∨ j = 2 ∨ j = 3 ∨ j = 4 by omega) with rfl | rfl | rfl | rfl | rfl
      · exact hn _ n_el3_0
      · exact hn _ n_el3_1
      · exact hn _ n_el3_2
      · exact hn _ n_el3_3
      · exact hn _ n_el3_4) (fun i j hi hj h => absurd (show i = j by omega) h) hA
  exact ⟨(ad 0, av 0), h.1 0 (by decide), he 0 (by decide)⟩
theorem str_4 (hn : ∀ q ∈ NL, q.before #[Value.ref b] s = true) (hA : ∀ a : Nat, a < s.heap.size → ¬ A a) : ∃ q : Nat × Nat, (va_O "java/lang/String" q.1 A s s.heap ∧ va_OF "java/lang/String" "coder" "B" (.int 0) q.1 A s s.heap ∧ va_OF "java/lang/String" "value" "[B" (.ref q.2) q.1 A s s.heap ∧ va_T .byte q.2 (wlen.getD 4 0) (fun j => .int ((wbyt.getD 4 []).getD j 0)) A s s.heap) ∧ (Term.string "TrueSheets$OfficeText" 78).eval #[Value.ref b] s none [] s = some (.ref q.1) := by
  obtain ⟨ad, av, h, he⟩ := vk_Sof (args := #[Value.ref b]) (s := s) (N := 1) (tm := fun _ => .string "TrueSheets$OfficeText" 78) (len := [3]) (byt := [[114, 117, 110]]) (A := A) (fun i hi => by rw [show i = 0 by omega]; decide) (fun i hi => hn _ n_ex4) (fun i hi => hn _ n_co4) (fun i hi => hn _ n_ar4) (fun i hi => by rw [show i = 0 by omega]; exact hn _ n_le4)
    (by
      intro i hi j hj
      have hj : j < 3 := by have e : ([3] : List Nat).getD i 0 = 3 := by rw [show i = 0 by omega]; rfl
                            omega
      rw [show i = 0 by omega]
      rcases (show j = 0 ∨ j = 1 ∨ j = 2 by omega) with rfl | rfl | rfl
      · exact hn _ n_el4_0
      · exact hn _ n_el4_1
      · exact hn _ n_el4_2) (fun i j hi hj h => absurd (show i = j by omega) h) hA
  exact ⟨(ad 0, av 0), h.1 0 (by decide), he 0 (by decide)⟩
theorem str_k {own tx : String} {k : Nat} (hts : ∀ q ∈ lw_tbl, q.before #[Value.ref b] s = true) (hn : ∀ q ∈ NL, q.before #[Value.ref b] s = true) (h1 : (.stringRef own k tx : Cond) ∈ lw_tbl) (h2 : (.exactly (.string own k) "java/lang/String" : Cond) ∈ NL) : ∃ a, vk_R own k tx a s := by
  obtain ⟨a, c, cA, kA, q1, q2, q3, q4, q5, q6, -⟩ := Cond.exactly_spec (args := #[Value.ref b]) (first := s) (o := none) (s := s) (idx := []) (t := .string own k) (cls := "java/lang/String") (hn _ h2)
  exact ⟨a, vk_R.of (A := #[Value.ref b]) (hts _ h1) q1⟩
theorem msg_k (hts : ∀ q ∈ lw_tbl, q.before #[Value.ref b] s = true) (hn : ∀ q ∈ NL, q.before #[Value.ref b] s = true) : ∀ q ∈ msgW, ∃ a, vk_R RX7 q.1 q.2 a s := by
  intro q hq
  unfold msgW at hq
  simp only [List.mem_cons, List.not_mem_nil, or_false] at hq
  rcases hq with rfl | rfl | rfl | rfl | rfl | rfl | rfl | rfl | rfl | rfl | rfl | rfl | rfl | rfl | rfl | rfl | rfl | rfl | rfl | rfl | rfl | rfl | rfl | rfl | rfl | rfl | rfl
  · exact str_k hts hn t_m42 n_m42
  · exact str_k hts hn t_m53 n_m53
  · exact str_k hts hn t_m67 n_m67
  · exact str_k hts hn t_m81 n_m81
  · exact str_k hts hn t_m90 n_m90
  · exact str_k hts hn t_m102 n_m102
  · exact str_k hts hn t_m117 n_m117
  · exact str_k hts hn t_m132 n_m132
  · exact str_k hts hn t_m134 n_m134
  · exact str_k hts hn t_m146 n_m146
  · exact str_k hts hn t_m148 n_m148
  · exact str_k hts hn t_m156 n_m156
  · exact str_k hts hn t_m201 n_m201
  · exact str_k hts hn t_m210 n_m210
  · exact str_k hts hn t_m218 n_m218
  · exact str_k hts hn t_m220 n_m220
  · exact str_k hts hn t_m237 n_m237
  · exact str_k hts hn t_m242 n_m242
  · exact str_k hts hn t_m253 n_m253
  · exact str_k hts hn t_m259 n_m259
  · exact str_k hts hn t_m270 n_m270
  · exact str_k hts hn t_m295 n_m295
  · exact str_k hts hn t_m307 n_m307
  · exact str_k hts hn t_m313 n_m313
  · exact str_k hts hn t_m315 n_m315
  · exact str_k hts hn t_m317 n_m317
  · exact str_k hts hn t_m319 n_m319
theorem OF_fun {o n d : String} {v v' : Value} {t : Nat} {H : Heap} (h : va_OF o n d v t A s H) (h' : va_OF o n d v' t A s H) : v = v' := by
  obtain ⟨cf, k, i, f, cell, h1, h2, h3, h4, h5, h6⟩ := h
  obtain ⟨cf', k', i', f', cell', g1, g2, g3, g4, g5, g6⟩ := h'
  rw [h1] at g1
  cases g1
  rw [h3] at g3
  cases g3
  rw [h5] at g5
  exact Option.some.inj g5
theorem T_fun {ty : FieldType} {t N N' : Nat} {f f' : Nat → Value} {H : Heap} (h : va_T ty t N f A s H) (h' : va_T ty t N' f' A s H) (hN : N < 2 ^ 31) (hN' : N' < 2 ^ 31) : N = N' ∧ ∀ j, j < N → f j = f' j := by
  obtain ⟨cell, h1, h2, h3, h4, h5, h6, h7⟩ := h
  obtain ⟨cell', g1, g2, g3, g4, g5, g6, g7⟩ := h'
  rw [h1] at g1
  cases g1
  rw [h5] at g5
  have e : N = N' := by
    have h8 := congrArg Int32.toInt g5
    have e1 : (Int32.ofNat N).toInt = (N : Int) := nI_toInt (n := N) hN
    have e2 : (Int32.ofNat N').toInt = (N' : Int) := nI_toInt (n := N') hN'
    rw [e1, e2] at h8
    omega
  subst e
  refine ⟨rfl, fun j hj => ?_⟩
  have h8 := h6 j hj
  rw [g6 j hj] at h8
  exact (Option.some.inj h8).symm
theorem wd_ne : ∀ i j : Fin 5, wlen.getD i.val 0 = wlen.getD j.val 0 → (∀ k : Fin 5, k.val < wlen.getD i.val 0 → (wbyt.getD i.val []).getD k.val 0 = (wbyt.getD j.val []).getD k.val 0) → i = j := by decide +kernel
theorem wlen_5 : ∀ i : Fin 5, wlen.getD i.val 0 ≤ 5 := by decide +kernel
theorem se_0 (hts : ∀ q ∈ lw_tbl, q.before #[Value.ref b] s = true) (hn : ∀ q ∈ NL, q.before #[Value.ref b] s = true) (hA : ∀ a : Nat, a < s.heap.size → ¬ A a) : ∃ adK adV : Nat → Nat, SE A adK adV s := by
  have h0 : ∀ i : Nat, ∃ q : Nat × Nat, i < 5 → (va_O "java/lang/String" q.1 A s s.heap ∧ va_OF "java/lang/String" "coder" "B" (.int 0) q.1 A s s.heap ∧ va_OF "java/lang/String" "value" "[B" (.ref q.2) q.1 A s s.heap ∧ va_T .byte q.2 (wlen.getD i 0) (fun j => .int ((wbyt.getD i []).getD j 0)) A s s.heap) ∧ vk_R RX2 (70 + 2 * i) (wtx i) q.1 s := by
    intro i
    by_cases hi : i < 5
    · rcases (show i = 0 ∨ i = 1 ∨ i = 2 ∨ i = 3 ∨ i = 4 by omega) with rfl | rfl | rfl | rfl | rfl
      · obtain ⟨q, h1, h2⟩ := str_0 hn hA
        exact ⟨q, fun _ => ⟨h1, vk_R.of (A := #[Value.ref b]) (hts _ t_sr0) h2⟩⟩
      · obtain ⟨q, h1, h2⟩ := str_1 hn hA
        exact ⟨q, fun _ => ⟨h1, vk_R.of (A := #[Value.ref b]) (hts _ t_sr1) h2⟩⟩
      · obtain ⟨q, h1, h2⟩ := str_2 hn hA
        exact ⟨q, fun _ => ⟨h1, vk_R.of (A := #[Value.ref b]) (hts _ t_sr2) h2⟩⟩
      · obtain ⟨q, h1, h2⟩ := str_3 hn hA
        exact ⟨q, fun _ => ⟨h1, vk_R.of (A := #[Value.ref b]) (hts _ t_sr3) h2⟩⟩
      · obtain ⟨q, h1, h2⟩ := str_4 hn hA
        exact ⟨q, fun _ => ⟨h1, vk_R.of (A := #[Value.ref b]) (hts _ t_sr4) h2⟩⟩
    · exact ⟨(0, 0), fun h => absurd h hi⟩
  obtain ⟨ad, had⟩ := Classical.axiomOfChoice h0
  refine ⟨fun i => (ad i).1, fun i => (ad i).2, ⟨fun i hi => (had i hi).1, fun i j hi hj e => ?_⟩, va_Zof (hts _ t_lcs) (hts _ t_ist) (va_eqt (hn _ n_cs)) hA, va_Zqof (hts _ t_lsf) (hts _ t_ipc) (hn _ n_sf) hA, fun i hi => (had i hi).2⟩
  have hi' := (had i hi).1
  have hj' := (had j hj).1
  have e : (ad i).1 = (ad j).1 := e
  rw [← e] at hj'
  have ev : (ad i).2 = (ad j).2 := by
    have := OF_fun hi'.2.2.1 hj'.2.2.1
    injection this
  rw [← ev] at hj'
  have w1 : wlen.getD i 0 ≤ 5 := wlen_5 ⟨i, hi⟩
  have w2 : wlen.getD j 0 ≤ 5 := wlen_5 ⟨j, hj⟩
  obtain ⟨f1, f2⟩ := T_fun hi'.2.2.2 hj'.2.2.2 (by omega) (by omega)
  exact congrArg Fin.val (wd_ne ⟨i, hi⟩ ⟨j, hj⟩ f1 (fun k hk => by
    have := f2 k.val hk
    injection this))
theorem exW_tab : ∀ w ∈ exW, w.onTables = true := by
  intro w hw
  unfold exW at hw
  simp only [List.mem_cons, List.not_mem_nil, or_false] at hw
  rcases hw with rfl | rfl | rfl | rfl | rfl | rfl <;> rfl
theorem xe_0 {z : Nat → Nat} {A : Nat → Nat → Nat} (hts : ∀ q ∈ lw_tbl, q.before #[Value.ref b] s = true) (hn : ∀ q ∈ NL, q.before #[Value.ref b] s = true) (hA : ∀ a : Nat, a < s.heap.size → ¬ tA z A a) : ∃ adK adV : Nat → Nat, XE z A adK adV s := by
  obtain ⟨adK, adV, h⟩ := se_0 hts hn hA
  exact ⟨adK, adV, h, fun w hw => va_Nw.of (exW_tab w hw) (hts _ (ex_W w hw)), vx_Zqof (hts _ t_lus) (hts _ t_ith) (hn _ n_us) hA, vx_Zqof (hts _ t_lss) (hts _ t_ith) (hn _ n_ss) hA, msg_k hts hn⟩
theorem nc_0 (hn : ∀ q ∈ NL, q.before #[Value.ref b] s = true) : NCs s := ⟨va_Nc.of (hn _ n_nc1), va_Nc.of (hn _ n_nc2), va_Nc.of (hn _ n_nc3)⟩
theorem kn_0 (hts : ∀ q ∈ lw_tbl, q.before #[Value.ref b] s = true) : KN s := ⟨fun q hq => va_Nw.of rfl (hts _ (kn_M q hq)), fun q hq => va_Nw.of rfl (hts _ (kn_F q hq))⟩
theorem arr_0 {ty : FieldType} (h : (Cond.arrayClass ty).before #[Value.ref b] s = true) : ∃ cA : ClassId, s.vm.findClass ("[" ++ ty.toString) = some cA ∧ ArrOfT s cA ty := by
  obtain ⟨cA, kA, comp, h1, h2, h3⟩ := Cond.arrayClass_spec h
  exact ⟨cA, h1, fun n z => ⟨fun k h => (by cases h), kA, h2, comp, h3⟩⟩
theorem k_0 (hts : ∀ q ∈ lw_tbl, q.before #[Value.ref b] s = true) : ∃ (D : va_G) (cs : Nat → ClassId), va_K D vwC (atys cs) s := by
  have hG : ∀ q ∈ GL, q.before #[Value.ref b] s = true := fun q hq => hts q (List.mem_filter.mp hq).1
  obtain ⟨a0, h0, g0⟩ := arr_0 (hts _ t_ac_int)
  obtain ⟨a1, h1, g1⟩ := arr_0 (hts _ t_ac_char)
  obtain ⟨a2, h2, g2⟩ := arr_0 (hts _ t_ac_boolean)
  obtain ⟨a4, h4, g4⟩ := arr_0 (hts _ t_ac_long)
  obtain ⟨co, a3, k3, f1, f2, f3, f4, f5⟩ := Cond.arrayOver_spec (hts _ t_ao)
  obtain ⟨c0, i0, hk0⟩ := u_known (C := RX0) (T := TX0) (N := 3) (n := 3) hG iw_X0 (hts _ t_in0)
  obtain ⟨c1, i1, hk1⟩ := u_known (C := RX1) (T := TX1) (N := 6) (n := 6) hG iw_X1 (hts _ t_in1)
  obtain ⟨c2, i2, hk2⟩ := u_known (C := RX2) (T := TX2) (N := 7) (n := 7) hG iw_X2 (hts _ t_in2)
  obtain ⟨c3, i3, hk3⟩ := u_known (C := RX3) (T := TX3) (N := 8) (n := 8) hG iw_X3 (hts _ t_in3)
  obtain ⟨c4, i4, hk4⟩ := u_known (C := RX4) (T := TX4) (N := 5) (n := 5) hG iw_X4 (hts _ t_in4)
  obtain ⟨c5, i5, hk5⟩ := u_known (C := RX5) (T := TX5) (N := 2) (n := 2) hG iw_X5 (hts _ t_in5)
  obtain ⟨c6, i6, hk6⟩ := u_known (C := RX6) (T := TX6) (N := 5) (n := 5) hG iw_X6 (hts _ t_in6)
  obtain ⟨c7, i7, hk7⟩ := u_known (C := RX7) (T := TX7) (N := 5) (n := 5) hG iw_X7 (hts _ t_in7)
  obtain ⟨c8, i8, hk8⟩ := u_known (C := RX8) (T := TX8) (N := 14) (n := 14) hG iw_X8 (hts _ t_in8)
  refine ⟨(fun k => ([c0, c1, c2, c3, c4, c5, c6, c7, c8] : List ClassId).getD k c0, fun k => ([i0, i1, i2, i3, i4, i5, i6, i7, i8] : List (Nat → Nat)).getD k i0), fun k => ([a0, a1, a2, a3, a4] : List ClassId).getD k a0, fun k q hq => ?_, fun k q hq => ?_⟩
  · match k, hq with
    | 0, hq => cases hq; exact hk0
    | 1, hq => cases hq; exact hk1
    | 2, hq => cases hq; exact hk2
    | 3, hq => cases hq; exact hk3
    | 4, hq => cases hq; exact hk4
    | 5, hq => cases hq; exact hk5
    | 6, hq => cases hq; exact hk6
    | 7, hq => cases hq; exact hk7
    | 8, hq => cases hq; exact hk8
    | k + 9, hq => simp at hq
  · match k, hq with
    | 0, hq => cases hq; exact ⟨g0, h0⟩
    | 1, hq => cases hq; exact ⟨g1, h1⟩
    | 2, hq => cases hq; exact ⟨g2, h2⟩
    | 3, hq => cases hq; exact ⟨fun n z => ⟨fun k h => (by cases h), k3, f3, co, f4⟩, k3, co, f3, f4, f1, f5⟩
    | 4, hq => cases hq; exact ⟨g4, h4⟩
    | k + 5, hq => simp [atys] at hq
end
