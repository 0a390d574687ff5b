/-! the environment at the law's entry, out of what the Statement gives -/
abbrev pF : List Cond := flatC (Jvm.Cond.and given_1 narrow_1)
theorem pf {args : Array Value} {s : State} (hgv : (Jvm.Cond.and given_1 narrow_1).before args s = true) {c : Cond} (i : Nat) (h : pF[i]? = some c) : c.before args s = true := flat_of_before _ hgv c (List.mem_of_getElem? h)
set_option maxHeartbeats 4000000 in
set_option maxRecDepth 100000 in
theorem p_lit0 {args : Array Value} {s : State} {A : Nat → Prop} (hgv : (Jvm.Cond.and given_1 narrow_1).before args s = true) (hA : ∀ a : Nat, a < s.heap.size → ¬ A a) : ∃ a v : Nat, (Term.string RX11 51).eval args s none [] s = some (.ref a) ∧ va_O "java/lang/String" a A s s.heap ∧ va_OF "java/lang/String" "coder" "B" (.int 0) a A s s.heap ∧ va_OF "java/lang/String" "value" "[B" (.ref v) a A s s.heap ∧ va_T .byte v (plen.getD 0 0) (fun j => .int ((pbyt.getD 0 []).getD j 0)) A s s.heap := by
  have hel : ∀ j, j < 34 → (Cond.eq (.elem (.field (.string RX11 51) "java/lang/String" "value" "[B") (.int (Int32.ofNat j))) (.int ((pbyt.getD 0 []).getD j 0))) ∈ pF := va_run (p := 708) (f := fun j => Cond.eq (.elem (.field (.string RX11 51) "java/lang/String" "value" "[B") (.int (Int32.ofNat j))) (.int ((pbyt.getD 0 []).getD j 0))) (by decide +kernel)
  obtain ⟨adK, adV, h1, h2⟩ := vk_Sof (args := args) (s := s) (A := A) (N := 1) (tm := fun _ => .string RX11 51) (len := [plen.getD 0 0]) (byt := [pbyt.getD 0 []]) (fun i hi => by have h9 : i = 0 := (by omega); subst h9; decide) (fun i hi => pf hgv 704 (by decide +kernel)) (fun i hi => pf hgv 705 (by decide +kernel)) (fun i hi => pf hgv 706 (by decide +kernel)) (fun i hi => by have h9 : i = 0 := (by omega); subst h9; exact pf hgv 707 (by decide +kernel)) (fun i hi j hj => by have h9 : i = 0 := (by omega); subst h9; exact flat_of_before _ hgv _ (hel j hj)) (fun i j hi hj hij => absurd (by omega) hij) hA
  exact ⟨adK 0, adV 0, h2 0 (by omega), h1.1 0 (by omega)⟩
set_option maxHeartbeats 4000000 in
set_option maxRecDepth 100000 in
theorem p_lit1 {args : Array Value} {s : State} {A : Nat → Prop} (hgv : (Jvm.Cond.and given_1 narrow_1).before args s = true) (hA : ∀ a : Nat, a < s.heap.size → ¬ A a) : ∃ a v : Nat, (Term.string RX11 59).eval args s none [] s = some (.ref a) ∧ va_O "java/lang/String" a A s s.heap ∧ va_OF "java/lang/String" "coder" "B" (.int 0) a A s s.heap ∧ va_OF "java/lang/String" "value" "[B" (.ref v) a A s s.heap ∧ va_T .byte v (plen.getD 1 0) (fun j => .int ((pbyt.getD 1 []).getD j 0)) A s s.heap := by
  have hel : ∀ j, j < 19 → (Cond.eq (.elem (.field (.string RX11 59) "java/lang/String" "value" "[B") (.int (Int32.ofNat j))) (.int ((pbyt.getD 1 []).getD j 0))) ∈ pF := va_run (p := 748) (f := fun j => Cond.eq (.elem (.field (.string RX11 59) "java/lang/String" "value" "[B") (.int (Int32.ofNat j))) (.int ((pbyt.getD 1 []).getD j 0))) (by decide +kernel)
  obtain ⟨adK, adV, h1, h2⟩ := vk_Sof (args := args) (s := s) (A := A) (N := 1) (tm := fun _ => .string RX11 59) (len := [plen.getD 1 0]) (byt := [pbyt.getD 1 []]) (fun i hi => by have h9 : i = 0 := (by omega); subst h9; decide) (fun i hi => pf hgv 744 (by decide +kernel)) (fun i hi => pf hgv 745 (by decide +kernel)) (fun i hi => pf hgv 746 (by decide +kernel)) (fun i hi => by have h9 : i = 0 := (by omega); subst h9; exact pf hgv 747 (by decide +kernel)) (fun i hi j hj => by have h9 : i = 0 := (by omega); subst h9; exact flat_of_before _ hgv _ (hel j hj)) (fun i j hi hj hij => absurd (by omega) hij) hA
  exact ⟨adK 0, adV 0, h2 0 (by omega), h1.1 0 (by omega)⟩
set_option maxHeartbeats 4000000 in
set_option maxRecDepth 100000 in
theorem p_lit2 {args : Array Value} {s : State} {A : Nat → Prop} (hgv : (Jvm.Cond.and given_1 narrow_1).before args s = true) (hA : ∀ a : Nat, a < s.heap.size → ¬ A a) : ∃ a v : Nat, (Term.string RX17 364).eval args s none [] s = some (.ref a) ∧ va_O "java/lang/String" a A s s.heap ∧ va_OF "java/lang/String" "coder" "B" (.int 0) a A s s.heap ∧ va_OF "java/lang/String" "value" "[B" (.ref v) a A s s.heap ∧ va_T .byte v (plen.getD 2 0) (fun j => .int ((pbyt.getD 2 []).getD j 0)) A s s.heap := by
  have hel : ∀ j, j < 19 → (Cond.eq (.elem (.field (.string RX17 364) "java/lang/String" "value" "[B") (.int (Int32.ofNat j))) (.int ((pbyt.getD 2 []).getD j 0))) ∈ pF := va_run (p := 1183) (f := fun j => Cond.eq (.elem (.field (.string RX17 364) "java/lang/String" "value" "[B") (.int (Int32.ofNat j))) (.int ((pbyt.getD 2 []).getD j 0))) (by decide +kernel)
  obtain ⟨adK, adV, h1, h2⟩ := vk_Sof (args := args) (s := s) (A := A) (N := 1) (tm := fun _ => .string RX17 364) (len := [plen.getD 2 0]) (byt := [pbyt.getD 2 []]) (fun i hi => by have h9 : i = 0 := (by omega); subst h9; decide) (fun i hi => pf hgv 1179 (by decide +kernel)) (fun i hi => pf hgv 1180 (by decide +kernel)) (fun i hi => pf hgv 1181 (by decide +kernel)) (fun i hi => by have h9 : i = 0 := (by omega); subst h9; exact pf hgv 1182 (by decide +kernel)) (fun i hi j hj => by have h9 : i = 0 := (by omega); subst h9; exact flat_of_before _ hgv _ (hel j hj)) (fun i j hi hj hij => absurd (by omega) hij) hA
  exact ⟨adK 0, adV 0, h2 0 (by omega), h1.1 0 (by omega)⟩
theorem p_msg {args : Array Value} {s : State} {own tx : String} {k : Nat} (h1 : (Cond.stringRef own k tx).before args s = true) (h2 : (Cond.exactly (.string own k) "java/lang/String").before args s = true) : ∃ a, vk_R own k tx a s := by
  obtain ⟨a, c, cA, kA, q1, q2, q3, q4, q5, q6, -⟩ := Cond.exactly_spec (args := args) (first := s) (o := none) (s := s) (idx := []) (t := .string own k) (cls := "java/lang/String") h2
  exact ⟨a, vk_R.of h1 q1⟩
theorem p_eqr {args : Array Value} {s : State} {t u : Term} {a : Nat} (h : (Cond.eq t u).before args s = true) (ht : t.eval args s none [] s = some (.ref a)) : u.eval args s none [] s = some (.ref a) := by
  obtain ⟨w, h1, h2⟩ := Cond.eq_one (show (Cond.eq t u).holds args s none s [] = true from h)
  rw [ht] at h1
  rw [h2, ← h1]
set_option maxHeartbeats 4000000 in
set_option maxRecDepth 100000 in
theorem pe_start {s : State} {b : Nat} {A : Nat → Prop} (hts0 : ∀ w ∈ lw_tbl, w.before #[Value.ref b] s = true) (hgv : (Jvm.Cond.and given_1 narrow_1).before #[Value.ref b] s = true) (hA : ∀ a : Nat, a < s.heap.size → ¬ A a) : ∃ z : pG, pe z A s s.heap := by
  obtain ⟨a0, v0, e0, o0⟩ := p_lit0 (A := A) hgv hA
  obtain ⟨a1, v1, e1, o1⟩ := p_lit1 (A := A) hgv hA
  obtain ⟨a2, v2, e3, o2⟩ := p_lit2 (A := A) hgv hA
  have e2 := p_eqr (u := .string RX17 372) (pf hgv 1178 (by decide +kernel)) e0
  obtain ⟨t, ht, hT⟩ := va_Tof (args := #[Value.ref b]) (s := s) (tm := .static "java/util/ArrayList" "DEFAULTCAPACITY_EMPTY_ELEMENTDATA" "[Ljava/lang/Object;") (ty := .object "java/lang/Object") (N := 0) (f := fun _ => .null) (A := A) (by decide) (pf hgv 12 (by decide +kernel)) (va_eqt (pf hgv 14 (by decide +kernel))) (fun j hj => absurd hj (Nat.not_lt_zero j)) hA
  refine ⟨(t, (fun i => if i = 0 then a0 else if i = 1 then a1 else a2), (fun i => if i = 0 then v0 else if i = 1 then v1 else v2)), ?_⟩
  refine ⟨fun w hw => va_Nw.of (pnest_tab w hw) (hts0 w (pnest_tbl w hw)), ?_, ?_, ?_, hT, ?_, ?_, ?_, ?_, ?_, ?_, ?_⟩
  · exact vx_Zqof (hts0 _ (List.mem_of_getElem? (i := 1327) (by decide +kernel))) (hts0 _ (List.mem_of_getElem? (i := 192) (by decide +kernel))) (pf hgv 9 (by decide +kernel)) hA
  · exact vx_Zqof (hts0 _ (List.mem_of_getElem? (i := 1329) (by decide +kernel))) (hts0 _ (List.mem_of_getElem? (i := 192) (by decide +kernel))) (pf hgv 10 (by decide +kernel)) hA
  · exact va_Zref (hts0 _ (List.mem_of_getElem? (i := 1651) (by decide +kernel))) (hts0 _ (List.mem_of_getElem? (i := 185) (by decide +kernel))) ht hA
  · exact va_Zof (hts0 _ (List.mem_of_getElem? (i := 706) (by decide +kernel))) (hts0 _ (List.mem_of_getElem? (i := 186) (by decide +kernel))) (va_eqi (pf hgv 4 (by decide +kernel))) hA
  · intro i hi
    rcases (show i = 0 ∨ i = 1 ∨ i = 2 by omega) with rfl | rfl | rfl
    · exact o0
    · exact o1
    · exact o2
  · intro i q9 hq
    match i, hq with
    | 0, hq =>
      have hq : some ((RX11, 51, "dpsor+-*/%<=.{}_ha,@#etC]IkWOcKfm:", 0) : String × Nat × String × Nat) = some q9 := hq
      cases hq
      exact vk_R.of (hts0 _ (List.mem_of_getElem? (i := 1297) (by decide +kernel))) e0
    | 1, hq =>
      have hq : some ((RX11, 59, "?~|buwgDLliXxvT['P;", 1) : String × Nat × String × Nat) = some q9 := hq
      cases hq
      exact vk_R.of (hts0 _ (List.mem_of_getElem? (i := 1299) (by decide +kernel))) e1
    | 2, hq =>
      have hq : some ((RX17, 372, "dpsor+-*/%<=.{}_ha,@#etC]IkWOcKfm:", 0) : String × Nat × String × Nat) = some q9 := hq
      cases hq
      exact vk_R.of (hts0 _ (List.mem_of_getElem? (i := 1769) (by decide +kernel))) e2
    | 3, hq =>
      have hq : some ((RX17, 364, "?~|buwgDLlixXvT['P;", 2) : String × Nat × String × Nat) = some q9 := hq
      cases hq
      exact vk_R.of (hts0 _ (List.mem_of_getElem? (i := 1771) (by decide +kernel))) e3
    | i + 4, hq => exact absurd hq (by simp [plits])
  · intro q9 hq
    rcases List.mem_cons.mp hq with rfl | hq
    · exact p_msg (hts0 _ (List.mem_of_getElem? (i := 1347) (by decide +kernel))) (pf hgv 769 (by decide +kernel))
    rcases List.mem_cons.mp hq with rfl | hq
    · exact p_msg (hts0 _ (List.mem_of_getElem? (i := 1386) (by decide +kernel))) (pf hgv 799 (by decide +kernel))
    rcases List.mem_cons.mp hq with rfl | hq
    · exact p_msg (hts0 _ (List.mem_of_getElem? (i := 1404) (by decide +kernel))) (pf hgv 824 (by decide +kernel))
    rcases List.mem_cons.mp hq with rfl | hq
    · exact p_msg (hts0 _ (List.mem_of_getElem? (i := 1429) (by decide +kernel))) (pf hgv 849 (by decide +kernel))
    rcases List.mem_cons.mp hq with rfl | hq
    · exact p_msg (hts0 _ (List.mem_of_getElem? (i := 1476) (by decide +kernel))) (pf hgv 879 (by decide +kernel))
    rcases List.mem_cons.mp hq with rfl | hq
    · exact p_msg (hts0 _ (List.mem_of_getElem? (i := 1487) (by decide +kernel))) (pf hgv 913 (by decide +kernel))
    rcases List.mem_cons.mp hq with rfl | hq
    · exact p_msg (hts0 _ (List.mem_of_getElem? (i := 1496) (by decide +kernel))) (pf hgv 953 (by decide +kernel))
    rcases List.mem_cons.mp hq with rfl | hq
    · exact p_msg (hts0 _ (List.mem_of_getElem? (i := 1504) (by decide +kernel))) (pf hgv 978 (by decide +kernel))
    rcases List.mem_cons.mp hq with rfl | hq
    · exact p_msg (hts0 _ (List.mem_of_getElem? (i := 1513) (by decide +kernel))) (pf hgv 1005 (by decide +kernel))
    rcases List.mem_cons.mp hq with rfl | hq
    · exact p_msg (hts0 _ (List.mem_of_getElem? (i := 1543) (by decide +kernel))) (pf hgv 1031 (by decide +kernel))
    rcases List.mem_cons.mp hq with rfl | hq
    · exact p_msg (hts0 _ (List.mem_of_getElem? (i := 1559) (by decide +kernel))) (pf hgv 1056 (by decide +kernel))
    rcases List.mem_cons.mp hq with rfl | hq
    · exact p_msg (hts0 _ (List.mem_of_getElem? (i := 1586) (by decide +kernel))) (pf hgv 1088 (by decide +kernel))
    rcases List.mem_cons.mp hq with rfl | hq
    · exact p_msg (hts0 _ (List.mem_of_getElem? (i := 1623) (by decide +kernel))) (pf hgv 1115 (by decide +kernel))
    exact absurd hq List.not_mem_nil
  · exact va_AO.of (hts0 _ (List.mem_of_getElem? (i := 1864) (by decide +kernel)))
  · exact va_Nw.of rfl (hts0 _ (List.mem_of_getElem? (i := 2666) (by decide +kernel)))
  · exact va_Nc.of (pf hgv 254 (by decide +kernel))
