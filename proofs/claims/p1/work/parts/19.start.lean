set_option maxHeartbeats 8000000 in
set_option maxRecDepth 100000 in
/-- the law, from its entry -/
theorem whole_start {p : Program} {e : Env} {s : State} {m : MethodId} {below : List Frame} {meth : Method} {c : Code} (l : Launch) (hflags : l.flags = flags0) {b L : Nat} {xs : Nat → Int32} (hL : L ≤ 3) (C0 : lw_At p s m meth c b L xs) : W p l e room_1 s m #[Value.ref b] below meth c s.heap [] 0 0 (lw_Z below #[Value.ref b] s) (entryFrame m ([Value.ref b] : List Value).toArray 9) := by
  have hfl : l.stackTraces = false := by unfold Launch.stackTraces; rw [hflags]; decide
  obtain ⟨hx, hb, hr, hml, hown0, hts0, hX, hbl, hlocks, hgv⟩ := id C0
  have hown : s.vm.findClass RL = some m.cls := hown0
  have hts := fun (w : Cond) (h : w ∈ pw) => hts0 w (pw_tbl w h)
  obtain ⟨A, hAe⟩ : ∃ A : Nat → Prop, A = fun q : Nat => s.heap.size ≤ q := ⟨_, rfl⟩
  have hA : ∀ q : Nat, s.heap.size ≤ q → A q := fun q h => by rw [hAe]; exact h
  have hA2 : ∀ q : Nat, A q → s.heap.size ≤ q := fun q h => by rw [hAe] at h; exact h
  have hbA : ¬ A b := fun h => absurd (hA2 b h) (Nat.not_le.mpr hbl)
  obtain ⟨z, hE⟩ := pe_start (A := A) hts0 hgv (fun a h9 h => absurd (hA2 a h) (Nat.not_le.mpr h9))
  have hN := hE.1
  obtain ⟨c0, iS0, hKn0⟩ := u_known (C := RJx4a65c) (T := TJx4a65c) (N := 3) (n := 3) hts pinJx4a65c (hts _ e184)
  obtain ⟨c1, iS1, hKn1⟩ := u_known (C := RX0) (T := TX0) (N := 1) (n := 1) hts pinX0 (hts _ e34)
  obtain ⟨c2, iS2, hKn2⟩ := u_known (C := RX1) (T := TX1) (N := 13) (n := 13) hts pinX1 (hts _ e71)
  obtain ⟨c3, iS3, hKn3⟩ := u_known (C := RX2) (T := TX2) (N := 11) (n := 11) hts pinX2 (hts _ e76)
  obtain ⟨c4, iS4, hKn4⟩ := u_known (C := RX3) (T := TX3) (N := 9) (n := 9) hts pinX3 (hts _ e124)
  obtain ⟨c5, iS5, hKn5⟩ := u_known (C := RX4) (T := TX4) (N := 4) (n := 4) hts pinX4 (hts _ e102)
  obtain ⟨c6, iS6, hKn6⟩ := u_known (C := RX5) (T := TX5) (N := 4) (n := 4) hts pinX5 (hts _ e82)
  obtain ⟨c7, iS7, hKn7⟩ := u_known (C := RX6) (T := TX6) (N := 16) (n := 16) hts pinX6 (hts _ e96)
  obtain ⟨c8, iS8, hKn8⟩ := u_known (C := RX7) (T := TX7) (N := 2) (n := 2) hts pinX7 (hts _ e65)
  obtain ⟨c9, iS9, hKn9⟩ := u_known (C := RX8) (T := TX8) (N := 1) (n := 1) hts pinX8 (hts _ e109)
  obtain ⟨c10, iS10, hKn10⟩ := u_known (C := RX9) (T := TX9) (N := 4) (n := 4) hts pinX9 (hts _ e130)
  obtain ⟨c11, iS11, hKn11⟩ := u_known (C := RX10) (T := TX10) (N := 4) (n := 4) hts pinX10 (hts _ e57)
  obtain ⟨c12, iS12, hKn12⟩ := u_known (C := RX11) (T := TX11) (N := 10) (n := 10) hts pinX11 (hts _ e346)
  obtain ⟨c13, iS13, hKn13⟩ := u_known (C := RX14) (T := TX14) (N := 2) (n := 2) hts pinX14 (hts _ e220)
  obtain ⟨c14, iS14, hKn14⟩ := u_known (C := RX17) (T := TX17) (N := 31) (n := 31) hts pinX17 (hts _ e351)
  obtain ⟨dC, dI, hKc0⟩ : ∃ (dC : Nat → ClassId) (dI : Nat → Nat → Nat), ∀ (k : Nat) (q : vw_C), pcl[k]? = some q → u_Kn s q.1 q.2.1 q.2.2 (dC k) (dI k) := by
    refine ⟨fun k => if k = 0 then c0 else if k = 1 then c1 else if k = 2 then c2 else if k = 3 then c3 else if k = 4 then c4 else if k = 5 then c5 else if k = 6 then c6 else if k = 7 then c7 else if k = 8 then c8 else if k = 9 then c9 else if k = 10 then c10 else if k = 11 then c11 else if k = 12 then c12 else if k = 13 then c13 else c14, fun k => if k = 0 then iS0 else if k = 1 then iS1 else if k = 2 then iS2 else if k = 3 then iS3 else if k = 4 then iS4 else if k = 5 then iS5 else if k = 6 then iS6 else if k = 7 then iS7 else if k = 8 then iS8 else if k = 9 then iS9 else if k = 10 then iS10 else if k = 11 then iS11 else if k = 12 then iS12 else if k = 13 then iS13 else iS14, ?_⟩
    intro k q hq
    match k, hq with
    | 0, hq => cases hq; exact hKn0
    | 1, hq => cases hq; exact hKn1
    | 2, hq => cases hq; exact hKn2
    | 3, hq => cases hq; exact hKn3
    | 4, hq => cases hq; exact hKn4
    | 5, hq => cases hq; exact hKn5
    | 6, hq => cases hq; exact hKn6
    | 7, hq => cases hq; exact hKn7
    | 8, hq => cases hq; exact hKn8
    | 9, hq => cases hq; exact hKn9
    | 10, hq => cases hq; exact hKn10
    | 11, hq => cases hq; exact hKn11
    | 12, hq => cases hq; exact hKn12
    | 13, hq => cases hq; exact hKn13
    | 14, hq => cases hq; exact hKn14
    | k + 15, hq => simp [pcl] at hq
  have hS : va_S A s.heap s.heap [] := va_S.rf
  have hK : va_K (dC, dI) pcl [] s := ⟨hKc0, fun k q h => by simp at h⟩
  have hP : va_P (dC, dI) pcl [] s.heap := p_P0
  have hD : va_D A [] := p_D0
  have hl := lv_entry ([.ref b]) (n := 9) (Nat.le_of_ble_eq_true rfl)
  rw [lg_entry_eq]
  generalize (lg_sl ([.ref b]) ++ List.replicate (9 - (lg_sl ([.ref b])).length) Slot.unset).toArray = ls at hl ⊢
  have hl : lv_has ls 9 [(0, .ref b)] := hl
  obtain ⟨H, hH0⟩ : ∃ H, H = s.heap := ⟨_, rfl⟩
  rw [← hH0] at hP ⊢
  have hS : va_S A s.heap H [] := by rw [hH0]; exact hS
  refine va_new (ci := 12) (fs := [.null, .null, .null, .null, .null, .int 0, .int 0, .int 0, .int 0, .long 0]) (C := RX11) (T := TX11) (N := 10) hx hb hts pinX11 tyX11 tyX11_ok hown (hts _ e345) (hts _ e346) (hts _ e270) hK hP hD hS hA rfl (fun j hj => by rcases (show j = 0 ∨ j = 1 ∨ j = 2 ∨ j = 3 ∨ j = 4 ∨ j = 5 ∨ j = 6 ∨ j = 7 ∨ j = 8 ∨ j = 9 by omega) with rfl | rfl | rfl | rfl | rfl | rfl | rfl | rfl | rfl | rfl <;> rfl) (Nat.le_of_ble_eq_true rfl) (Nat.le_of_ble_eq_true rfl) dL_law_0 (fun q1 H hP hD hS => ?_)
  have hP : va_P (dC, dI) pcl [(q1, .inr (12, [.null, .null, .null, .null, .null, .int 0, .int 0, .int 0, .int 0, .long 0]))] H := hP
  have hD : va_D A [(q1, .inr (12, [.null, .null, .null, .null, .null, .int 0, .int 0, .int 0, .int 0, .long 0]))] := hD
  refine W.widen (k := 1) (n := 10) (Nat.le_of_ble_eq_true rfl) (Nat.le_of_ble_eq_true rfl) ?_
  refine lv_dup hx hb dL_law_3 rfl ?_
  have hPc := hP.sub (ws' := [(q1, .inr (12, [.null, .null, .null, .null, .null, .int 0, .int 0, .int 0, .int 0, .long 0]))]) [0] rfl
  have hDc := hD.sub (ws' := [(q1, .inr (12, [.null, .null, .null, .null, .null, .int 0, .int 0, .int 0, .int 0, .long 0]))]) [0] (by decide) rfl
  have hKc := hK.sub (tys' := []) [] rfl
  have hFc := va_free (wc := [(q1, .inr (12, [.null, .null, .null, .null, .null, .int 0, .int 0, .int 0, .int 0, .long 0]))]) hD hS hA [0] rfl
  refine va_callv (va_runI (As := []) (rest := [.ref q1]) ⟨hx, hb, hml, hown, hts⟩ (c_X11_init l dC dI z q1 H.size) (cwI 0 hts (ws_good e349) rfl rfl rfl (hts _ e270) (hts _ e347) (hts _ e348) rfl ⟨by decide +kernel, by decide +kernel, by decide +kernel⟩ ⟨Nat.le_of_ble_eq_true rfl, Nat.le_of_ble_eq_true rfl⟩) ⟨pPre_blind, fun U hU hW => ⟨rfl, pPre_at hPc hKc hDc hE hS hFc U hU hW⟩⟩ rfl rfl hl.1 rfl (lv_room (Nat.le_of_ble_eq_true rfl)) dL_law_4 ⟨Nat.le_of_ble_eq_true rfl, Nat.le_of_ble_eq_true rfl⟩) hS (fun q _ h => hFc q h) hFc (fun u49 t H1 locs ht hvm hw hB hz1 hk1 hS => ?_)
  obtain ⟨q3, q4, q5, q6, q7, q8, q9, q10, q11, q12, q13, q14, q15, q16, q17, q18, q19, q20, q21, q22, q23, q24, q25, q26, q27, q28, q29, q30, q31, q32, q33, q34, q35, q36, q37, q38, q39, q40, q41, q42, q43, q44, q45, cA46, cA47, cA48, hP1, hK1, hD1⟩ := hB
  rw [ht] at hP1
  have hK1 := va_K.moved hvm.symm hK1
  obtain ⟨hP, hD⟩ := va_join (wr := []) (w1 := [(q1, .inr (12, [.ref q3, .ref q4, .ref q5, .ref q6, .ref q7, .int 0, .int 0, .int 0, .int 0, .long 0])), (q5, .inr (4, [.ref q16, .ref q8, .ref q9, .ref q10, .ref q11, .int 0, .int 0, .int 0, .int 0])), (q3, .inr (7, [.ref q12, .ref q13, .ref q14, .ref q15, .ref q16, .ref q17, .ref q18, .ref q19, .ref q20, .int 1000, .int 0, .int 0, .int 0, .int 0, .int 0, .int 0])), (q12, .inr (11, [.ref q21, .ref q22, .ref q23, .int 0])), (q13, .inr (11, [.ref q24, .ref q25, .ref q26, .int 0])), (q14, .inl (cA46, 100, .inl (fun _ => 0))), (q15, .inr (8, [.ref q27, .int 0])), (q16, .inr (2, [.ref q28, .ref q29, .ref q30, .ref q31, .ref q32, .ref q33, .ref q34, .ref q35, .ref q36, .ref q37, .int 0, .int 0, .int 0])), (q17, .inr (3, [.ref q38, .ref q39, .ref q40, .ref q41, .ref q42, .ref q43, .int 0, .int 0, .int 0, .int 0, .int 0])), (q18, .inr (6, [.ref q44, .ref q45, .int 0, .int 0])), (q44, .inl (cA47, 40, .inl (fun _ => 0))), (q45, .inl (cA48, 40, .inl (fun _ => 0)))]) hP hD [0] [] rfl rfl (by decide) (by decide) hk1 hFc hP1 hD1
  have hK := hK.app hK1
  generalize H1 = H at hP hS ⊢
  have hP : va_P (dC, dI) pcl [(q1, .inr (12, [.ref q3, .ref q4, .ref q5, .ref q6, .ref q7, .int 0, .int 0, .int 0, .int 0, .long 0])), (q5, .inr (4, [.ref q16, .ref q8, .ref q9, .ref q10, .ref q11, .int 0, .int 0, .int 0, .int 0])), (q3, .inr (7, [.ref q12, .ref q13, .ref q14, .ref q15, .ref q16, .ref q17, .ref q18, .ref q19, .ref q20, .int 1000, .int 0, .int 0, .int 0, .int 0, .int 0, .int 0])), (q12, .inr (11, [.ref q21, .ref q22, .ref q23, .int 0])), (q13, .inr (11, [.ref q24, .ref q25, .ref q26, .int 0])), (q14, .inl (cA46, 100, .inl (fun _ => 0))), (q15, .inr (8, [.ref q27, .int 0])), (q16, .inr (2, [.ref q28, .ref q29, .ref q30, .ref q31, .ref q32, .ref q33, .ref q34, .ref q35, .ref q36, .ref q37, .int 0, .int 0, .int 0])), (q17, .inr (3, [.ref q38, .ref q39, .ref q40, .ref q41, .ref q42, .ref q43, .int 0, .int 0, .int 0, .int 0, .int 0])), (q18, .inr (6, [.ref q44, .ref q45, .int 0, .int 0])), (q44, .inl (cA47, 40, .inl (fun _ => 0))), (q45, .inl (cA48, 40, .inl (fun _ => 0)))] H := hP
  have hD : va_D A [(q1, .inr (12, [.ref q3, .ref q4, .ref q5, .ref q6, .ref q7, .int 0, .int 0, .int 0, .int 0, .long 0])), (q5, .inr (4, [.ref q16, .ref q8, .ref q9, .ref q10, .ref q11, .int 0, .int 0, .int 0, .int 0])), (q3, .inr (7, [.ref q12, .ref q13, .ref q14, .ref q15, .ref q16, .ref q17, .ref q18, .ref q19, .ref q20, .int 1000, .int 0, .int 0, .int 0, .int 0, .int 0, .int 0])), (q12, .inr (11, [.ref q21, .ref q22, .ref q23, .int 0])), (q13, .inr (11, [.ref q24, .ref q25, .ref q26, .int 0])), (q14, .inl (cA46, 100, .inl (fun _ => 0))), (q15, .inr (8, [.ref q27, .int 0])), (q16, .inr (2, [.ref q28, .ref q29, .ref q30, .ref q31, .ref q32, .ref q33, .ref q34, .ref q35, .ref q36, .ref q37, .int 0, .int 0, .int 0])), (q17, .inr (3, [.ref q38, .ref q39, .ref q40, .ref q41, .ref q42, .ref q43, .int 0, .int 0, .int 0, .int 0, .int 0])), (q18, .inr (6, [.ref q44, .ref q45, .int 0, .int 0])), (q44, .inl (cA47, 40, .inl (fun _ => 0))), (q45, .inl (cA48, 40, .inl (fun _ => 0)))] := hD
  have hK : va_K (dC, dI) pcl [(cA46, .int), (cA47, .int), (cA48, .int)] s := hK
  refine W.widen (k := 123) (n := 20169) (Nat.le_of_ble_eq_true rfl) (Nat.le_of_ble_eq_true rfl) ?_
  refine lv_astore_n (lv' := [(1, .ref q1), (0, .ref b)]) hx hb dL_law_7 rfl hl (by decide) rfl (fun ls hl => ?_)
  refine va_new (ci := 14) (fs := [.null, .null, .null, .null, .null, .null, .null, .null, .null, .null, .null, .int 0, .int 0, .int 0, .int 0, .int 0, .int 0, .int 0, .int 0, .int 0, .int 0, .int 0, .int 0, .long 0, .null, .null, .null, .null, .null, .int 0, .int 0]) (C := RX17) (T := TX17) (N := 31) hx hb hts pinX17 tyX17 tyX17_ok hown (hts _ e350) (hts _ e351) (hts _ e212) hK hP hD hS hA rfl (fun j hj => by rcases (show j = 0 ∨ j = 1 ∨ j = 2 ∨ j = 3 ∨ j = 4 ∨ j = 5 ∨ j = 6 ∨ j = 7 ∨ j = 8 ∨ j = 9 ∨ j = 10 ∨ j = 11 ∨ j = 12 ∨ j = 13 ∨ j = 14 ∨ j = 15 ∨ j = 16 ∨ j = 17 ∨ j = 18 ∨ j = 19 ∨ j = 20 ∨ j = 21 ∨ j = 22 ∨ j = 23 ∨ j = 24 ∨ j = 25 ∨ j = 26 ∨ j = 27 ∨ j = 28 ∨ j = 29 ∨ j = 30 by omega) with rfl | rfl | rfl | rfl | rfl | rfl | rfl | rfl | rfl | rfl | rfl | rfl | rfl | rfl | rfl | rfl | rfl | rfl | rfl | rfl | rfl | rfl | rfl | rfl | rfl | rfl | rfl | rfl | rfl | rfl | rfl <;> rfl) (Nat.le_of_ble_eq_true rfl) (Nat.le_of_ble_eq_true rfl) dL_law_8 (fun q50 H hP hD hS => ?_)
  have hP : va_P (dC, dI) pcl [(q1, .inr (12, [.ref q3, .ref q4, .ref q5, .ref q6, .ref q7, .int 0, .int 0, .int 0, .int 0, .long 0])), (q5, .inr (4, [.ref q16, .ref q8, .ref q9, .ref q10, .ref q11, .int 0, .int 0, .int 0, .int 0])), (q3, .inr (7, [.ref q12, .ref q13, .ref q14, .ref q15, .ref q16, .ref q17, .ref q18, .ref q19, .ref q20, .int 1000, .int 0, .int 0, .int 0, .int 0, .int 0, .int 0])), (q12, .inr (11, [.ref q21, .ref q22, .ref q23, .int 0])), (q13, .inr (11, [.ref q24, .ref q25, .ref q26, .int 0])), (q14, .inl (cA46, 100, .inl (fun _ => 0))), (q15, .inr (8, [.ref q27, .int 0])), (q16, .inr (2, [.ref q28, .ref q29, .ref q30, .ref q31, .ref q32, .ref q33, .ref q34, .ref q35, .ref q36, .ref q37, .int 0, .int 0, .int 0])), (q17, .inr (3, [.ref q38, .ref q39, .ref q40, .ref q41, .ref q42, .ref q43, .int 0, .int 0, .int 0, .int 0, .int 0])), (q18, .inr (6, [.ref q44, .ref q45, .int 0, .int 0])), (q44, .inl (cA47, 40, .inl (fun _ => 0))), (q45, .inl (cA48, 40, .inl (fun _ => 0))), (q50, .inr (14, [.null, .null, .null, .null, .null, .null, .null, .null, .null, .null, .null, .int 0, .int 0, .int 0, .int 0, .int 0, .int 0, .int 0, .int 0, .int 0, .int 0, .int 0, .int 0, .long 0, .null, .null, .null, .null, .null, .int 0, .int 0]))] H := hP
  have hD : va_D A [(q1, .inr (12, [.ref q3, .ref q4, .ref q5, .ref q6, .ref q7, .int 0, .int 0, .int 0, .int 0, .long 0])), (q5, .inr (4, [.ref q16, .ref q8, .ref q9, .ref q10, .ref q11, .int 0, .int 0, .int 0, .int 0])), (q3, .inr (7, [.ref q12, .ref q13, .ref q14, .ref q15, .ref q16, .ref q17, .ref q18, .ref q19, .ref q20, .int 1000, .int 0, .int 0, .int 0, .int 0, .int 0, .int 0])), (q12, .inr (11, [.ref q21, .ref q22, .ref q23, .int 0])), (q13, .inr (11, [.ref q24, .ref q25, .ref q26, .int 0])), (q14, .inl (cA46, 100, .inl (fun _ => 0))), (q15, .inr (8, [.ref q27, .int 0])), (q16, .inr (2, [.ref q28, .ref q29, .ref q30, .ref q31, .ref q32, .ref q33, .ref q34, .ref q35, .ref q36, .ref q37, .int 0, .int 0, .int 0])), (q17, .inr (3, [.ref q38, .ref q39, .ref q40, .ref q41, .ref q42, .ref q43, .int 0, .int 0, .int 0, .int 0, .int 0])), (q18, .inr (6, [.ref q44, .ref q45, .int 0, .int 0])), (q44, .inl (cA47, 40, .inl (fun _ => 0))), (q45, .inl (cA48, 40, .inl (fun _ => 0))), (q50, .inr (14, [.null, .null, .null, .null, .null, .null, .null, .null, .null, .null, .null, .int 0, .int 0, .int 0, .int 0, .int 0, .int 0, .int 0, .int 0, .int 0, .int 0, .int 0, .int 0, .long 0, .null, .null, .null, .null, .null, .int 0, .int 0]))] := hD
  refine W.widen (k := 124) (n := 20200) (Nat.le_of_ble_eq_true rfl) (Nat.le_of_ble_eq_true rfl) ?_
  refine lv_dup hx hb dL_law_11 rfl ?_
  have hPc := hP.sub (ws' := [(q50, .inr (14, [.null, .null, .null, .null, .null, .null, .null, .null, .null, .null, .null, .int 0, .int 0, .int 0, .int 0, .int 0, .int 0, .int 0, .int 0, .int 0, .int 0, .int 0, .int 0, .long 0, .null, .null, .null, .null, .null, .int 0, .int 0]))]) [12] rfl
  have hDc := hD.sub (ws' := [(q50, .inr (14, [.null, .null, .null, .null, .null, .null, .null, .null, .null, .null, .null, .int 0, .int 0, .int 0, .int 0, .int 0, .int 0, .int 0, .int 0, .int 0, .int 0, .int 0, .int 0, .long 0, .null, .null, .null, .null, .null, .int 0, .int 0]))]) [12] (by decide) rfl
  have hKc := hK.sub (tys' := []) [] rfl
  have hFc := va_free (wc := [(q50, .inr (14, [.null, .null, .null, .null, .null, .null, .null, .null, .null, .null, .null, .int 0, .int 0, .int 0, .int 0, .int 0, .int 0, .int 0, .int 0, .int 0, .int 0, .int 0, .int 0, .long 0, .null, .null, .null, .null, .null, .int 0, .int 0]))]) hD hS hA [12] rfl
  refine va_callv (va_runI (As := []) (rest := [.ref q50]) ⟨hx, hb, hml, hown, hts⟩ (c_X17_init l dC dI z q50 H.size) (cwI 0 hts (ws_good e354) rfl rfl rfl (hts _ e212) (hts _ e352) (hts _ e353) rfl ⟨by decide +kernel, by decide +kernel, by decide +kernel⟩ ⟨Nat.le_of_ble_eq_true rfl, Nat.le_of_ble_eq_true rfl⟩) ⟨pPre_blind, fun U hU hW => ⟨rfl, pPre_at hPc hKc hDc hE hS hFc U hU hW⟩⟩ rfl rfl hl.1 rfl (lv_room (Nat.le_of_ble_eq_true rfl)) dL_law_12 ⟨Nat.le_of_ble_eq_true rfl, Nat.le_of_ble_eq_true rfl⟩) hS (fun q _ h => hFc q h) hFc (fun u68 t H1 locs ht hvm hw hB hz1 hk1 hS => ?_)
  obtain ⟨q52, q53, q54, q55, q56, q57, q58, q59, q60, q61, q62, q63, q64, q65, q66, cA67, hP1, hK1, hD1⟩ := hB
  rw [ht] at hP1
  have hK1 := va_K.moved hvm.symm hK1
  obtain ⟨hP, hD⟩ := va_join (wr := [(q1, .inr (12, [.ref q3, .ref q4, .ref q5, .ref q6, .ref q7, .int 0, .int 0, .int 0, .int 0, .long 0])), (q5, .inr (4, [.ref q16, .ref q8, .ref q9, .ref q10, .ref q11, .int 0, .int 0, .int 0, .int 0])), (q3, .inr (7, [.ref q12, .ref q13, .ref q14, .ref q15, .ref q16, .ref q17, .ref q18, .ref q19, .ref q20, .int 1000, .int 0, .int 0, .int 0, .int 0, .int 0, .int 0])), (q12, .inr (11, [.ref q21, .ref q22, .ref q23, .int 0])), (q13, .inr (11, [.ref q24, .ref q25, .ref q26, .int 0])), (q14, .inl (cA46, 100, .inl (fun _ => 0))), (q15, .inr (8, [.ref q27, .int 0])), (q16, .inr (2, [.ref q28, .ref q29, .ref q30, .ref q31, .ref q32, .ref q33, .ref q34, .ref q35, .ref q36, .ref q37, .int 0, .int 0, .int 0])), (q17, .inr (3, [.ref q38, .ref q39, .ref q40, .ref q41, .ref q42, .ref q43, .int 0, .int 0, .int 0, .int 0, .int 0])), (q18, .inr (6, [.ref q44, .ref q45, .int 0, .int 0])), (q44, .inl (cA47, 40, .inl (fun _ => 0))), (q45, .inl (cA48, 40, .inl (fun _ => 0)))]) (w1 := [(q50, .inr (14, [.ref q52, .ref q53, .ref q54, .ref q55, .ref q56, .ref q57, .ref q58, .ref q59, .ref q60, .ref q61, .null, .int 0, .int 0, .int 0, .int 0, .int 0, .int 0, .int 0, .int 0, .int 0, .int 0, .int 0, .int 0, .long 0, .ref q62, .ref q63, .ref q64, .ref q65, .ref q66, .int 0, .int 0])), (q52, .inr (0, [.int 0, .ref z.1, .int 0])), (q53, .inr (0, [.int 0, .ref z.1, .int 0])), (q54, .inr (0, [.int 0, .ref z.1, .int 0])), (q55, .inr (0, [.int 0, .ref z.1, .int 0])), (q56, .inr (0, [.int 0, .ref z.1, .int 0])), (q57, .inr (0, [.int 0, .ref z.1, .int 0])), (q58, .inr (0, [.int 0, .ref z.1, .int 0])), (q59, .inr (0, [.int 0, .ref z.1, .int 0])), (q60, .inr (0, [.int 0, .ref z.1, .int 0])), (q61, .inl (cA67, 100, .inl (fun _ => 0)))]) hP hD [12] [0, 1, 2, 3, 4, 5, 6, 7, 8, 9, 10, 11] rfl rfl (by decide) (by decide) hk1 hFc hP1 hD1
  have hK := hK.app hK1
  generalize H1 = H at hP hS ⊢
  have hP : va_P (dC, dI) pcl [(q1, .inr (12, [.ref q3, .ref q4, .ref q5, .ref q6, .ref q7, .int 0, .int 0, .int 0, .int 0, .long 0])), (q5, .inr (4, [.ref q16, .ref q8, .ref q9, .ref q10, .ref q11, .int 0, .int 0, .int 0, .int 0])), (q3, .inr (7, [.ref q12, .ref q13, .ref q14, .ref q15, .ref q16, .ref q17, .ref q18, .ref q19, .ref q20, .int 1000, .int 0, .int 0, .int 0, .int 0, .int 0, .int 0])), (q12, .inr (11, [.ref q21, .ref q22, .ref q23, .int 0])), (q13, .inr (11, [.ref q24, .ref q25, .ref q26, .int 0])), (q14, .inl (cA46, 100, .inl (fun _ => 0))), (q15, .inr (8, [.ref q27, .int 0])), (q16, .inr (2, [.ref q28, .ref q29, .ref q30, .ref q31, .ref q32, .ref q33, .ref q34, .ref q35, .ref q36, .ref q37, .int 0, .int 0, .int 0])), (q17, .inr (3, [.ref q38, .ref q39, .ref q40, .ref q41, .ref q42, .ref q43, .int 0, .int 0, .int 0, .int 0, .int 0])), (q18, .inr (6, [.ref q44, .ref q45, .int 0, .int 0])), (q44, .inl (cA47, 40, .inl (fun _ => 0))), (q45, .inl (cA48, 40, .inl (fun _ => 0))), (q50, .inr (14, [.ref q52, .ref q53, .ref q54, .ref q55, .ref q56, .ref q57, .ref q58, .ref q59, .ref q60, .ref q61, .null, .int 0, .int 0, .int 0, .int 0, .int 0, .int 0, .int 0, .int 0, .int 0, .int 0, .int 0, .int 0, .long 0, .ref q62, .ref q63, .ref q64, .ref q65, .ref q66, .int 0, .int 0])), (q52, .inr (0, [.int 0, .ref z.1, .int 0])), (q53, .inr (0, [.int 0, .ref z.1, .int 0])), (q54, .inr (0, [.int 0, .ref z.1, .int 0])), (q55, .inr (0, [.int 0, .ref z.1, .int 0])), (q56, .inr (0, [.int 0, .ref z.1, .int 0])), (q57, .inr (0, [.int 0, .ref z.1, .int 0])), (q58, .inr (0, [.int 0, .ref z.1, .int 0])), (q59, .inr (0, [.int 0, .ref z.1, .int 0])), (q60, .inr (0, [.int 0, .ref z.1, .int 0])), (q61, .inl (cA67, 100, .inl (fun _ => 0)))] H := hP
  have hD : va_D A [(q1, .inr (12, [.ref q3, .ref q4, .ref q5, .ref q6, .ref q7, .int 0, .int 0, .int 0, .int 0, .long 0])), (q5, .inr (4, [.ref q16, .ref q8, .ref q9, .ref q10, .ref q11, .int 0, .int 0, .int 0, .int 0])), (q3, .inr (7, [.ref q12, .ref q13, .ref q14, .ref q15, .ref q16, .ref q17, .ref q18, .ref q19, .ref q20, .int 1000, .int 0, .int 0, .int 0, .int 0, .int 0, .int 0])), (q12, .inr (11, [.ref q21, .ref q22, .ref q23, .int 0])), (q13, .inr (11, [.ref q24, .ref q25, .ref q26, .int 0])), (q14, .inl (cA46, 100, .inl (fun _ => 0))), (q15, .inr (8, [.ref q27, .int 0])), (q16, .inr (2, [.ref q28, .ref q29, .ref q30, .ref q31, .ref q32, .ref q33, .ref q34, .ref q35, .ref q36, .ref q37, .int 0, .int 0, .int 0])), (q17, .inr (3, [.ref q38, .ref q39, .ref q40, .ref q41, .ref q42, .ref q43, .int 0, .int 0, .int 0, .int 0, .int 0])), (q18, .inr (6, [.ref q44, .ref q45, .int 0, .int 0])), (q44, .inl (cA47, 40, .inl (fun _ => 0))), (q45, .inl (cA48, 40, .inl (fun _ => 0))), (q50, .inr (14, [.ref q52, .ref q53, .ref q54, .ref q55, .ref q56, .ref q57, .ref q58, .ref q59, .ref q60, .ref q61, .null, .int 0, .int 0, .int 0, .int 0, .int 0, .int 0, .int 0, .int 0, .int 0, .int 0, .int 0, .int 0, .long 0, .ref q62, .ref q63, .ref q64, .ref q65, .ref q66, .int 0, .int 0])), (q52, .inr (0, [.int 0, .ref z.1, .int 0])), (q53, .inr (0, [.int 0, .ref z.1, .int 0])), (q54, .inr (0, [.int 0, .ref z.1, .int 0])), (q55, .inr (0, [.int 0, .ref z.1, .int 0])), (q56, .inr (0, [.int 0, .ref z.1, .int 0])), (q57, .inr (0, [.int 0, .ref z.1, .int 0])), (q58, .inr (0, [.int 0, .ref z.1, .int 0])), (q59, .inr (0, [.int 0, .ref z.1, .int 0])), (q60, .inr (0, [.int 0, .ref z.1, .int 0])), (q61, .inl (cA67, 100, .inl (fun _ => 0)))] := hD
  have hK : va_K (dC, dI) pcl [(cA46, .int), (cA47, .int), (cA48, .int), (cA67, .int)] s := hK
  refine W.widen (k := 139) (n := 20499) (Nat.le_of_ble_eq_true rfl) (Nat.le_of_ble_eq_true rfl) ?_
  refine lv_astore_n (lv' := [(2, .ref q50), (1, .ref q1), (0, .ref b)]) hx hb dL_law_15 rfl hl (by decide) rfl (fun ls hl => ?_)
  refine lv_iconst (v := 1) hx hb dL_law_16 (by decide) ?_
  refine va_newa (atype := .long) (N' := 1) (a0 := (1, .inr (.inl (fun _ => 0)))) hx hb (hts _ e355) rfl hK hP hD hS hA (fun _ => rfl) (by decide) (by decide) (Nat.le_of_ble_eq_true rfl) (Nat.le_of_ble_eq_true rfl) (Nat.le_of_ble_eq_true rfl) dL_law_17 (fun q69 cA70 H hK hP hD hS => ?_)
  have hP : va_P (dC, dI) pcl [(q1, .inr (12, [.ref q3, .ref q4, .ref q5, .ref q6, .ref q7, .int 0, .int 0, .int 0, .int 0, .long 0])), (q5, .inr (4, [.ref q16, .ref q8, .ref q9, .ref q10, .ref q11, .int 0, .int 0, .int 0, .int 0])), (q3, .inr (7, [.ref q12, .ref q13, .ref q14, .ref q15, .ref q16, .ref q17, .ref q18, .ref q19, .ref q20, .int 1000, .int 0, .int 0, .int 0, .int 0, .int 0, .int 0])), (q12, .inr (11, [.ref q21, .ref q22, .ref q23, .int 0])), (q13, .inr (11, [.ref q24, .ref q25, .ref q26, .int 0])), (q14, .inl (cA46, 100, .inl (fun _ => 0))), (q15, .inr (8, [.ref q27, .int 0])), (q16, .inr (2, [.ref q28, .ref q29, .ref q30, .ref q31, .ref q32, .ref q33, .ref q34, .ref q35, .ref q36, .ref q37, .int 0, .int 0, .int 0])), (q17, .inr (3, [.ref q38, .ref q39, .ref q40, .ref q41, .ref q42, .ref q43, .int 0, .int 0, .int 0, .int 0, .int 0])), (q18, .inr (6, [.ref q44, .ref q45, .int 0, .int 0])), (q44, .inl (cA47, 40, .inl (fun _ => 0))), (q45, .inl (cA48, 40, .inl (fun _ => 0))), (q50, .inr (14, [.ref q52, .ref q53, .ref q54, .ref q55, .ref q56, .ref q57, .ref q58, .ref q59, .ref q60, .ref q61, .null, .int 0, .int 0, .int 0, .int 0, .int 0, .int 0, .int 0, .int 0, .int 0, .int 0, .int 0, .int 0, .long 0, .ref q62, .ref q63, .ref q64, .ref q65, .ref q66, .int 0, .int 0])), (q52, .inr (0, [.int 0, .ref z.1, .int 0])), (q53, .inr (0, [.int 0, .ref z.1, .int 0])), (q54, .inr (0, [.int 0, .ref z.1, .int 0])), (q55, .inr (0, [.int 0, .ref z.1, .int 0])), (q56, .inr (0, [.int 0, .ref z.1, .int 0])), (q57, .inr (0, [.int 0, .ref z.1, .int 0])), (q58, .inr (0, [.int 0, .ref z.1, .int 0])), (q59, .inr (0, [.int 0, .ref z.1, .int 0])), (q60, .inr (0, [.int 0, .ref z.1, .int 0])), (q61, .inl (cA67, 100, .inl (fun _ => 0))), (q69, .inl (cA70, 1, .inr (.inl (fun _ => 0))))] H := hP
  have hD : va_D A [(q1, .inr (12, [.ref q3, .ref q4, .ref q5, .ref q6, .ref q7, .int 0, .int 0, .int 0, .int 0, .long 0])), (q5, .inr (4, [.ref q16, .ref q8, .ref q9, .ref q10, .ref q11, .int 0, .int 0, .int 0, .int 0])), (q3, .inr (7, [.ref q12, .ref q13, .ref q14, .ref q15, .ref q16, .ref q17, .ref q18, .ref q19, .ref q20, .int 1000, .int 0, .int 0, .int 0, .int 0, .int 0, .int 0])), (q12, .inr (11, [.ref q21, .ref q22, .ref q23, .int 0])), (q13, .inr (11, [.ref q24, .ref q25, .ref q26, .int 0])), (q14, .inl (cA46, 100, .inl (fun _ => 0))), (q15, .inr (8, [.ref q27, .int 0])), (q16, .inr (2, [.ref q28, .ref q29, .ref q30, .ref q31, .ref q32, .ref q33, .ref q34, .ref q35, .ref q36, .ref q37, .int 0, .int 0, .int 0])), (q17, .inr (3, [.ref q38, .ref q39, .ref q40, .ref q41, .ref q42, .ref q43, .int 0, .int 0, .int 0, .int 0, .int 0])), (q18, .inr (6, [.ref q44, .ref q45, .int 0, .int 0])), (q44, .inl (cA47, 40, .inl (fun _ => 0))), (q45, .inl (cA48, 40, .inl (fun _ => 0))), (q50, .inr (14, [.ref q52, .ref q53, .ref q54, .ref q55, .ref q56, .ref q57, .ref q58, .ref q59, .ref q60, .ref q61, .null, .int 0, .int 0, .int 0, .int 0, .int 0, .int 0, .int 0, .int 0, .int 0, .int 0, .int 0, .int 0, .long 0, .ref q62, .ref q63, .ref q64, .ref q65, .ref q66, .int 0, .int 0])), (q52, .inr (0, [.int 0, .ref z.1, .int 0])), (q53, .inr (0, [.int 0, .ref z.1, .int 0])), (q54, .inr (0, [.int 0, .ref z.1, .int 0])), (q55, .inr (0, [.int 0, .ref z.1, .int 0])), (q56, .inr (0, [.int 0, .ref z.1, .int 0])), (q57, .inr (0, [.int 0, .ref z.1, .int 0])), (q58, .inr (0, [.int 0, .ref z.1, .int 0])), (q59, .inr (0, [.int 0, .ref z.1, .int 0])), (q60, .inr (0, [.int 0, .ref z.1, .int 0])), (q61, .inl (cA67, 100, .inl (fun _ => 0))), (q69, .inl (cA70, 1, .inr (.inl (fun _ => 0))))] := hD
  have hK : va_K (dC, dI) pcl [(cA46, .int), (cA47, .int), (cA48, .int), (cA67, .int), (cA70, .long)] s := hK
  refine W.widen (k := 140) (n := 20500) (Nat.le_of_ble_eq_true rfl) (Nat.le_of_ble_eq_true rfl) ?_
  refine lv_astore_n (lv' := [(3, .ref q69), (2, .ref q50), (1, .ref q1), (0, .ref b)]) hx hb dL_law_19 rfl hl (by decide) rfl (fun ls hl => ?_)
  refine lv_iconst (v := 1) hx hb dL_law_20 (by decide) ?_
  refine va_newa (atype := .double) (N' := 1) (a0 := (1, .inr (.inr (.inr (.inl (fun _ => 0)))))) hx hb (hts _ e356) rfl hK hP hD hS hA (fun _ => rfl) (by decide) (by decide) (Nat.le_of_ble_eq_true rfl) (Nat.le_of_ble_eq_true rfl) (Nat.le_of_ble_eq_true rfl) dL_law_21 (fun q71 cA72 H hK hP hD hS => ?_)
  have hP : va_P (dC, dI) pcl [(q1, .inr (12, [.ref q3, .ref q4, .ref q5, .ref q6, .ref q7, .int 0, .int 0, .int 0, .int 0, .long 0])), (q5, .inr (4, [.ref q16, .ref q8, .ref q9, .ref q10, .ref q11, .int 0, .int 0, .int 0, .int 0])), (q3, .inr (7, [.ref q12, .ref q13, .ref q14, .ref q15, .ref q16, .ref q17, .ref q18, .ref q19, .ref q20, .int 1000, .int 0, .int 0, .int 0, .int 0, .int 0, .int 0])), (q12, .inr (11, [.ref q21, .ref q22, .ref q23, .int 0])), (q13, .inr (11, [.ref q24, .ref q25, .ref q26, .int 0])), (q14, .inl (cA46, 100, .inl (fun _ => 0))), (q15, .inr (8, [.ref q27, .int 0])), (q16, .inr (2, [.ref q28, .ref q29, .ref q30, .ref q31, .ref q32, .ref q33, .ref q34, .ref q35, .ref q36, .ref q37, .int 0, .int 0, .int 0])), (q17, .inr (3, [.ref q38, .ref q39, .ref q40, .ref q41, .ref q42, .ref q43, .int 0, .int 0, .int 0, .int 0, .int 0])), (q18, .inr (6, [.ref q44, .ref q45, .int 0, .int 0])), (q44, .inl (cA47, 40, .inl (fun _ => 0))), (q45, .inl (cA48, 40, .inl (fun _ => 0))), (q50, .inr (14, [.ref q52, .ref q53, .ref q54, .ref q55, .ref q56, .ref q57, .ref q58, .ref q59, .ref q60, .ref q61, .null, .int 0, .int 0, .int 0, .int 0, .int 0, .int 0, .int 0, .int 0, .int 0, .int 0, .int 0, .int 0, .long 0, .ref q62, .ref q63, .ref q64, .ref q65, .ref q66, .int 0, .int 0])), (q52, .inr (0, [.int 0, .ref z.1, .int 0])), (q53, .inr (0, [.int 0, .ref z.1, .int 0])), (q54, .inr (0, [.int 0, .ref z.1, .int 0])), (q55, .inr (0, [.int 0, .ref z.1, .int 0])), (q56, .inr (0, [.int 0, .ref z.1, .int 0])), (q57, .inr (0, [.int 0, .ref z.1, .int 0])), (q58, .inr (0, [.int 0, .ref z.1, .int 0])), (q59, .inr (0, [.int 0, .ref z.1, .int 0])), (q60, .inr (0, [.int 0, .ref z.1, .int 0])), (q61, .inl (cA67, 100, .inl (fun _ => 0))), (q69, .inl (cA70, 1, .inr (.inl (fun _ => 0)))), (q71, .inl (cA72, 1, .inr (.inr (.inr (.inl (fun _ => 0))))))] H := hP
  have hD : va_D A [(q1, .inr (12, [.ref q3, .ref q4, .ref q5, .ref q6, .ref q7, .int 0, .int 0, .int 0, .int 0, .long 0])), (q5, .inr (4, [.ref q16, .ref q8, .ref q9, .ref q10, .ref q11, .int 0, .int 0, .int 0, .int 0])), (q3, .inr (7, [.ref q12, .ref q13, .ref q14, .ref q15, .ref q16, .ref q17, .ref q18, .ref q19, .ref q20, .int 1000, .int 0, .int 0, .int 0, .int 0, .int 0, .int 0])), (q12, .inr (11, [.ref q21, .ref q22, .ref q23, .int 0])), (q13, .inr (11, [.ref q24, .ref q25, .ref q26, .int 0])), (q14, .inl (cA46, 100, .inl (fun _ => 0))), (q15, .inr (8, [.ref q27, .int 0])), (q16, .inr (2, [.ref q28, .ref q29, .ref q30, .ref q31, .ref q32, .ref q33, .ref q34, .ref q35, .ref q36, .ref q37, .int 0, .int 0, .int 0])), (q17, .inr (3, [.ref q38, .ref q39, .ref q40, .ref q41, .ref q42, .ref q43, .int 0, .int 0, .int 0, .int 0, .int 0])), (q18, .inr (6, [.ref q44, .ref q45, .int 0, .int 0])), (q44, .inl (cA47, 40, .inl (fun _ => 0))), (q45, .inl (cA48, 40, .inl (fun _ => 0))), (q50, .inr (14, [.ref q52, .ref q53, .ref q54, .ref q55, .ref q56, .ref q57, .ref q58, .ref q59, .ref q60, .ref q61, .null, .int 0, .int 0, .int 0, .int 0, .int 0, .int 0, .int 0, .int 0, .int 0, .int 0, .int 0, .int 0, .long 0, .ref q62, .ref q63, .ref q64, .ref q65, .ref q66, .int 0, .int 0])), (q52, .inr (0, [.int 0, .ref z.1, .int 0])), (q53, .inr (0, [.int 0, .ref z.1, .int 0])), (q54, .inr (0, [.int 0, .ref z.1, .int 0])), (q55, .inr (0, [.int 0, .ref z.1, .int 0])), (q56, .inr (0, [.int 0, .ref z.1, .int 0])), (q57, .inr (0, [.int 0, .ref z.1, .int 0])), (q58, .inr (0, [.int 0, .ref z.1, .int 0])), (q59, .inr (0, [.int 0, .ref z.1, .int 0])), (q60, .inr (0, [.int 0, .ref z.1, .int 0])), (q61, .inl (cA67, 100, .inl (fun _ => 0))), (q69, .inl (cA70, 1, .inr (.inl (fun _ => 0)))), (q71, .inl (cA72, 1, .inr (.inr (.inr (.inl (fun _ => 0))))))] := hD
  have hK : va_K (dC, dI) pcl [(cA46, .int), (cA47, .int), (cA48, .int), (cA67, .int), (cA70, .long), (cA72, .double)] s := hK
  refine W.widen (k := 141) (n := 20501) (Nat.le_of_ble_eq_true rfl) (Nat.le_of_ble_eq_true rfl) ?_
  refine lv_astore (lv' := [(4, .ref q71), (3, .ref q69), (2, .ref q50), (1, .ref q1), (0, .ref b)]) hx hb dL_law_23 hl (by decide) rfl (fun ls hl => ?_)
  refine lv_iconst (v := 0) hx hb dL_law_25 (by decide) ?_
  refine lv_istore (lv' := [(5, .int 0), (4, .ref q71), (3, .ref q69), (2, .ref q50), (1, .ref q1), (0, .ref b)]) hx hb dL_law_26 hl (by decide) rfl (fun ls hl => ?_)
  refine lv_iload hx hb dL_law_28 (lv_at hl 0 rfl) ?_
  refine lv_aload_n hx hb dL_law_30 rfl (lv_at hl 5 rfl) ?_
  refine va_slen hx hb hX hbl hbA hS dL_law_31 ?_
  rcases (show L = 3 ∨ L = 0 ∨ L = 1 ∨ L = 2 by omega) with rfl | rfl | rfl | rfl
  · refine W.eq (g2 := F0 m 32 ls [.int 3, .int 0]) (by rfl) ?_
    obtain ⟨x0_, ex0_⟩ : ∃ y, y = xs 0 := ⟨_, rfl⟩
    refine lv_iconst (v := 3) hx hb dL_law_32 (by decide) ?_
    refine lv_isub hx hb dL_law_33 ?_
    refine W.eq (g2 := F0 m 34 ls [.int 0, .int 0]) (by rfl) ?_
    refine lv_icmp_gt (tgt := 1434) hx hb dL_law_34 (by decide) (fun h9 => absurd h9 (by decide)) (fun _ => ?_)
    refine lv_aload_n hx hb dL_law_37 rfl (lv_at hl 5 rfl) ?_
    refine lv_iload hx hb dL_law_38 (lv_at hl 0 rfl) ?_
    refine va_sld hx hb hX hbl hbA hS (by unfold vp_in; decide) dL_law_40 ?_
    refine W.eq (g2 := F0 m 41 ls [.int x0_]) (by rw [ex0_]; rfl) ?_
    refine lv_bipush (v := 31) hx hb dL_law_41 (by decide) ?_
    refine lv_iand hx hb dL_law_43 ?_
    refine lv_topi (fun x73 ex73 => ?_)
    obtain ⟨j, hj, ej⟩ := pk_andE x0_ (m := 31) 5 (by decide)
    rw [← ex73] at ej
    rcases (show j = 0 ∨ j = 1 ∨ j = 2 ∨ j = 3 ∨ j = 4 ∨ j = 5 ∨ j = 6 ∨ j = 7 ∨ j = 8 ∨ j = 9 ∨ j = 10 ∨ j = 11 ∨ j = 12 ∨ j = 13 ∨ j = 14 ∨ j = 15 ∨ j = 16 ∨ j = 17 ∨ j = 18 ∨ j = 19 ∨ j = 20 ∨ j = 21 ∨ j = 22 ∨ j = 23 ∨ j = 24 ∨ j = 25 ∨ j = 26 ∨ j = 27 ∨ j = 28 ∨ j = 29 ∨ j = 30 ∨ j = 31 by omega) with rfl | rfl | rfl | rfl | rfl | rfl | rfl | rfl | rfl | rfl | rfl | rfl | rfl | rfl | rfl | rfl | rfl | rfl | rfl | rfl | rfl | rfl | rfl | rfl | rfl | rfl | rfl | rfl | rfl | rfl | rfl | rfl
    · obtain rfl : x73 = 0 := ej
      refine lv_tableIn (off := 136) (tgt := 180) hx hb dL_law_44 (by decide) (by decide) (by rfl) (by decide) ?_
      exact law_c0 l hfl C0 A hA hA2 dC dI z hE q1 q3 q4 q5 q6 q7 q8 q9 q10 q11 q12 q13 q14 q15 q16 q17 q18 q19 q20 q21 q22 q23 q24 q25 q26 q27 q28 q29 q30 q31 q32 q33 q34 q35 q36 q37 q38 q39 q40 q41 q42 q43 q44 q45 q50 q52 q53 q54 q55 q56 q57 q58 q59 q60 q61 q62 q63 q64 q65 q66 q69 q71 cA46 cA47 cA48 cA67 cA70 cA72 _ _ hK hP hD hS _ (lv_sub hl [0, 1, 2, 3, 4, 5] rfl)
    · obtain rfl : x73 = 1 := ej
      refine lv_tableIn (off := 194) (tgt := 238) hx hb dL_law_44 (by decide) (by decide) (by rfl) (by decide) ?_
      exact law_c1 l hfl C0 A hA hA2 dC dI z hE q1 q3 q4 q5 q6 q7 q8 q9 q10 q11 q12 q13 q14 q15 q16 q17 q18 q19 q20 q21 q22 q23 q24 q25 q26 q27 q28 q29 q30 q31 q32 q33 q34 q35 q36 q37 q38 q39 q40 q41 q42 q43 q44 q45 q50 q52 q53 q54 q55 q56 q57 q58 q59 q60 q61 q62 q63 q64 q65 q66 q69 q71 cA46 cA47 cA48 cA67 cA70 cA72 _ _ hK hP hD hS _ (lv_sub hl [0, 1, 2, 3, 4, 5] rfl)
    · obtain rfl : x73 = 2 := ej
      refine lv_tableIn (off := 250) (tgt := 294) hx hb dL_law_44 (by decide) (by decide) (by rfl) (by decide) ?_
      exact law_c2 l hfl C0 A hA hA2 dC dI z hE q1 q3 q4 q5 q6 q7 q8 q9 q10 q11 q12 q13 q14 q15 q16 q17 q18 q19 q20 q21 q22 q23 q24 q25 q26 q27 q28 q29 q30 q31 q32 q33 q34 q35 q36 q37 q38 q39 q40 q41 q42 q43 q44 q45 q50 q52 q53 q54 q55 q56 q57 q58 q59 q60 q61 q62 q63 q64 q65 q66 q69 q71 cA46 cA47 cA48 cA67 cA70 cA72 _ _ hK hP hD hS _ (lv_sub hl [0, 1, 2, 3, 4, 5] rfl)
    · obtain rfl : x73 = 3 := ej
      refine lv_tableIn (off := 306) (tgt := 350) hx hb dL_law_44 (by decide) (by decide) (by rfl) (by decide) ?_
      exact law_c3 l hfl C0 A hA hA2 dC dI z hE q1 q3 q4 q5 q6 q7 q8 q9 q10 q11 q12 q13 q14 q15 q16 q17 q18 q19 q20 q21 q22 q23 q24 q25 q26 q27 q28 q29 q30 q31 q32 q33 q34 q35 q36 q37 q38 q39 q40 q41 q42 q43 q44 q45 q50 q52 q53 q54 q55 q56 q57 q58 q59 q60 q61 q62 q63 q64 q65 q66 q69 q71 cA46 cA47 cA48 cA67 cA70 cA72 _ _ hK hP hD hS _ (lv_sub hl [0, 1, 2, 3, 4, 5] rfl)
    · obtain rfl : x73 = 4 := ej
      refine lv_tableIn (off := 319) (tgt := 363) hx hb dL_law_44 (by decide) (by decide) (by rfl) (by decide) ?_
      exact law_c4 l hfl C0 A hA hA2 dC dI z hE q1 q3 q4 q5 q6 q7 q8 q9 q10 q11 q12 q13 q14 q15 q16 q17 q18 q19 q20 q21 q22 q23 q24 q25 q26 q27 q28 q29 q30 q31 q32 q33 q34 q35 q36 q37 q38 q39 q40 q41 q42 q43 q44 q45 q50 q52 q53 q54 q55 q56 q57 q58 q59 q60 q61 q62 q63 q64 q65 q66 q69 q71 cA46 cA47 cA48 cA67 cA70 cA72 _ _ hK hP hD hS _ (lv_sub hl [0, 1, 2, 3, 4, 5] rfl)
    · obtain rfl : x73 = 5 := ej
      refine lv_tableIn (off := 363) (tgt := 407) hx hb dL_law_44 (by decide) (by decide) (by rfl) (by decide) ?_
      exact law_c5 l hfl C0 A hA hA2 dC dI z hE q1 q3 q4 q5 q6 q7 q8 q9 q10 q11 q12 q13 q14 q15 q16 q17 q18 q19 q20 q21 q22 q23 q24 q25 q26 q27 q28 q29 q30 q31 q32 q33 q34 q35 q36 q37 q38 q39 q40 q41 q42 q43 q44 q45 q50 q52 q53 q54 q55 q56 q57 q58 q59 q60 q61 q62 q63 q64 q65 q66 q69 q71 cA46 cA47 cA48 cA67 cA70 cA72 _ _ hK hP hD hS _ (lv_sub hl [0, 1, 2, 3, 4, 5] rfl)
    · obtain rfl : x73 = 6 := ej
      refine lv_tableIn (off := 376) (tgt := 420) hx hb dL_law_44 (by decide) (by decide) (by rfl) (by decide) ?_
      exact law_c6 l hfl C0 A hA hA2 dC dI z hE q1 q3 q4 q5 q6 q7 q8 q9 q10 q11 q12 q13 q14 q15 q16 q17 q18 q19 q20 q21 q22 q23 q24 q25 q26 q27 q28 q29 q30 q31 q32 q33 q34 q35 q36 q37 q38 q39 q40 q41 q42 q43 q44 q45 q50 q52 q53 q54 q55 q56 q57 q58 q59 q60 q61 q62 q63 q64 q65 q66 q69 q71 cA46 cA47 cA48 cA67 cA70 cA72 _ _ hK hP hD hS _ (lv_sub hl [0, 1, 2, 3, 4, 5] rfl)
    · obtain rfl : x73 = 7 := ej
      refine lv_tableIn (off := 432) (tgt := 476) hx hb dL_law_44 (by decide) (by decide) (by rfl) (by decide) ?_
      exact law_c7 l hfl C0 A hA hA2 dC dI z hE q1 q3 q4 q5 q6 q7 q8 q9 q10 q11 q12 q13 q14 q15 q16 q17 q18 q19 q20 q21 q22 q23 q24 q25 q26 q27 q28 q29 q30 q31 q32 q33 q34 q35 q36 q37 q38 q39 q40 q41 q42 q43 q44 q45 q50 q52 q53 q54 q55 q56 q57 q58 q59 q60 q61 q62 q63 q64 q65 q66 q69 q71 cA46 cA47 cA48 cA67 cA70 cA72 _ _ hK hP hD hS _ (lv_sub hl [0, 1, 2, 3, 4, 5] rfl)
    · obtain rfl : x73 = 8 := ej
      refine lv_tableIn (off := 445) (tgt := 489) hx hb dL_law_44 (by decide) (by decide) (by rfl) (by decide) ?_
      exact law_c8 l hfl C0 A hA hA2 dC dI z hE q1 q3 q4 q5 q6 q7 q8 q9 q10 q11 q12 q13 q14 q15 q16 q17 q18 q19 q20 q21 q22 q23 q24 q25 q26 q27 q28 q29 q30 q31 q32 q33 q34 q35 q36 q37 q38 q39 q40 q41 q42 q43 q44 q45 q50 q52 q53 q54 q55 q56 q57 q58 q59 q60 q61 q62 q63 q64 q65 q66 q69 q71 cA46 cA47 cA48 cA67 cA70 cA72 _ _ hK hP hD hS _ (lv_sub hl [0, 1, 2, 3, 4, 5] rfl)
    · obtain rfl : x73 = 9 := ej
      refine lv_tableIn (off := 501) (tgt := 545) hx hb dL_law_44 (by decide) (by decide) (by rfl) (by decide) ?_
      exact law_c9 l hfl C0 A hA hA2 dC dI z hE q1 q3 q4 q5 q6 q7 q8 q9 q10 q11 q12 q13 q14 q15 q16 q17 q18 q19 q20 q21 q22 q23 q24 q25 q26 q27 q28 q29 q30 q31 q32 q33 q34 q35 q36 q37 q38 q39 q40 q41 q42 q43 q44 q45 q50 q52 q53 q54 q55 q56 q57 q58 q59 q60 q61 q62 q63 q64 q65 q66 q69 q71 cA46 cA47 cA48 cA67 cA70 cA72 _ _ hK hP hD hS _ (lv_sub hl [0, 1, 2, 3, 4, 5] rfl)
    · obtain rfl : x73 = 10 := ej
      refine lv_tableIn (off := 514) (tgt := 558) hx hb dL_law_44 (by decide) (by decide) (by rfl) (by decide) ?_
      exact law_c10 l hfl C0 A hA hA2 dC dI z hE q1 q3 q4 q5 q6 q7 q8 q9 q10 q11 q12 q13 q14 q15 q16 q17 q18 q19 q20 q21 q22 q23 q24 q25 q26 q27 q28 q29 q30 q31 q32 q33 q34 q35 q36 q37 q38 q39 q40 q41 q42 q43 q44 q45 q50 q52 q53 q54 q55 q56 q57 q58 q59 q60 q61 q62 q63 q64 q65 q66 q69 q71 cA46 cA47 cA48 cA67 cA70 cA72 _ _ hK hP hD hS _ (lv_sub hl [0, 1, 2, 3, 4, 5] rfl)
    · obtain rfl : x73 = 11 := ej
      refine lv_tableIn (off := 527) (tgt := 571) hx hb dL_law_44 (by decide) (by decide) (by rfl) (by decide) ?_
      exact law_c11 l hfl C0 A hA hA2 dC dI z hE q1 q3 q4 q5 q6 q7 q8 q9 q10 q11 q12 q13 q14 q15 q16 q17 q18 q19 q20 q21 q22 q23 q24 q25 q26 q27 q28 q29 q30 q31 q32 q33 q34 q35 q36 q37 q38 q39 q40 q41 q42 q43 q44 q45 q50 q52 q53 q54 q55 q56 q57 q58 q59 q60 q61 q62 q63 q64 q65 q66 q69 q71 cA46 cA47 cA48 cA67 cA70 cA72 _ _ hK hP hD hS _ (lv_sub hl [0, 1, 2, 3, 4, 5] rfl)
    · obtain rfl : x73 = 12 := ej
      refine lv_tableIn (off := 583) (tgt := 627) hx hb dL_law_44 (by decide) (by decide) (by rfl) (by decide) ?_
      exact law_c12 l hfl C0 A hA hA2 dC dI z hE q1 q3 q4 q5 q6 q7 q8 q9 q10 q11 q12 q13 q14 q15 q16 q17 q18 q19 q20 q21 q22 q23 q24 q25 q26 q27 q28 q29 q30 q31 q32 q33 q34 q35 q36 q37 q38 q39 q40 q41 q42 q43 q44 q45 q50 q52 q53 q54 q55 q56 q57 q58 q59 q60 q61 q62 q63 q64 q65 q66 q69 q71 cA46 cA47 cA48 cA67 cA70 cA72 _ _ hK hP hD hS _ (lv_sub hl [0, 1, 2, 3, 4, 5] rfl)
    · obtain rfl : x73 = 13 := ej
      refine lv_tableIn (off := 596) (tgt := 640) hx hb dL_law_44 (by decide) (by decide) (by rfl) (by decide) ?_
      exact law_c13 l hfl C0 A hA hA2 dC dI z hE q1 q3 q4 q5 q6 q7 q8 q9 q10 q11 q12 q13 q14 q15 q16 q17 q18 q19 q20 q21 q22 q23 q24 q25 q26 q27 q28 q29 q30 q31 q32 q33 q34 q35 q36 q37 q38 q39 q40 q41 q42 q43 q44 q45 q50 q52 q53 q54 q55 q56 q57 q58 q59 q60 q61 q62 q63 q64 q65 q66 q69 q71 cA46 cA47 cA48 cA67 cA70 cA72 _ _ hK hP hD hS _ (lv_sub hl [0, 1, 2, 3, 4, 5] rfl)
    · obtain rfl : x73 = 14 := ej
      refine lv_tableIn (off := 652) (tgt := 696) hx hb dL_law_44 (by decide) (by decide) (by rfl) (by decide) ?_
      exact law_c14 l hfl C0 A hA hA2 dC dI z hE q1 q3 q4 q5 q6 q7 q8 q9 q10 q11 q12 q13 q14 q15 q16 q17 q18 q19 q20 q21 q22 q23 q24 q25 q26 q27 q28 q29 q30 q31 q32 q33 q34 q35 q36 q37 q38 q39 q40 q41 q42 q43 q44 q45 q50 q52 q53 q54 q55 q56 q57 q58 q59 q60 q61 q62 q63 q64 q65 q66 q69 q71 cA46 cA47 cA48 cA67 cA70 cA72 _ _ hK hP hD hS _ (lv_sub hl [0, 1, 2, 3, 4, 5] rfl)
    · obtain rfl : x73 = 15 := ej
      refine lv_tableIn (off := 665) (tgt := 709) hx hb dL_law_44 (by decide) (by decide) (by rfl) (by decide) ?_
      exact law_c15 l hfl C0 A hA hA2 dC dI z hE q1 q3 q4 q5 q6 q7 q8 q9 q10 q11 q12 q13 q14 q15 q16 q17 q18 q19 q20 q21 q22 q23 q24 q25 q26 q27 q28 q29 q30 q31 q32 q33 q34 q35 q36 q37 q38 q39 q40 q41 q42 q43 q44 q45 q50 q52 q53 q54 q55 q56 q57 q58 q59 q60 q61 q62 q63 q64 q65 q66 q69 q71 cA46 cA47 cA48 cA67 cA70 cA72 _ _ hK hP hD hS _ (lv_sub hl [0, 1, 2, 3, 4, 5] rfl)
    · obtain rfl : x73 = 16 := ej
      refine lv_tableIn (off := 721) (tgt := 765) hx hb dL_law_44 (by decide) (by decide) (by rfl) (by decide) ?_
      exact law_c16 l hfl C0 A hA hA2 dC dI z hE q1 q3 q4 q5 q6 q7 q8 q9 q10 q11 q12 q13 q14 q15 q16 q17 q18 q19 q20 q21 q22 q23 q24 q25 q26 q27 q28 q29 q30 q31 q32 q33 q34 q35 q36 q37 q38 q39 q40 q41 q42 q43 q44 q45 q50 q52 q53 q54 q55 q56 q57 q58 q59 q60 q61 q62 q63 q64 q65 q66 q69 q71 cA46 cA47 cA48 cA67 cA70 cA72 _ _ hK hP hD hS _ (lv_sub hl [0, 1, 2, 3, 4, 5] rfl)
    · obtain rfl : x73 = 17 := ej
      refine lv_tableIn (off := 777) (tgt := 821) hx hb dL_law_44 (by decide) (by decide) (by rfl) (by decide) ?_
      exact law_c17 l hfl C0 A hA hA2 dC dI z hE q1 q3 q4 q5 q6 q7 q8 q9 q10 q11 q12 q13 q14 q15 q16 q17 q18 q19 q20 q21 q22 q23 q24 q25 q26 q27 q28 q29 q30 q31 q32 q33 q34 q35 q36 q37 q38 q39 q40 q41 q42 q43 q44 q45 q50 q52 q53 q54 q55 q56 q57 q58 q59 q60 q61 q62 q63 q64 q65 q66 q69 q71 cA46 cA47 cA48 cA67 cA70 cA72 _ _ hK hP hD hS _ (lv_sub hl [0, 1, 2, 3, 4, 5] rfl)
    · obtain rfl : x73 = 18 := ej
      refine lv_tableIn (off := 840) (tgt := 884) hx hb dL_law_44 (by decide) (by decide) (by rfl) (by decide) ?_
      exact law_c18 l hfl C0 A hA hA2 dC dI z hE q1 q3 q4 q5 q6 q7 q8 q9 q10 q11 q12 q13 q14 q15 q16 q17 q18 q19 q20 q21 q22 q23 q24 q25 q26 q27 q28 q29 q30 q31 q32 q33 q34 q35 q36 q37 q38 q39 q40 q41 q42 q43 q44 q45 q50 q52 q53 q54 q55 q56 q57 q58 q59 q60 q61 q62 q63 q64 q65 q66 q69 q71 cA46 cA47 cA48 cA67 cA70 cA72 _ _ hK hP hD hS _ (lv_sub hl [0, 1, 2, 3, 4, 5] rfl)
    · obtain rfl : x73 = 19 := ej
      refine lv_tableIn (off := 896) (tgt := 940) hx hb dL_law_44 (by decide) (by decide) (by rfl) (by decide) ?_
      exact law_c19 l hfl C0 A hA hA2 dC dI z hE q1 q3 q4 q5 q6 q7 q8 q9 q10 q11 q12 q13 q14 q15 q16 q17 q18 q19 q20 q21 q22 q23 q24 q25 q26 q27 q28 q29 q30 q31 q32 q33 q34 q35 q36 q37 q38 q39 q40 q41 q42 q43 q44 q45 q50 q52 q53 q54 q55 q56 q57 q58 q59 q60 q61 q62 q63 q64 q65 q66 q69 q71 cA46 cA47 cA48 cA67 cA70 cA72 _ _ hK hP hD hS _ (lv_sub hl [0, 1, 2, 3, 4, 5] rfl)
    · obtain rfl : x73 = 20 := ej
      refine lv_tableIn (off := 952) (tgt := 996) hx hb dL_law_44 (by decide) (by decide) (by rfl) (by decide) ?_
      exact law_c20 l hfl C0 A hA hA2 dC dI z hE q1 q3 q4 q5 q6 q7 q8 q9 q10 q11 q12 q13 q14 q15 q16 q17 q18 q19 q20 q21 q22 q23 q24 q25 q26 q27 q28 q29 q30 q31 q32 q33 q34 q35 q36 q37 q38 q39 q40 q41 q42 q43 q44 q45 q50 q52 q53 q54 q55 q56 q57 q58 q59 q60 q61 q62 q63 q64 q65 q66 q69 q71 cA46 cA47 cA48 cA67 cA70 cA72 _ _ hK hP hD hS _ (lv_sub hl [0, 1, 2, 3, 4, 5] rfl)
    · obtain rfl : x73 = 21 := ej
      refine lv_tableIn (off := 1008) (tgt := 1052) hx hb dL_law_44 (by decide) (by decide) (by rfl) (by decide) ?_
      exact law_c21 l hfl C0 A hA hA2 dC dI z hE q1 q3 q4 q5 q6 q7 q8 q9 q10 q11 q12 q13 q14 q15 q16 q17 q18 q19 q20 q21 q22 q23 q24 q25 q26 q27 q28 q29 q30 q31 q32 q33 q34 q35 q36 q37 q38 q39 q40 q41 q42 q43 q44 q45 q50 q52 q53 q54 q55 q56 q57 q58 q59 q60 q61 q62 q63 q64 q65 q66 q69 q71 cA46 cA47 cA48 cA67 cA70 cA72 _ _ hK hP hD hS _ (lv_sub hl [0, 1, 2, 3, 4, 5] rfl)
    · obtain rfl : x73 = 22 := ej
      refine lv_tableIn (off := 1076) (tgt := 1120) hx hb dL_law_44 (by decide) (by decide) (by rfl) (by decide) ?_
      exact law_c22 l hfl C0 A hA hA2 dC dI z hE q1 q3 q4 q5 q6 q7 q8 q9 q10 q11 q12 q13 q14 q15 q16 q17 q18 q19 q20 q21 q22 q23 q24 q25 q26 q27 q28 q29 q30 q31 q32 q33 q34 q35 q36 q37 q38 q39 q40 q41 q42 q43 q44 q45 q50 q52 q53 q54 q55 q56 q57 q58 q59 q60 q61 q62 q63 q64 q65 q66 q69 q71 cA46 cA47 cA48 cA67 cA70 cA72 _ _ hK hP hD hS _ (lv_sub hl [0, 1, 2, 3, 4, 5] rfl)
    · obtain rfl : x73 = 23 := ej
      refine lv_tableIn (off := 1144) (tgt := 1188) hx hb dL_law_44 (by decide) (by decide) (by rfl) (by decide) ?_
      exact law_c23 l hfl C0 A hA hA2 dC dI z hE q1 q3 q4 q5 q6 q7 q8 q9 q10 q11 q12 q13 q14 q15 q16 q17 q18 q19 q20 q21 q22 q23 q24 q25 q26 q27 q28 q29 q30 q31 q32 q33 q34 q35 q36 q37 q38 q39 q40 q41 q42 q43 q44 q45 q50 q52 q53 q54 q55 q56 q57 q58 q59 q60 q61 q62 q63 q64 q65 q66 q69 q71 cA46 cA47 cA48 cA67 cA70 cA72 _ _ hK hP hD hS _ (lv_sub hl [0, 1, 2, 3, 4, 5] rfl)
    · obtain rfl : x73 = 24 := ej
      refine lv_tableIn (off := 1200) (tgt := 1244) hx hb dL_law_44 (by decide) (by decide) (by rfl) (by decide) ?_
      exact law_c24 l hfl C0 A hA hA2 dC dI z hE q1 q3 q4 q5 q6 q7 q8 q9 q10 q11 q12 q13 q14 q15 q16 q17 q18 q19 q20 q21 q22 q23 q24 q25 q26 q27 q28 q29 q30 q31 q32 q33 q34 q35 q36 q37 q38 q39 q40 q41 q42 q43 q44 q45 q50 q52 q53 q54 q55 q56 q57 q58 q59 q60 q61 q62 q63 q64 q65 q66 q69 q71 cA46 cA47 cA48 cA67 cA70 cA72 _ _ hK hP hD hS _ (lv_sub hl [0, 1, 2, 3, 4, 5] rfl)
    · obtain rfl : x73 = 25 := ej
      refine lv_tableIn (off := 1213) (tgt := 1257) hx hb dL_law_44 (by decide) (by decide) (by rfl) (by decide) ?_
      exact law_c25 l hfl C0 A hA hA2 dC dI z hE q1 q3 q4 q5 q6 q7 q8 q9 q10 q11 q12 q13 q14 q15 q16 q17 q18 q19 q20 q21 q22 q23 q24 q25 q26 q27 q28 q29 q30 q31 q32 q33 q34 q35 q36 q37 q38 q39 q40 q41 q42 q43 q44 q45 q50 q52 q53 q54 q55 q56 q57 q58 q59 q60 q61 q62 q63 q64 q65 q66 q69 q71 cA46 cA47 cA48 cA67 cA70 cA72 _ _ hK hP hD hS _ (lv_sub hl [0, 1, 2, 3, 4, 5] rfl)
    · obtain rfl : x73 = 26 := ej
      refine lv_tableIn (off := 1227) (tgt := 1271) hx hb dL_law_44 (by decide) (by decide) (by rfl) (by decide) ?_
      exact law_c26 l hfl C0 A hA hA2 dC dI z hE q1 q3 q4 q5 q6 q7 q8 q9 q10 q11 q12 q13 q14 q15 q16 q17 q18 q19 q20 q21 q22 q23 q24 q25 q26 q27 q28 q29 q30 q31 q32 q33 q34 q35 q36 q37 q38 q39 q40 q41 q42 q43 q44 q45 q50 q52 q53 q54 q55 q56 q57 q58 q59 q60 q61 q62 q63 q64 q65 q66 q69 q71 cA46 cA47 cA48 cA67 cA70 cA72 _ _ hK hP hD hS _ (lv_sub hl [0, 1, 2, 3, 4, 5] rfl)
    · obtain rfl : x73 = 27 := ej
      refine lv_tableIn (off := 1240) (tgt := 1284) hx hb dL_law_44 (by decide) (by decide) (by rfl) (by decide) ?_
      exact law_c27 l hfl C0 A hA hA2 dC dI z hE q1 q3 q4 q5 q6 q7 q8 q9 q10 q11 q12 q13 q14 q15 q16 q17 q18 q19 q20 q21 q22 q23 q24 q25 q26 q27 q28 q29 q30 q31 q32 q33 q34 q35 q36 q37 q38 q39 q40 q41 q42 q43 q44 q45 q50 q52 q53 q54 q55 q56 q57 q58 q59 q60 q61 q62 q63 q64 q65 q66 q69 q71 cA46 cA47 cA48 cA67 cA70 cA72 _ _ hK hP hD hS _ (lv_sub hl [0, 1, 2, 3, 4, 5] rfl)
    · obtain rfl : x73 = 28 := ej
      refine lv_tableIn (off := 1306) (tgt := 1350) hx hb dL_law_44 (by decide) (by decide) (by rfl) (by decide) ?_
      exact law_c28 l hfl C0 A hA hA2 dC dI z hE q1 q3 q4 q5 q6 q7 q8 q9 q10 q11 q12 q13 q14 q15 q16 q17 q18 q19 q20 q21 q22 q23 q24 q25 q26 q27 q28 q29 q30 q31 q32 q33 q34 q35 q36 q37 q38 q39 q40 q41 q42 q43 q44 q45 q50 q52 q53 q54 q55 q56 q57 q58 q59 q60 q61 q62 q63 q64 q65 q66 q69 q71 cA46 cA47 cA48 cA67 cA70 cA72 _ _ hK hP hD hS _ (lv_sub hl [0, 1, 2, 3, 4, 5] rfl)
    · obtain rfl : x73 = 29 := ej
      refine lv_tableIn (off := 1371) (tgt := 1415) hx hb dL_law_44 (by decide) (by decide) (by rfl) (by decide) ?_
      exact law_c29 l hfl C0 A hA hA2 dC dI z hE q1 q3 q4 q5 q6 q7 q8 q9 q10 q11 q12 q13 q14 q15 q16 q17 q18 q19 q20 q21 q22 q23 q24 q25 q26 q27 q28 q29 q30 q31 q32 q33 q34 q35 q36 q37 q38 q39 q40 q41 q42 q43 q44 q45 q50 q52 q53 q54 q55 q56 q57 q58 q59 q60 q61 q62 q63 q64 q65 q66 q69 q71 cA46 cA47 cA48 cA67 cA70 cA72 _ _ hK hP hD hS _ (lv_sub hl [0, 1, 2, 3, 4, 5] rfl)
    · obtain rfl : x73 = 30 := ej
      refine lv_tableOut (tgt := 1428) hx hb dL_law_44 (by decide) (by decide) ?_
      exact law_c30 l hfl C0 A hA hA2 dC dI z hE q1 q3 q4 q5 q6 q7 q8 q9 q10 q11 q12 q13 q14 q15 q16 q17 q18 q19 q20 q21 q22 q23 q24 q25 q26 q27 q28 q29 q30 q31 q32 q33 q34 q35 q36 q37 q38 q39 q40 q41 q42 q43 q44 q45 q50 q52 q53 q54 q55 q56 q57 q58 q59 q60 q61 q62 q63 q64 q65 q66 q69 q71 cA46 cA47 cA48 cA67 cA70 cA72 _ _ hK hP hD hS _ (lv_sub hl [0, 1, 2, 3, 4, 5] rfl)
    · obtain rfl : x73 = 31 := ej
      refine lv_tableOut (tgt := 1428) hx hb dL_law_44 (by decide) (by decide) ?_
      exact law_c30 l hfl C0 A hA hA2 dC dI z hE q1 q3 q4 q5 q6 q7 q8 q9 q10 q11 q12 q13 q14 q15 q16 q17 q18 q19 q20 q21 q22 q23 q24 q25 q26 q27 q28 q29 q30 q31 q32 q33 q34 q35 q36 q37 q38 q39 q40 q41 q42 q43 q44 q45 q50 q52 q53 q54 q55 q56 q57 q58 q59 q60 q61 q62 q63 q64 q65 q66 q69 q71 cA46 cA47 cA48 cA67 cA70 cA72 _ _ hK hP hD hS _ (lv_sub hl [0, 1, 2, 3, 4, 5] rfl)
  · refine W.eq (g2 := F0 m 32 ls [.int 0, .int 0]) (by rfl) ?_
    refine lv_iconst (v := 3) hx hb dL_law_32 (by decide) ?_
    refine lv_isub hx hb dL_law_33 ?_
    refine W.eq (g2 := F0 m 34 ls [.int (-3), .int 0]) (by rfl) ?_
    refine lv_icmp_gt (tgt := 1434) hx hb dL_law_34 (by decide) (fun _ => ?_) (fun h9 => absurd (by decide) h9)
    refine lv_iconst (v := 1) hx hb dL_law_1434 (by decide) ?_
    refine va_forget (fun q hq => hA2 _ (hS.2.2 q hq)) ?_
    refine W.widen (k := 600006) (n := 7302008) (Nat.le_of_ble_eq_true rfl) (Nat.le_of_ble_eq_true rfl) ?_
    refine W.base ?_
    exact lw_ret (Drawn.sameBut.refl s.drawn lw_cs) hx hb hr hlocks dL_law_1435
  · refine W.eq (g2 := F0 m 32 ls [.int 1, .int 0]) (by rfl) ?_
    refine lv_iconst (v := 3) hx hb dL_law_32 (by decide) ?_
    refine lv_isub hx hb dL_law_33 ?_
    refine W.eq (g2 := F0 m 34 ls [.int (-2), .int 0]) (by rfl) ?_
    refine lv_icmp_gt (tgt := 1434) hx hb dL_law_34 (by decide) (fun _ => ?_) (fun h9 => absurd (by decide) h9)
    refine lv_iconst (v := 1) hx hb dL_law_1434 (by decide) ?_
    refine va_forget (fun q hq => hA2 _ (hS.2.2 q hq)) ?_
    refine W.widen (k := 600006) (n := 7302008) (Nat.le_of_ble_eq_true rfl) (Nat.le_of_ble_eq_true rfl) ?_
    refine W.base ?_
    exact lw_ret (Drawn.sameBut.refl s.drawn lw_cs) hx hb hr hlocks dL_law_1435
  · refine W.eq (g2 := F0 m 32 ls [.int 2, .int 0]) (by rfl) ?_
    refine lv_iconst (v := 3) hx hb dL_law_32 (by decide) ?_
    refine lv_isub hx hb dL_law_33 ?_
    refine W.eq (g2 := F0 m 34 ls [.int (-1), .int 0]) (by rfl) ?_
    refine lv_icmp_gt (tgt := 1434) hx hb dL_law_34 (by decide) (fun _ => ?_) (fun h9 => absurd (by decide) h9)
    refine lv_iconst (v := 1) hx hb dL_law_1434 (by decide) ?_
    refine va_forget (fun q hq => hA2 _ (hS.2.2 q hq)) ?_
    refine W.widen (k := 600006) (n := 7302008) (Nat.le_of_ble_eq_true rfl) (Nat.le_of_ble_eq_true rfl) ?_
    refine W.base ?_
    exact lw_ret (Drawn.sameBut.refl s.drawn lw_cs) hx hb hr hlocks dL_law_1435
