set_option maxHeartbeats 4000000 in
set_option maxRecDepth 100000 in
theorem c_X6_init (l : Launch) (dC : Nat → ClassId) (dI : Nat → Nat → Nat) (z : pG) (h0 : Nat) (most : Int32) (sz : Nat) : Met l yX6_init (ws_ yX6_init cX6_init 2 none) ({ frames := 2, cells := 34, slots := 6300, locals := 32 }) (va_Pc [.ref h0, .int most] (pPre z dC dI [(h0, .inr (7, [.null, .null, .null, .null, .null, .null, .null, .null, .null, .int 0, .int 0, .int 0, .int 0, .int 0, .int 0, .int 0]))] [] sz)) (va_Qv (fun (_ : Unit) => True) (fun _ t => ∃ (fi : Nat) (se : Nat) (ce : Nat) (pr : Nat) (di : Nat) (dr : Nat) (li : Nat) (ru : Nat) (ba : Nat) (b1 : Nat) (b2 : Nat) (b3 : Nat) (b4 : Nat) (b5 : Nat) (b6 : Nat) (b7 : Nat) (g1 : Nat) (g2 : Nat) (g3 : Nat) (g4 : Nat) (g5 : Nat) (g6 : Nat) (g7 : Nat) (g8 : Nat) (g9 : Nat) (g10 : Nat) (k1 : Nat) (k2 : Nat) (k3 : Nat) (k4 : Nat) (k5 : Nat) (k6 : Nat) (so : Nat) (va : Nat) (cB : ClassId) (cC : ClassId) (cD : ClassId), pPost dC dI (va_A [(h0, .inr (7, [.null, .null, .null, .null, .null, .null, .null, .null, .null, .int 0, .int 0, .int 0, .int 0, .int 0, .int 0, .int 0]))] sz) [(h0, .inr (7, [.ref fi, .ref se, .ref ce, .ref pr, .ref di, .ref dr, .ref li, .ref ru, .ref ba, .int most, .int 0, .int 0, .int 0, .int 0, .int 0, .int 0])), (fi, .inr (11, [.ref b1, .ref b2, .ref b3, .int 0])), (se, .inr (11, [.ref b4, .ref b5, .ref b6, .int 0])), (ce, .inl (cB, 100, .inl (fun _ => 0))), (pr, .inr (8, [.ref b7, .int 0])), (di, .inr (2, [.ref g1, .ref g2, .ref g3, .ref g4, .ref g5, .ref g6, .ref g7, .ref g8, .ref g9, .ref g10, .int 0, .int 0, .int 0])), (dr, .inr (3, [.ref k1, .ref k2, .ref k3, .ref k4, .ref k5, .ref k6, .int 0, .int 0, .int 0, .int 0, .int 0])), (li, .inr (6, [.ref so, .ref va, .int 0, .int 0])), (so, .inl (cC, 40, .inl (fun _ => 0))), (va, .inl (cD, 40, .inl (fun _ => 0)))] [(cB, .int), (cC, .int), (cD, .int)] t) (va_A [(h0, .inr (7, [.null, .null, .null, .null, .null, .null, .null, .null, .null, .int 0, .int 0, .int 0, .int 0, .int 0, .int 0, .int 0]))] sz)) 34 6300 (va_A [(h0, .inr (7, [.null, .null, .null, .null, .null, .null, .null, .null, .null, .int 0, .int 0, .int 0, .int 0, .int 0, .int 0, .int 0]))] sz) := by
  refine Met.ofW (cc := cX6_init) (maxL := 2) (ret := none) (by decide) rfl ?_
  intro p e s m args below meth c s₁ B hml hv
  obtain ⟨rfl, hsz, hP, hK, hD0, hE⟩ := hv
  have hx := B.exec
  have hb := B.bytes
  have hr := B.returns
  have hts0 := atoms_spec (ws := ws_ yX6_init cX6_init 2 none) B.pre
  have hts := fun (w : Cond) (h : w ∈ pw) => hts0 w (List.mem_cons_of_mem _ h)
  have hown : s.vm.findClass RX6 = some m.cls := findClass_of_methodNamed B.named
  have hlocks := B.notSynchronized
  have hin : meth.name = "<init>" := (name_of_methodNamed B.named B.method).1
  subst hsz
  have hD := hD0.self (sz := s.heap.size)
  generalize hAe : va_A [(h0, .inr (7, [.null, .null, .null, .null, .null, .null, .null, .null, .null, .int 0, .int 0, .int 0, .int 0, .int 0, .int 0, .int 0]))] s.heap.size = A at hD hE ⊢
  have hA : ∀ q : Nat, s.heap.size ≤ q → A q := fun q h => by rw [← hAe]; exact Or.inr h
  have hS : va_S A s.heap s.heap [] := va_S.rf
  have hN := hE.1
  have hP : va_P (dC, dI) pcl [(h0, .inr (7, [.null, .null, .null, .null, .null, .null, .null, .null, .null, .int 0, .int 0, .int 0, .int 0, .int 0, .int 0, .int 0]))] s.heap := hP
  have hl := lv_entry ([.ref h0, .int most]) (n := 2) (Nat.le_of_ble_eq_true rfl)
  rw [lg_entry_eq]
  generalize (lg_sl ([.ref h0, .int most]) ++ List.replicate (2 - (lg_sl ([.ref h0, .int most])).length) Slot.unset).toArray = ls at hl ⊢
  have hl : lv_has ls 2 [(0, .ref h0), (1, .int most)] := hl
  obtain ⟨H, hH0⟩ : ∃ H, H = s.heap := ⟨_, rfl⟩
  rw [← hH0] at hP ⊢
  have hS : va_S A s.heap H [] := by rw [hH0]; exact hS
  refine lv_aload_n hx hb dX6_init_0 rfl (lv_at hl 0 rfl) ?_
  refine W.objInit hx hb hown (hts _ e55) (hts _ e1) (hts _ e2) rfl (by rw [hml]; exact hl.1) rfl dX6_init_1 (Nat.le_of_ble_eq_true rfl) (Nat.le_of_ble_eq_true rfl) ?_
  refine W.eq (g2 := F0 m 4 ls []) rfl ?_
  refine lv_aload_n hx hb dX6_init_4 rfl (lv_at hl 0 rfl) ?_
  refine va_new (ci := 11) (fs := [.null, .null, .null, .int 0]) (C := RX10) (T := TX10) (N := 4) hx hb hts pinX10 tyX10 tyX10_ok hown (hts _ e56) (hts _ e57) (hts _ e58) hK hP hD hS hA rfl (fun j hj => by rcases (show j = 0 ∨ j = 1 ∨ j = 2 ∨ j = 3 by omega) with rfl | rfl | rfl | rfl <;> rfl) (Nat.le_of_ble_eq_true rfl) (Nat.le_of_ble_eq_true rfl) dX6_init_5 (fun q1 H hP hD hS => ?_)
  have hP : va_P (dC, dI) pcl [(h0, .inr (7, [.null, .null, .null, .null, .null, .null, .null, .null, .null, .int 0, .int 0, .int 0, .int 0, .int 0, .int 0, .int 0])), (q1, .inr (11, [.null, .null, .null, .int 0]))] H := hP
  have hD : va_D A [(h0, .inr (7, [.null, .null, .null, .null, .null, .null, .null, .null, .null, .int 0, .int 0, .int 0, .int 0, .int 0, .int 0, .int 0])), (q1, .inr (11, [.null, .null, .null, .int 0]))] := hD
  refine W.widen (k := 1) (n := 4) (Nat.le_of_ble_eq_true rfl) (Nat.le_of_ble_eq_true rfl) ?_
  refine lv_dup hx hb dX6_init_8 rfl ?_
  have hPc := hP.sub (ws' := [(q1, .inr (11, [.null, .null, .null, .int 0]))]) [1] rfl
  have hDc := hD.sub (ws' := [(q1, .inr (11, [.null, .null, .null, .int 0]))]) [1] (by decide) rfl
  have hKc := hK.sub (tys' := []) [] rfl
  have hFc := va_free (wc := [(q1, .inr (11, [.null, .null, .null, .int 0]))]) hD hS hA [1] rfl
  refine va_callv (va_runIN (As := []) (rest := [.ref q1, .ref h0]) ⟨hx, hb, hml, hown, hts⟩ (c_X10_init l dC dI z q1 H.size) ⟨va_cnB 0 hts (ws_good e60) rfl rfl rfl (hN _ n3) (hts _ e58) ⟨by decide +kernel, by decide +kernel, by decide +kernel⟩ ⟨Nat.le_of_ble_eq_true rfl, Nat.le_of_ble_eq_true rfl⟩, rfl, (hts _ e59)⟩ ⟨pPre_blind, fun U hU hW => ⟨rfl, pPre_at hPc hKc hDc hE hS hFc U hU hW⟩⟩ rfl rfl hl.1 rfl (lv_room (Nat.le_of_ble_eq_true rfl)) dX6_init_9 ⟨Nat.le_of_ble_eq_true rfl, Nat.le_of_ble_eq_true rfl⟩) hS (fun q _ h => hFc q h) hFc (fun u6 t H1 locs ht hvm hw hB hz1 hk1 hS => ?_)
  obtain ⟨q3, q4, q5, hP1, hK1, hD1⟩ := hB
  rw [ht] at hP1
  have hK1 := va_K.moved hvm.symm hK1
  obtain ⟨hP, hD⟩ := va_join (wr := [(h0, .inr (7, [.null, .null, .null, .null, .null, .null, .null, .null, .null, .int 0, .int 0, .int 0, .int 0, .int 0, .int 0, .int 0]))]) (w1 := [(q1, .inr (11, [.ref q3, .ref q4, .ref q5, .int 0]))]) hP hD [1] [0] rfl rfl (by decide) (by decide) hk1 hFc hP1 hD1
  have hK := hK.app hK1
  generalize H1 = H at hP hS ⊢
  have hP : va_P (dC, dI) pcl [(h0, .inr (7, [.null, .null, .null, .null, .null, .null, .null, .null, .null, .int 0, .int 0, .int 0, .int 0, .int 0, .int 0, .int 0])), (q1, .inr (11, [.ref q3, .ref q4, .ref q5, .int 0]))] H := hP
  have hD : va_D A [(h0, .inr (7, [.null, .null, .null, .null, .null, .null, .null, .null, .null, .int 0, .int 0, .int 0, .int 0, .int 0, .int 0, .int 0])), (q1, .inr (11, [.ref q3, .ref q4, .ref q5, .int 0]))] := hD
  have hK : va_K (dC, dI) pcl [] s := hK
  refine W.widen (k := 4) (n := 1315) (Nat.le_of_ble_eq_true rfl) (Nat.le_of_ble_eq_true rfl) ?_
  refine va_putF (D := (dC, dI)) (ci := 7) (v := .ref q1) (ty := .object "WordFoundry$Stack") (C := RX6) (T := TX6) (N := 16) hx hb hts pinX6 tyX6 tyX6_ok nmX6 hown hK hP hD hS 0 rfl rfl 0 (by decide) (hts _ e61) (fun _ h9 => h9) rfl hin rfl (by decide +kernel) rfl rfl (Nat.le_of_ble_eq_true rfl) dX6_init_12 (fun H locs hP hD hS => ?_)
  have hP : va_P (dC, dI) pcl [(h0, .inr (7, [.ref q1, .null, .null, .null, .null, .null, .null, .null, .null, .int 0, .int 0, .int 0, .int 0, .int 0, .int 0, .int 0])), (q1, .inr (11, [.ref q3, .ref q4, .ref q5, .int 0]))] H := hP
  have hD : va_D A [(h0, .inr (7, [.ref q1, .null, .null, .null, .null, .null, .null, .null, .null, .int 0, .int 0, .int 0, .int 0, .int 0, .int 0, .int 0])), (q1, .inr (11, [.ref q3, .ref q4, .ref q5, .int 0]))] := hD
  refine lv_aload_n hx hb dX6_init_15 rfl (lv_at hl 0 rfl) ?_
  refine va_new (ci := 11) (fs := [.null, .null, .null, .int 0]) (C := RX10) (T := TX10) (N := 4) hx hb hts pinX10 tyX10 tyX10_ok hown (hts _ e56) (hts _ e57) (hts _ e58) hK hP hD hS hA rfl (fun j hj => by rcases (show j = 0 ∨ j = 1 ∨ j = 2 ∨ j = 3 by omega) with rfl | rfl | rfl | rfl <;> rfl) (Nat.le_of_ble_eq_true rfl) (Nat.le_of_ble_eq_true rfl) dX6_init_16 (fun q7 H hP hD hS => ?_)
  have hP : va_P (dC, dI) pcl [(h0, .inr (7, [.ref q1, .null, .null, .null, .null, .null, .null, .null, .null, .int 0, .int 0, .int 0, .int 0, .int 0, .int 0, .int 0])), (q1, .inr (11, [.ref q3, .ref q4, .ref q5, .int 0])), (q7, .inr (11, [.null, .null, .null, .int 0]))] H := hP
  have hD : va_D A [(h0, .inr (7, [.ref q1, .null, .null, .null, .null, .null, .null, .null, .null, .int 0, .int 0, .int 0, .int 0, .int 0, .int 0, .int 0])), (q1, .inr (11, [.ref q3, .ref q4, .ref q5, .int 0])), (q7, .inr (11, [.null, .null, .null, .int 0]))] := hD
  refine W.widen (k := 5) (n := 1319) (Nat.le_of_ble_eq_true rfl) (Nat.le_of_ble_eq_true rfl) ?_
  refine lv_dup hx hb dX6_init_19 rfl ?_
  have hPc := hP.sub (ws' := [(q7, .inr (11, [.null, .null, .null, .int 0]))]) [2] rfl
  have hDc := hD.sub (ws' := [(q7, .inr (11, [.null, .null, .null, .int 0]))]) [2] (by decide) rfl
  have hKc := hK.sub (tys' := []) [] rfl
  have hFc := va_free (wc := [(q7, .inr (11, [.null, .null, .null, .int 0]))]) hD hS hA [2] rfl
  refine va_callv (va_runIN (As := []) (rest := [.ref q7, .ref h0]) ⟨hx, hb, hml, hown, hts⟩ (c_X10_init l dC dI z q7 H.size) ⟨va_cnB 0 hts (ws_good e60) rfl rfl rfl (hN _ n3) (hts _ e58) ⟨by decide +kernel, by decide +kernel, by decide +kernel⟩ ⟨Nat.le_of_ble_eq_true rfl, Nat.le_of_ble_eq_true rfl⟩, rfl, (hts _ e59)⟩ ⟨pPre_blind, fun U hU hW => ⟨rfl, pPre_at hPc hKc hDc hE hS hFc U hU hW⟩⟩ rfl rfl hl.1 rfl (lv_room (Nat.le_of_ble_eq_true rfl)) dX6_init_20 ⟨Nat.le_of_ble_eq_true rfl, Nat.le_of_ble_eq_true rfl⟩) hS (fun q _ h => hFc q h) hFc (fun u12 t H1 locs ht hvm hw hB hz1 hk1 hS => ?_)
  obtain ⟨q9, q10, q11, hP1, hK1, hD1⟩ := hB
  rw [ht] at hP1
  have hK1 := va_K.moved hvm.symm hK1
  obtain ⟨hP, hD⟩ := va_join (wr := [(h0, .inr (7, [.ref q1, .null, .null, .null, .null, .null, .null, .null, .null, .int 0, .int 0, .int 0, .int 0, .int 0, .int 0, .int 0])), (q1, .inr (11, [.ref q3, .ref q4, .ref q5, .int 0]))]) (w1 := [(q7, .inr (11, [.ref q9, .ref q10, .ref q11, .int 0]))]) hP hD [2] [0, 1] rfl rfl (by decide) (by decide) hk1 hFc hP1 hD1
  have hK := hK.app hK1
  generalize H1 = H at hP hS ⊢
  have hP : va_P (dC, dI) pcl [(h0, .inr (7, [.ref q1, .null, .null, .null, .null, .null, .null, .null, .null, .int 0, .int 0, .int 0, .int 0, .int 0, .int 0, .int 0])), (q1, .inr (11, [.ref q3, .ref q4, .ref q5, .int 0])), (q7, .inr (11, [.ref q9, .ref q10, .ref q11, .int 0]))] H := hP
  have hD : va_D A [(h0, .inr (7, [.ref q1, .null, .null, .null, .null, .null, .null, .null, .null, .int 0, .int 0, .int 0, .int 0, .int 0, .int 0, .int 0])), (q1, .inr (11, [.ref q3, .ref q4, .ref q5, .int 0])), (q7, .inr (11, [.ref q9, .ref q10, .ref q11, .int 0]))] := hD
  have hK : va_K (dC, dI) pcl [] s := hK
  refine W.widen (k := 8) (n := 2630) (Nat.le_of_ble_eq_true rfl) (Nat.le_of_ble_eq_true rfl) ?_
  refine va_putF (D := (dC, dI)) (ci := 7) (v := .ref q7) (ty := .object "WordFoundry$Stack") (C := RX6) (T := TX6) (N := 16) hx hb hts pinX6 tyX6 tyX6_ok nmX6 hown hK hP hD hS 0 rfl rfl 1 (by decide) (hts _ e62) (fun _ h9 => h9) rfl hin rfl (by decide +kernel) rfl rfl (Nat.le_of_ble_eq_true rfl) dX6_init_23 (fun H locs hP hD hS => ?_)
  have hP : va_P (dC, dI) pcl [(h0, .inr (7, [.ref q1, .ref q7, .null, .null, .null, .null, .null, .null, .null, .int 0, .int 0, .int 0, .int 0, .int 0, .int 0, .int 0])), (q1, .inr (11, [.ref q3, .ref q4, .ref q5, .int 0])), (q7, .inr (11, [.ref q9, .ref q10, .ref q11, .int 0]))] H := hP
  have hD : va_D A [(h0, .inr (7, [.ref q1, .ref q7, .null, .null, .null, .null, .null, .null, .null, .int 0, .int 0, .int 0, .int 0, .int 0, .int 0, .int 0])), (q1, .inr (11, [.ref q3, .ref q4, .ref q5, .int 0])), (q7, .inr (11, [.ref q9, .ref q10, .ref q11, .int 0]))] := hD
  refine lv_aload_n hx hb dX6_init_26 rfl (lv_at hl 0 rfl) ?_
  refine lv_bipush (v := 100) hx hb dX6_init_27 (by decide) ?_
  refine va_newa (atype := .int) (N' := 100) (a0 := (100, .inl (fun _ => 0))) hx hb (hts _ e3) rfl hK hP hD hS hA (fun _ => rfl) (by decide) (by decide) (Nat.le_of_ble_eq_true rfl) (Nat.le_of_ble_eq_true rfl) (Nat.le_of_ble_eq_true rfl) dX6_init_29 (fun q13 cA14 H hK hP hD hS => ?_)
  have hP : va_P (dC, dI) pcl [(h0, .inr (7, [.ref q1, .ref q7, .null, .null, .null, .null, .null, .null, .null, .int 0, .int 0, .int 0, .int 0, .int 0, .int 0, .int 0])), (q1, .inr (11, [.ref q3, .ref q4, .ref q5, .int 0])), (q7, .inr (11, [.ref q9, .ref q10, .ref q11, .int 0])), (q13, .inl (cA14, 100, .inl (fun _ => 0)))] H := hP
  have hD : va_D A [(h0, .inr (7, [.ref q1, .ref q7, .null, .null, .null, .null, .null, .null, .null, .int 0, .int 0, .int 0, .int 0, .int 0, .int 0, .int 0])), (q1, .inr (11, [.ref q3, .ref q4, .ref q5, .int 0])), (q7, .inr (11, [.ref q9, .ref q10, .ref q11, .int 0])), (q13, .inl (cA14, 100, .inl (fun _ => 0)))] := hD
  have hK : va_K (dC, dI) pcl [(cA14, .int)] s := hK
  refine W.widen (k := 9) (n := 2730) (Nat.le_of_ble_eq_true rfl) (Nat.le_of_ble_eq_true rfl) ?_
  refine va_putF (D := (dC, dI)) (ci := 7) (v := .ref q13) (ty := .array .int) (C := RX6) (T := TX6) (N := 16) hx hb hts pinX6 tyX6 tyX6_ok nmX6 hown hK hP hD hS 0 rfl rfl 2 (by decide) (hts _ e63) (fun _ h9 => h9) rfl hin rfl (by decide +kernel) rfl rfl (Nat.le_of_ble_eq_true rfl) dX6_init_31 (fun H locs hP hD hS => ?_)
  have hP : va_P (dC, dI) pcl [(h0, .inr (7, [.ref q1, .ref q7, .ref q13, .null, .null, .null, .null, .null, .null, .int 0, .int 0, .int 0, .int 0, .int 0, .int 0, .int 0])), (q1, .inr (11, [.ref q3, .ref q4, .ref q5, .int 0])), (q7, .inr (11, [.ref q9, .ref q10, .ref q11, .int 0])), (q13, .inl (cA14, 100, .inl (fun _ => 0)))] H := hP
  have hD : va_D A [(h0, .inr (7, [.ref q1, .ref q7, .ref q13, .null, .null, .null, .null, .null, .null, .int 0, .int 0, .int 0, .int 0, .int 0, .int 0, .int 0])), (q1, .inr (11, [.ref q3, .ref q4, .ref q5, .int 0])), (q7, .inr (11, [.ref q9, .ref q10, .ref q11, .int 0])), (q13, .inl (cA14, 100, .inl (fun _ => 0)))] := hD
  refine lv_aload_n hx hb dX6_init_34 rfl (lv_at hl 0 rfl) ?_
  refine va_new (ci := 8) (fs := [.null, .int 0]) (C := RX7) (T := TX7) (N := 2) hx hb hts pinX7 tyX7 tyX7_ok hown (hts _ e64) (hts _ e65) (hts _ e66) hK hP hD hS hA rfl (fun j hj => by rcases (show j = 0 ∨ j = 1 by omega) with rfl | rfl <;> rfl) (Nat.le_of_ble_eq_true rfl) (Nat.le_of_ble_eq_true rfl) dX6_init_35 (fun q15 H hP hD hS => ?_)
  have hP : va_P (dC, dI) pcl [(h0, .inr (7, [.ref q1, .ref q7, .ref q13, .null, .null, .null, .null, .null, .null, .int 0, .int 0, .int 0, .int 0, .int 0, .int 0, .int 0])), (q1, .inr (11, [.ref q3, .ref q4, .ref q5, .int 0])), (q7, .inr (11, [.ref q9, .ref q10, .ref q11, .int 0])), (q13, .inl (cA14, 100, .inl (fun _ => 0))), (q15, .inr (8, [.null, .int 0]))] H := hP
  have hD : va_D A [(h0, .inr (7, [.ref q1, .ref q7, .ref q13, .null, .null, .null, .null, .null, .null, .int 0, .int 0, .int 0, .int 0, .int 0, .int 0, .int 0])), (q1, .inr (11, [.ref q3, .ref q4, .ref q5, .int 0])), (q7, .inr (11, [.ref q9, .ref q10, .ref q11, .int 0])), (q13, .inl (cA14, 100, .inl (fun _ => 0))), (q15, .inr (8, [.null, .int 0]))] := hD
  refine W.widen (k := 10) (n := 2732) (Nat.le_of_ble_eq_true rfl) (Nat.le_of_ble_eq_true rfl) ?_
  refine lv_dup hx hb dX6_init_38 rfl ?_
  have hPc := hP.sub (ws' := [(q15, .inr (8, [.null, .int 0]))]) [4] rfl
  have hDc := hD.sub (ws' := [(q15, .inr (8, [.null, .int 0]))]) [4] (by decide) rfl
  have hKc := hK.sub (tys' := []) [] rfl
  have hFc := va_free (wc := [(q15, .inr (8, [.null, .int 0]))]) hD hS hA [4] rfl
  refine va_callv (va_runIN (As := []) (rest := [.ref q15, .ref h0]) ⟨hx, hb, hml, hown, hts⟩ (c_X7_init l dC dI z q15 H.size) ⟨va_cnB 0 hts (ws_good e68) rfl rfl rfl (hN _ n4) (hts _ e66) ⟨by decide +kernel, by decide +kernel, by decide +kernel⟩ ⟨Nat.le_of_ble_eq_true rfl, Nat.le_of_ble_eq_true rfl⟩, rfl, (hts _ e67)⟩ ⟨pPre_blind, fun U hU hW => ⟨rfl, pPre_at hPc hKc hDc hE hS hFc U hU hW⟩⟩ rfl rfl hl.1 rfl (lv_room (Nat.le_of_ble_eq_true rfl)) dX6_init_39 ⟨Nat.le_of_ble_eq_true rfl, Nat.le_of_ble_eq_true rfl⟩) hS (fun q _ h => hFc q h) hFc (fun u18 t H1 locs ht hvm hw hB hz1 hk1 hS => ?_)
  obtain ⟨q17, hP1, hK1, hD1⟩ := hB
  rw [ht] at hP1
  have hK1 := va_K.moved hvm.symm hK1
  obtain ⟨hP, hD⟩ := va_join (wr := [(h0, .inr (7, [.ref q1, .ref q7, .ref q13, .null, .null, .null, .null, .null, .null, .int 0, .int 0, .int 0, .int 0, .int 0, .int 0, .int 0])), (q1, .inr (11, [.ref q3, .ref q4, .ref q5, .int 0])), (q7, .inr (11, [.ref q9, .ref q10, .ref q11, .int 0])), (q13, .inl (cA14, 100, .inl (fun _ => 0)))]) (w1 := [(q15, .inr (8, [.ref q17, .int 0]))]) hP hD [4] [0, 1, 2, 3] rfl rfl (by decide) (by decide) hk1 hFc hP1 hD1
  have hK := hK.app hK1
  generalize H1 = H at hP hS ⊢
  have hP : va_P (dC, dI) pcl [(h0, .inr (7, [.ref q1, .ref q7, .ref q13, .null, .null, .null, .null, .null, .null, .int 0, .int 0, .int 0, .int 0, .int 0, .int 0, .int 0])), (q1, .inr (11, [.ref q3, .ref q4, .ref q5, .int 0])), (q7, .inr (11, [.ref q9, .ref q10, .ref q11, .int 0])), (q13, .inl (cA14, 100, .inl (fun _ => 0))), (q15, .inr (8, [.ref q17, .int 0]))] H := hP
  have hD : va_D A [(h0, .inr (7, [.ref q1, .ref q7, .ref q13, .null, .null, .null, .null, .null, .null, .int 0, .int 0, .int 0, .int 0, .int 0, .int 0, .int 0])), (q1, .inr (11, [.ref q3, .ref q4, .ref q5, .int 0])), (q7, .inr (11, [.ref q9, .ref q10, .ref q11, .int 0])), (q13, .inl (cA14, 100, .inl (fun _ => 0))), (q15, .inr (8, [.ref q17, .int 0]))] := hD
  have hK : va_K (dC, dI) pcl [(cA14, .int)] s := hK
  refine W.widen (k := 11) (n := 2892) (Nat.le_of_ble_eq_true rfl) (Nat.le_of_ble_eq_true rfl) ?_
  refine va_putF (D := (dC, dI)) (ci := 7) (v := .ref q15) (ty := .object "WordFoundry$Printed") (C := RX6) (T := TX6) (N := 16) hx hb hts pinX6 tyX6 tyX6_ok nmX6 hown hK hP hD hS 0 rfl rfl 3 (by decide) (hts _ e69) (fun _ h9 => h9) rfl hin rfl (by decide +kernel) rfl rfl (Nat.le_of_ble_eq_true rfl) dX6_init_42 (fun H locs hP hD hS => ?_)
  have hP : va_P (dC, dI) pcl [(h0, .inr (7, [.ref q1, .ref q7, .ref q13, .ref q15, .null, .null, .null, .null, .null, .int 0, .int 0, .int 0, .int 0, .int 0, .int 0, .int 0])), (q1, .inr (11, [.ref q3, .ref q4, .ref q5, .int 0])), (q7, .inr (11, [.ref q9, .ref q10, .ref q11, .int 0])), (q13, .inl (cA14, 100, .inl (fun _ => 0))), (q15, .inr (8, [.ref q17, .int 0]))] H := hP
  have hD : va_D A [(h0, .inr (7, [.ref q1, .ref q7, .ref q13, .ref q15, .null, .null, .null, .null, .null, .int 0, .int 0, .int 0, .int 0, .int 0, .int 0, .int 0])), (q1, .inr (11, [.ref q3, .ref q4, .ref q5, .int 0])), (q7, .inr (11, [.ref q9, .ref q10, .ref q11, .int 0])), (q13, .inl (cA14, 100, .inl (fun _ => 0))), (q15, .inr (8, [.ref q17, .int 0]))] := hD
  refine lv_aload_n hx hb dX6_init_45 rfl (lv_at hl 0 rfl) ?_
  refine va_new (ci := 2) (fs := [.null, .null, .null, .null, .null, .null, .null, .null, .null, .null, .int 0, .int 0, .int 0]) (C := RX1) (T := TX1) (N := 13) hx hb hts pinX1 tyX1 tyX1_ok hown (hts _ e70) (hts _ e71) (hts _ e20) hK hP hD hS hA rfl (fun j hj => by rcases (show j = 0 ∨ j = 1 ∨ j = 2 ∨ j = 3 ∨ j = 4 ∨ j = 5 ∨ j = 6 ∨ j = 7 ∨ j = 8 ∨ j = 9 ∨ j = 10 ∨ j = 11 ∨ j = 12 by omega) with rfl | rfl | rfl | rfl | rfl | rfl | rfl | rfl | rfl | rfl | rfl | rfl | rfl <;> rfl) (Nat.le_of_ble_eq_true rfl) (Nat.le_of_ble_eq_true rfl) dX6_init_46 (fun q19 H hP hD hS => ?_)
  have hP : va_P (dC, dI) pcl [(h0, .inr (7, [.ref q1, .ref q7, .ref q13, .ref q15, .null, .null, .null, .null, .null, .int 0, .int 0, .int 0, .int 0, .int 0, .int 0, .int 0])), (q1, .inr (11, [.ref q3, .ref q4, .ref q5, .int 0])), (q7, .inr (11, [.ref q9, .ref q10, .ref q11, .int 0])), (q13, .inl (cA14, 100, .inl (fun _ => 0))), (q15, .inr (8, [.ref q17, .int 0])), (q19, .inr (2, [.null, .null, .null, .null, .null, .null, .null, .null, .null, .null, .int 0, .int 0, .int 0]))] H := hP
  have hD : va_D A [(h0, .inr (7, [.ref q1, .ref q7, .ref q13, .ref q15, .null, .null, .null, .null, .null, .int 0, .int 0, .int 0, .int 0, .int 0, .int 0, .int 0])), (q1, .inr (11, [.ref q3, .ref q4, .ref q5, .int 0])), (q7, .inr (11, [.ref q9, .ref q10, .ref q11, .int 0])), (q13, .inl (cA14, 100, .inl (fun _ => 0))), (q15, .inr (8, [.ref q17, .int 0])), (q19, .inr (2, [.null, .null, .null, .null, .null, .null, .null, .null, .null, .null, .int 0, .int 0, .int 0]))] := hD
  refine W.widen (k := 12) (n := 2905) (Nat.le_of_ble_eq_true rfl) (Nat.le_of_ble_eq_true rfl) ?_
  refine lv_dup hx hb dX6_init_49 rfl ?_
  have hPc := hP.sub (ws' := [(q19, .inr (2, [.null, .null, .null, .null, .null, .null, .null, .null, .null, .null, .int 0, .int 0, .int 0]))]) [5] rfl
  have hDc := hD.sub (ws' := [(q19, .inr (2, [.null, .null, .null, .null, .null, .null, .null, .null, .null, .null, .int 0, .int 0, .int 0]))]) [5] (by decide) rfl
  have hKc := hK.sub (tys' := []) [] rfl
  have hFc := va_free (wc := [(q19, .inr (2, [.null, .null, .null, .null, .null, .null, .null, .null, .null, .null, .int 0, .int 0, .int 0]))]) hD hS hA [5] rfl
  refine va_callv (va_runIN (As := []) (rest := [.ref q19, .ref h0]) ⟨hx, hb, hml, hown, hts⟩ (c_X1_init l dC dI z q19 H.size) ⟨va_cnB 0 hts (ws_good e73) rfl rfl rfl (hN _ n5) (hts _ e20) ⟨by decide +kernel, by decide +kernel, by decide +kernel⟩ ⟨Nat.le_of_ble_eq_true rfl, Nat.le_of_ble_eq_true rfl⟩, rfl, (hts _ e72)⟩ ⟨pPre_blind, fun U hU hW => ⟨rfl, pPre_at hPc hKc hDc hE hS hFc U hU hW⟩⟩ rfl rfl hl.1 rfl (lv_room (Nat.le_of_ble_eq_true rfl)) dX6_init_50 ⟨Nat.le_of_ble_eq_true rfl, Nat.le_of_ble_eq_true rfl⟩) hS (fun q _ h => hFc q h) hFc (fun u31 t H1 locs ht hvm hw hB hz1 hk1 hS => ?_)
  obtain ⟨q21, q22, q23, q24, q25, q26, q27, q28, q29, q30, hP1, hK1, hD1⟩ := hB
  rw [ht] at hP1
  have hK1 := va_K.moved hvm.symm hK1
  obtain ⟨hP, hD⟩ := va_join (wr := [(h0, .inr (7, [.ref q1, .ref q7, .ref q13, .ref q15, .null, .null, .null, .null, .null, .int 0, .int 0, .int 0, .int 0, .int 0, .int 0, .int 0])), (q1, .inr (11, [.ref q3, .ref q4, .ref q5, .int 0])), (q7, .inr (11, [.ref q9, .ref q10, .ref q11, .int 0])), (q13, .inl (cA14, 100, .inl (fun _ => 0))), (q15, .inr (8, [.ref q17, .int 0]))]) (w1 := [(q19, .inr (2, [.ref q21, .ref q22, .ref q23, .ref q24, .ref q25, .ref q26, .ref q27, .ref q28, .ref q29, .ref q30, .int 0, .int 0, .int 0]))]) hP hD [5] [0, 1, 2, 3, 4] rfl rfl (by decide) (by decide) hk1 hFc hP1 hD1
  have hK := hK.app hK1
  generalize H1 = H at hP hS ⊢
  have hP : va_P (dC, dI) pcl [(h0, .inr (7, [.ref q1, .ref q7, .ref q13, .ref q15, .null, .null, .null, .null, .null, .int 0, .int 0, .int 0, .int 0, .int 0, .int 0, .int 0])), (q1, .inr (11, [.ref q3, .ref q4, .ref q5, .int 0])), (q7, .inr (11, [.ref q9, .ref q10, .ref q11, .int 0])), (q13, .inl (cA14, 100, .inl (fun _ => 0))), (q15, .inr (8, [.ref q17, .int 0])), (q19, .inr (2, [.ref q21, .ref q22, .ref q23, .ref q24, .ref q25, .ref q26, .ref q27, .ref q28, .ref q29, .ref q30, .int 0, .int 0, .int 0]))] H := hP
  have hD : va_D A [(h0, .inr (7, [.ref q1, .ref q7, .ref q13, .ref q15, .null, .null, .null, .null, .null, .int 0, .int 0, .int 0, .int 0, .int 0, .int 0, .int 0])), (q1, .inr (11, [.ref q3, .ref q4, .ref q5, .int 0])), (q7, .inr (11, [.ref q9, .ref q10, .ref q11, .int 0])), (q13, .inl (cA14, 100, .inl (fun _ => 0))), (q15, .inr (8, [.ref q17, .int 0])), (q19, .inr (2, [.ref q21, .ref q22, .ref q23, .ref q24, .ref q25, .ref q26, .ref q27, .ref q28, .ref q29, .ref q30, .int 0, .int 0, .int 0]))] := hD
  have hK : va_K (dC, dI) pcl [(cA14, .int)] s := hK
  refine W.widen (k := 22) (n := 5545) (Nat.le_of_ble_eq_true rfl) (Nat.le_of_ble_eq_true rfl) ?_
  refine va_putF (D := (dC, dI)) (ci := 7) (v := .ref q19) (ty := .object "WordFoundry$Dictionary") (C := RX6) (T := TX6) (N := 16) hx hb hts pinX6 tyX6 tyX6_ok nmX6 hown hK hP hD hS 0 rfl rfl 4 (by decide) (hts _ e74) (fun _ h9 => h9) rfl hin rfl (by decide +kernel) rfl rfl (Nat.le_of_ble_eq_true rfl) dX6_init_53 (fun H locs hP hD hS => ?_)
  have hP : va_P (dC, dI) pcl [(h0, .inr (7, [.ref q1, .ref q7, .ref q13, .ref q15, .ref q19, .null, .null, .null, .null, .int 0, .int 0, .int 0, .int 0, .int 0, .int 0, .int 0])), (q1, .inr (11, [.ref q3, .ref q4, .ref q5, .int 0])), (q7, .inr (11, [.ref q9, .ref q10, .ref q11, .int 0])), (q13, .inl (cA14, 100, .inl (fun _ => 0))), (q15, .inr (8, [.ref q17, .int 0])), (q19, .inr (2, [.ref q21, .ref q22, .ref q23, .ref q24, .ref q25, .ref q26, .ref q27, .ref q28, .ref q29, .ref q30, .int 0, .int 0, .int 0]))] H := hP
  have hD : va_D A [(h0, .inr (7, [.ref q1, .ref q7, .ref q13, .ref q15, .ref q19, .null, .null, .null, .null, .int 0, .int 0, .int 0, .int 0, .int 0, .int 0, .int 0])), (q1, .inr (11, [.ref q3, .ref q4, .ref q5, .int 0])), (q7, .inr (11, [.ref q9, .ref q10, .ref q11, .int 0])), (q13, .inl (cA14, 100, .inl (fun _ => 0))), (q15, .inr (8, [.ref q17, .int 0])), (q19, .inr (2, [.ref q21, .ref q22, .ref q23, .ref q24, .ref q25, .ref q26, .ref q27, .ref q28, .ref q29, .ref q30, .int 0, .int 0, .int 0]))] := hD
  refine lv_aload_n hx hb dX6_init_56 rfl (lv_at hl 0 rfl) ?_
  refine va_new (ci := 3) (fs := [.null, .null, .null, .null, .null, .null, .int 0, .int 0, .int 0, .int 0, .int 0]) (C := RX2) (T := TX2) (N := 11) hx hb hts pinX2 tyX2 tyX2_ok hown (hts _ e75) (hts _ e76) (hts _ e77) hK hP hD hS hA rfl (fun j hj => by rcases (show j = 0 ∨ j = 1 ∨ j = 2 ∨ j = 3 ∨ j = 4 ∨ j = 5 ∨ j = 6 ∨ j = 7 ∨ j = 8 ∨ j = 9 ∨ j = 10 by omega) with rfl | rfl | rfl | rfl | rfl | rfl | rfl | rfl | rfl | rfl | rfl <;> rfl) (Nat.le_of_ble_eq_true rfl) (Nat.le_of_ble_eq_true rfl) dX6_init_57 (fun q32 H hP hD hS => ?_)
  have hP : va_P (dC, dI) pcl [(h0, .inr (7, [.ref q1, .ref q7, .ref q13, .ref q15, .ref q19, .null, .null, .null, .null, .int 0, .int 0, .int 0, .int 0, .int 0, .int 0, .int 0])), (q1, .inr (11, [.ref q3, .ref q4, .ref q5, .int 0])), (q7, .inr (11, [.ref q9, .ref q10, .ref q11, .int 0])), (q13, .inl (cA14, 100, .inl (fun _ => 0))), (q15, .inr (8, [.ref q17, .int 0])), (q19, .inr (2, [.ref q21, .ref q22, .ref q23, .ref q24, .ref q25, .ref q26, .ref q27, .ref q28, .ref q29, .ref q30, .int 0, .int 0, .int 0])), (q32, .inr (3, [.null, .null, .null, .null, .null, .null, .int 0, .int 0, .int 0, .int 0, .int 0]))] H := hP
  have hD : va_D A [(h0, .inr (7, [.ref q1, .ref q7, .ref q13, .ref q15, .ref q19, .null, .null, .null, .null, .int 0, .int 0, .int 0, .int 0, .int 0, .int 0, .int 0])), (q1, .inr (11, [.ref q3, .ref q4, .ref q5, .int 0])), (q7, .inr (11, [.ref q9, .ref q10, .ref q11, .int 0])), (q13, .inl (cA14, 100, .inl (fun _ => 0))), (q15, .inr (8, [.ref q17, .int 0])), (q19, .inr (2, [.ref q21, .ref q22, .ref q23, .ref q24, .ref q25, .ref q26, .ref q27, .ref q28, .ref q29, .ref q30, .int 0, .int 0, .int 0])), (q32, .inr (3, [.null, .null, .null, .null, .null, .null, .int 0, .int 0, .int 0, .int 0, .int 0]))] := hD
  refine W.widen (k := 23) (n := 5556) (Nat.le_of_ble_eq_true rfl) (Nat.le_of_ble_eq_true rfl) ?_
  refine lv_dup hx hb dX6_init_60 rfl ?_
  have hPc := hP.sub (ws' := [(q32, .inr (3, [.null, .null, .null, .null, .null, .null, .int 0, .int 0, .int 0, .int 0, .int 0]))]) [6] rfl
  have hDc := hD.sub (ws' := [(q32, .inr (3, [.null, .null, .null, .null, .null, .null, .int 0, .int 0, .int 0, .int 0, .int 0]))]) [6] (by decide) rfl
  have hKc := hK.sub (tys' := []) [] rfl
  have hFc := va_free (wc := [(q32, .inr (3, [.null, .null, .null, .null, .null, .null, .int 0, .int 0, .int 0, .int 0, .int 0]))]) hD hS hA [6] rfl
  refine va_callv (va_runIN (As := []) (rest := [.ref q32, .ref h0]) ⟨hx, hb, hml, hown, hts⟩ (c_X2_init l dC dI z q32 H.size) ⟨va_cnB 0 hts (ws_good e79) rfl rfl rfl (hN _ n6) (hts _ e77) ⟨by decide +kernel, by decide +kernel, by decide +kernel⟩ ⟨Nat.le_of_ble_eq_true rfl, Nat.le_of_ble_eq_true rfl⟩, rfl, (hts _ e78)⟩ ⟨pPre_blind, fun U hU hW => ⟨rfl, pPre_at hPc hKc hDc hE hS hFc U hU hW⟩⟩ rfl rfl hl.1 rfl (lv_room (Nat.le_of_ble_eq_true rfl)) dX6_init_61 ⟨Nat.le_of_ble_eq_true rfl, Nat.le_of_ble_eq_true rfl⟩) hS (fun q _ h => hFc q h) hFc (fun u40 t H1 locs ht hvm hw hB hz1 hk1 hS => ?_)
  obtain ⟨q34, q35, q36, q37, q38, q39, hP1, hK1, hD1⟩ := hB
  rw [ht] at hP1
  have hK1 := va_K.moved hvm.symm hK1
  obtain ⟨hP, hD⟩ := va_join (wr := [(h0, .inr (7, [.ref q1, .ref q7, .ref q13, .ref q15, .ref q19, .null, .null, .null, .null, .int 0, .int 0, .int 0, .int 0, .int 0, .int 0, .int 0])), (q1, .inr (11, [.ref q3, .ref q4, .ref q5, .int 0])), (q7, .inr (11, [.ref q9, .ref q10, .ref q11, .int 0])), (q13, .inl (cA14, 100, .inl (fun _ => 0))), (q15, .inr (8, [.ref q17, .int 0])), (q19, .inr (2, [.ref q21, .ref q22, .ref q23, .ref q24, .ref q25, .ref q26, .ref q27, .ref q28, .ref q29, .ref q30, .int 0, .int 0, .int 0]))]) (w1 := [(q32, .inr (3, [.ref q34, .ref q35, .ref q36, .ref q37, .ref q38, .ref q39, .int 0, .int 0, .int 0, .int 0, .int 0]))]) hP hD [6] [0, 1, 2, 3, 4, 5] rfl rfl (by decide) (by decide) hk1 hFc hP1 hD1
  have hK := hK.app hK1
  generalize H1 = H at hP hS ⊢
  have hP : va_P (dC, dI) pcl [(h0, .inr (7, [.ref q1, .ref q7, .ref q13, .ref q15, .ref q19, .null, .null, .null, .null, .int 0, .int 0, .int 0, .int 0, .int 0, .int 0, .int 0])), (q1, .inr (11, [.ref q3, .ref q4, .ref q5, .int 0])), (q7, .inr (11, [.ref q9, .ref q10, .ref q11, .int 0])), (q13, .inl (cA14, 100, .inl (fun _ => 0))), (q15, .inr (8, [.ref q17, .int 0])), (q19, .inr (2, [.ref q21, .ref q22, .ref q23, .ref q24, .ref q25, .ref q26, .ref q27, .ref q28, .ref q29, .ref q30, .int 0, .int 0, .int 0])), (q32, .inr (3, [.ref q34, .ref q35, .ref q36, .ref q37, .ref q38, .ref q39, .int 0, .int 0, .int 0, .int 0, .int 0]))] H := hP
  have hD : va_D A [(h0, .inr (7, [.ref q1, .ref q7, .ref q13, .ref q15, .ref q19, .null, .null, .null, .null, .int 0, .int 0, .int 0, .int 0, .int 0, .int 0, .int 0])), (q1, .inr (11, [.ref q3, .ref q4, .ref q5, .int 0])), (q7, .inr (11, [.ref q9, .ref q10, .ref q11, .int 0])), (q13, .inl (cA14, 100, .inl (fun _ => 0))), (q15, .inr (8, [.ref q17, .int 0])), (q19, .inr (2, [.ref q21, .ref q22, .ref q23, .ref q24, .ref q25, .ref q26, .ref q27, .ref q28, .ref q29, .ref q30, .int 0, .int 0, .int 0])), (q32, .inr (3, [.ref q34, .ref q35, .ref q36, .ref q37, .ref q38, .ref q39, .int 0, .int 0, .int 0, .int 0, .int 0]))] := hD
  have hK : va_K (dC, dI) pcl [(cA14, .int)] s := hK
  refine W.widen (k := 29) (n := 6156) (Nat.le_of_ble_eq_true rfl) (Nat.le_of_ble_eq_true rfl) ?_
  refine va_putF (D := (dC, dI)) (ci := 7) (v := .ref q32) (ty := .object "WordFoundry$Draft") (C := RX6) (T := TX6) (N := 16) hx hb hts pinX6 tyX6 tyX6_ok nmX6 hown hK hP hD hS 0 rfl rfl 5 (by decide) (hts _ e80) (fun _ h9 => h9) rfl hin rfl (by decide +kernel) rfl rfl (Nat.le_of_ble_eq_true rfl) dX6_init_64 (fun H locs hP hD hS => ?_)
  have hP : va_P (dC, dI) pcl [(h0, .inr (7, [.ref q1, .ref q7, .ref q13, .ref q15, .ref q19, .ref q32, .null, .null, .null, .int 0, .int 0, .int 0, .int 0, .int 0, .int 0, .int 0])), (q1, .inr (11, [.ref q3, .ref q4, .ref q5, .int 0])), (q7, .inr (11, [.ref q9, .ref q10, .ref q11, .int 0])), (q13, .inl (cA14, 100, .inl (fun _ => 0))), (q15, .inr (8, [.ref q17, .int 0])), (q19, .inr (2, [.ref q21, .ref q22, .ref q23, .ref q24, .ref q25, .ref q26, .ref q27, .ref q28, .ref q29, .ref q30, .int 0, .int 0, .int 0])), (q32, .inr (3, [.ref q34, .ref q35, .ref q36, .ref q37, .ref q38, .ref q39, .int 0, .int 0, .int 0, .int 0, .int 0]))] H := hP
  have hD : va_D A [(h0, .inr (7, [.ref q1, .ref q7, .ref q13, .ref q15, .ref q19, .ref q32, .null, .null, .null, .int 0, .int 0, .int 0, .int 0, .int 0, .int 0, .int 0])), (q1, .inr (11, [.ref q3, .ref q4, .ref q5, .int 0])), (q7, .inr (11, [.ref q9, .ref q10, .ref q11, .int 0])), (q13, .inl (cA14, 100, .inl (fun _ => 0))), (q15, .inr (8, [.ref q17, .int 0])), (q19, .inr (2, [.ref q21, .ref q22, .ref q23, .ref q24, .ref q25, .ref q26, .ref q27, .ref q28, .ref q29, .ref q30, .int 0, .int 0, .int 0])), (q32, .inr (3, [.ref q34, .ref q35, .ref q36, .ref q37, .ref q38, .ref q39, .int 0, .int 0, .int 0, .int 0, .int 0]))] := hD
  refine lv_aload_n hx hb dX6_init_67 rfl (lv_at hl 0 rfl) ?_
  refine va_new (ci := 6) (fs := [.null, .null, .int 0, .int 0]) (C := RX5) (T := TX5) (N := 4) hx hb hts pinX5 tyX5 tyX5_ok hown (hts _ e81) (hts _ e82) (hts _ e83) hK hP hD hS hA rfl (fun j hj => by rcases (show j = 0 ∨ j = 1 ∨ j = 2 ∨ j = 3 by omega) with rfl | rfl | rfl | rfl <;> rfl) (Nat.le_of_ble_eq_true rfl) (Nat.le_of_ble_eq_true rfl) dX6_init_68 (fun q41 H hP hD hS => ?_)
  have hP : va_P (dC, dI) pcl [(h0, .inr (7, [.ref q1, .ref q7, .ref q13, .ref q15, .ref q19, .ref q32, .null, .null, .null, .int 0, .int 0, .int 0, .int 0, .int 0, .int 0, .int 0])), (q1, .inr (11, [.ref q3, .ref q4, .ref q5, .int 0])), (q7, .inr (11, [.ref q9, .ref q10, .ref q11, .int 0])), (q13, .inl (cA14, 100, .inl (fun _ => 0))), (q15, .inr (8, [.ref q17, .int 0])), (q19, .inr (2, [.ref q21, .ref q22, .ref q23, .ref q24, .ref q25, .ref q26, .ref q27, .ref q28, .ref q29, .ref q30, .int 0, .int 0, .int 0])), (q32, .inr (3, [.ref q34, .ref q35, .ref q36, .ref q37, .ref q38, .ref q39, .int 0, .int 0, .int 0, .int 0, .int 0])), (q41, .inr (6, [.null, .null, .int 0, .int 0]))] H := hP
  have hD : va_D A [(h0, .inr (7, [.ref q1, .ref q7, .ref q13, .ref q15, .ref q19, .ref q32, .null, .null, .null, .int 0, .int 0, .int 0, .int 0, .int 0, .int 0, .int 0])), (q1, .inr (11, [.ref q3, .ref q4, .ref q5, .int 0])), (q7, .inr (11, [.ref q9, .ref q10, .ref q11, .int 0])), (q13, .inl (cA14, 100, .inl (fun _ => 0))), (q15, .inr (8, [.ref q17, .int 0])), (q19, .inr (2, [.ref q21, .ref q22, .ref q23, .ref q24, .ref q25, .ref q26, .ref q27, .ref q28, .ref q29, .ref q30, .int 0, .int 0, .int 0])), (q32, .inr (3, [.ref q34, .ref q35, .ref q36, .ref q37, .ref q38, .ref q39, .int 0, .int 0, .int 0, .int 0, .int 0])), (q41, .inr (6, [.null, .null, .int 0, .int 0]))] := hD
  refine W.widen (k := 30) (n := 6160) (Nat.le_of_ble_eq_true rfl) (Nat.le_of_ble_eq_true rfl) ?_
  refine lv_dup hx hb dX6_init_71 rfl ?_
  have hPc := hP.sub (ws' := [(q41, .inr (6, [.null, .null, .int 0, .int 0]))]) [7] rfl
  have hDc := hD.sub (ws' := [(q41, .inr (6, [.null, .null, .int 0, .int 0]))]) [7] (by decide) rfl
  have hKc := hK.sub (tys' := []) [] rfl
  have hFc := va_free (wc := [(q41, .inr (6, [.null, .null, .int 0, .int 0]))]) hD hS hA [7] rfl
  refine va_callv (va_runIN (As := []) (rest := [.ref q41, .ref h0]) ⟨hx, hb, hml, hown, hts⟩ (c_X5_init l dC dI z q41 H.size) ⟨va_cnB 0 hts (ws_good e85) rfl rfl rfl (hN _ n7) (hts _ e83) ⟨by decide +kernel, by decide +kernel, by decide +kernel⟩ ⟨Nat.le_of_ble_eq_true rfl, Nat.le_of_ble_eq_true rfl⟩, rfl, (hts _ e84)⟩ ⟨pPre_blind, fun U hU hW => ⟨rfl, pPre_at hPc hKc hDc hE hS hFc U hU hW⟩⟩ rfl rfl hl.1 rfl (lv_room (Nat.le_of_ble_eq_true rfl)) dX6_init_72 ⟨Nat.le_of_ble_eq_true rfl, Nat.le_of_ble_eq_true rfl⟩) hS (fun q _ h => hFc q h) hFc (fun u47 t H1 locs ht hvm hw hB hz1 hk1 hS => ?_)
  obtain ⟨q43, q44, cA45, cA46, hP1, hK1, hD1⟩ := hB
  rw [ht] at hP1
  have hK1 := va_K.moved hvm.symm hK1
  obtain ⟨hP, hD⟩ := va_join (wr := [(h0, .inr (7, [.ref q1, .ref q7, .ref q13, .ref q15, .ref q19, .ref q32, .null, .null, .null, .int 0, .int 0, .int 0, .int 0, .int 0, .int 0, .int 0])), (q1, .inr (11, [.ref q3, .ref q4, .ref q5, .int 0])), (q7, .inr (11, [.ref q9, .ref q10, .ref q11, .int 0])), (q13, .inl (cA14, 100, .inl (fun _ => 0))), (q15, .inr (8, [.ref q17, .int 0])), (q19, .inr (2, [.ref q21, .ref q22, .ref q23, .ref q24, .ref q25, .ref q26, .ref q27, .ref q28, .ref q29, .ref q30, .int 0, .int 0, .int 0])), (q32, .inr (3, [.ref q34, .ref q35, .ref q36, .ref q37, .ref q38, .ref q39, .int 0, .int 0, .int 0, .int 0, .int 0]))]) (w1 := [(q41, .inr (6, [.ref q43, .ref q44, .int 0, .int 0])), (q43, .inl (cA45, 40, .inl (fun _ => 0))), (q44, .inl (cA46, 40, .inl (fun _ => 0)))]) hP hD [7] [0, 1, 2, 3, 4, 5, 6] rfl rfl (by decide) (by decide) hk1 hFc hP1 hD1
  have hK := hK.app hK1
  generalize H1 = H at hP hS ⊢
  have hP : va_P (dC, dI) pcl [(h0, .inr (7, [.ref q1, .ref q7, .ref q13, .ref q15, .ref q19, .ref q32, .null, .null, .null, .int 0, .int 0, .int 0, .int 0, .int 0, .int 0, .int 0])), (q1, .inr (11, [.ref q3, .ref q4, .ref q5, .int 0])), (q7, .inr (11, [.ref q9, .ref q10, .ref q11, .int 0])), (q13, .inl (cA14, 100, .inl (fun _ => 0))), (q15, .inr (8, [.ref q17, .int 0])), (q19, .inr (2, [.ref q21, .ref q22, .ref q23, .ref q24, .ref q25, .ref q26, .ref q27, .ref q28, .ref q29, .ref q30, .int 0, .int 0, .int 0])), (q32, .inr (3, [.ref q34, .ref q35, .ref q36, .ref q37, .ref q38, .ref q39, .int 0, .int 0, .int 0, .int 0, .int 0])), (q41, .inr (6, [.ref q43, .ref q44, .int 0, .int 0])), (q43, .inl (cA45, 40, .inl (fun _ => 0))), (q44, .inl (cA46, 40, .inl (fun _ => 0)))] H := hP
  have hD : va_D A [(h0, .inr (7, [.ref q1, .ref q7, .ref q13, .ref q15, .ref q19, .ref q32, .null, .null, .null, .int 0, .int 0, .int 0, .int 0, .int 0, .int 0, .int 0])), (q1, .inr (11, [.ref q3, .ref q4, .ref q5, .int 0])), (q7, .inr (11, [.ref q9, .ref q10, .ref q11, .int 0])), (q13, .inl (cA14, 100, .inl (fun _ => 0))), (q15, .inr (8, [.ref q17, .int 0])), (q19, .inr (2, [.ref q21, .ref q22, .ref q23, .ref q24, .ref q25, .ref q26, .ref q27, .ref q28, .ref q29, .ref q30, .int 0, .int 0, .int 0])), (q32, .inr (3, [.ref q34, .ref q35, .ref q36, .ref q37, .ref q38, .ref q39, .int 0, .int 0, .int 0, .int 0, .int 0])), (q41, .inr (6, [.ref q43, .ref q44, .int 0, .int 0])), (q43, .inl (cA45, 40, .inl (fun _ => 0))), (q44, .inl (cA46, 40, .inl (fun _ => 0)))] := hD
  have hK : va_K (dC, dI) pcl [(cA14, .int), (cA45, .int), (cA46, .int)] s := hK
  refine W.widen (k := 32) (n := 6240) (Nat.le_of_ble_eq_true rfl) (Nat.le_of_ble_eq_true rfl) ?_
  refine va_putF (D := (dC, dI)) (ci := 7) (v := .ref q41) (ty := .object "WordFoundry$Line") (C := RX6) (T := TX6) (N := 16) hx hb hts pinX6 tyX6 tyX6_ok nmX6 hown hK hP hD hS 0 rfl rfl 6 (by decide) (hts _ e86) (fun _ h9 => h9) rfl hin rfl (by decide +kernel) rfl rfl (Nat.le_of_ble_eq_true rfl) dX6_init_75 (fun H locs hP hD hS => ?_)
  have hP : va_P (dC, dI) pcl [(h0, .inr (7, [.ref q1, .ref q7, .ref q13, .ref q15, .ref q19, .ref q32, .ref q41, .null, .null, .int 0, .int 0, .int 0, .int 0, .int 0, .int 0, .int 0])), (q1, .inr (11, [.ref q3, .ref q4, .ref q5, .int 0])), (q7, .inr (11, [.ref q9, .ref q10, .ref q11, .int 0])), (q13, .inl (cA14, 100, .inl (fun _ => 0))), (q15, .inr (8, [.ref q17, .int 0])), (q19, .inr (2, [.ref q21, .ref q22, .ref q23, .ref q24, .ref q25, .ref q26, .ref q27, .ref q28, .ref q29, .ref q30, .int 0, .int 0, .int 0])), (q32, .inr (3, [.ref q34, .ref q35, .ref q36, .ref q37, .ref q38, .ref q39, .int 0, .int 0, .int 0, .int 0, .int 0])), (q41, .inr (6, [.ref q43, .ref q44, .int 0, .int 0])), (q43, .inl (cA45, 40, .inl (fun _ => 0))), (q44, .inl (cA46, 40, .inl (fun _ => 0)))] H := hP
  have hD : va_D A [(h0, .inr (7, [.ref q1, .ref q7, .ref q13, .ref q15, .ref q19, .ref q32, .ref q41, .null, .null, .int 0, .int 0, .int 0, .int 0, .int 0, .int 0, .int 0])), (q1, .inr (11, [.ref q3, .ref q4, .ref q5, .int 0])), (q7, .inr (11, [.ref q9, .ref q10, .ref q11, .int 0])), (q13, .inl (cA14, 100, .inl (fun _ => 0))), (q15, .inr (8, [.ref q17, .int 0])), (q19, .inr (2, [.ref q21, .ref q22, .ref q23, .ref q24, .ref q25, .ref q26, .ref q27, .ref q28, .ref q29, .ref q30, .int 0, .int 0, .int 0])), (q32, .inr (3, [.ref q34, .ref q35, .ref q36, .ref q37, .ref q38, .ref q39, .int 0, .int 0, .int 0, .int 0, .int 0])), (q41, .inr (6, [.ref q43, .ref q44, .int 0, .int 0])), (q43, .inl (cA45, 40, .inl (fun _ => 0))), (q44, .inl (cA46, 40, .inl (fun _ => 0)))] := hD
  refine lv_aload_n hx hb dX6_init_78 rfl (lv_at hl 0 rfl) ?_
  refine lv_bipush (v := 30) hx hb dX6_init_79 (by decide) ?_
  refine va_newa (atype := .int) (N' := 30) (a0 := (30, .inl (fun _ => 0))) hx hb (hts _ e3) rfl hK hP hD hS hA (fun _ => rfl) (by decide) (by decide) (Nat.le_of_ble_eq_true rfl) (Nat.le_of_ble_eq_true rfl) (Nat.le_of_ble_eq_true rfl) dX6_init_81 (fun q48 cA49 H hK hP hD hS => ?_)
  have hP : va_P (dC, dI) pcl [(h0, .inr (7, [.ref q1, .ref q7, .ref q13, .ref q15, .ref q19, .ref q32, .ref q41, .null, .null, .int 0, .int 0, .int 0, .int 0, .int 0, .int 0, .int 0])), (q1, .inr (11, [.ref q3, .ref q4, .ref q5, .int 0])), (q7, .inr (11, [.ref q9, .ref q10, .ref q11, .int 0])), (q13, .inl (cA14, 100, .inl (fun _ => 0))), (q15, .inr (8, [.ref q17, .int 0])), (q19, .inr (2, [.ref q21, .ref q22, .ref q23, .ref q24, .ref q25, .ref q26, .ref q27, .ref q28, .ref q29, .ref q30, .int 0, .int 0, .int 0])), (q32, .inr (3, [.ref q34, .ref q35, .ref q36, .ref q37, .ref q38, .ref q39, .int 0, .int 0, .int 0, .int 0, .int 0])), (q41, .inr (6, [.ref q43, .ref q44, .int 0, .int 0])), (q43, .inl (cA45, 40, .inl (fun _ => 0))), (q44, .inl (cA46, 40, .inl (fun _ => 0))), (q48, .inl (cA49, 30, .inl (fun _ => 0)))] H := hP
  have hD : va_D A [(h0, .inr (7, [.ref q1, .ref q7, .ref q13, .ref q15, .ref q19, .ref q32, .ref q41, .null, .null, .int 0, .int 0, .int 0, .int 0, .int 0, .int 0, .int 0])), (q1, .inr (11, [.ref q3, .ref q4, .ref q5, .int 0])), (q7, .inr (11, [.ref q9, .ref q10, .ref q11, .int 0])), (q13, .inl (cA14, 100, .inl (fun _ => 0))), (q15, .inr (8, [.ref q17, .int 0])), (q19, .inr (2, [.ref q21, .ref q22, .ref q23, .ref q24, .ref q25, .ref q26, .ref q27, .ref q28, .ref q29, .ref q30, .int 0, .int 0, .int 0])), (q32, .inr (3, [.ref q34, .ref q35, .ref q36, .ref q37, .ref q38, .ref q39, .int 0, .int 0, .int 0, .int 0, .int 0])), (q41, .inr (6, [.ref q43, .ref q44, .int 0, .int 0])), (q43, .inl (cA45, 40, .inl (fun _ => 0))), (q44, .inl (cA46, 40, .inl (fun _ => 0))), (q48, .inl (cA49, 30, .inl (fun _ => 0)))] := hD
  have hK : va_K (dC, dI) pcl [(cA14, .int), (cA45, .int), (cA46, .int), (cA49, .int)] s := hK
  refine W.widen (k := 33) (n := 6270) (Nat.le_of_ble_eq_true rfl) (Nat.le_of_ble_eq_true rfl) ?_
  refine va_putF (D := (dC, dI)) (ci := 7) (v := .ref q48) (ty := .array .int) (C := RX6) (T := TX6) (N := 16) hx hb hts pinX6 tyX6 tyX6_ok nmX6 hown hK hP hD hS 0 rfl rfl 7 (by decide) (hts _ e87) (fun _ h9 => h9) rfl hin rfl (by decide +kernel) rfl rfl (Nat.le_of_ble_eq_true rfl) dX6_init_83 (fun H locs hP hD hS => ?_)
  have hP : va_P (dC, dI) pcl [(h0, .inr (7, [.ref q1, .ref q7, .ref q13, .ref q15, .ref q19, .ref q32, .ref q41, .ref q48, .null, .int 0, .int 0, .int 0, .int 0, .int 0, .int 0, .int 0])), (q1, .inr (11, [.ref q3, .ref q4, .ref q5, .int 0])), (q7, .inr (11, [.ref q9, .ref q10, .ref q11, .int 0])), (q13, .inl (cA14, 100, .inl (fun _ => 0))), (q15, .inr (8, [.ref q17, .int 0])), (q19, .inr (2, [.ref q21, .ref q22, .ref q23, .ref q24, .ref q25, .ref q26, .ref q27, .ref q28, .ref q29, .ref q30, .int 0, .int 0, .int 0])), (q32, .inr (3, [.ref q34, .ref q35, .ref q36, .ref q37, .ref q38, .ref q39, .int 0, .int 0, .int 0, .int 0, .int 0])), (q41, .inr (6, [.ref q43, .ref q44, .int 0, .int 0])), (q43, .inl (cA45, 40, .inl (fun _ => 0))), (q44, .inl (cA46, 40, .inl (fun _ => 0))), (q48, .inl (cA49, 30, .inl (fun _ => 0)))] H := hP
  have hD : va_D A [(h0, .inr (7, [.ref q1, .ref q7, .ref q13, .ref q15, .ref q19, .ref q32, .ref q41, .ref q48, .null, .int 0, .int 0, .int 0, .int 0, .int 0, .int 0, .int 0])), (q1, .inr (11, [.ref q3, .ref q4, .ref q5, .int 0])), (q7, .inr (11, [.ref q9, .ref q10, .ref q11, .int 0])), (q13, .inl (cA14, 100, .inl (fun _ => 0))), (q15, .inr (8, [.ref q17, .int 0])), (q19, .inr (2, [.ref q21, .ref q22, .ref q23, .ref q24, .ref q25, .ref q26, .ref q27, .ref q28, .ref q29, .ref q30, .int 0, .int 0, .int 0])), (q32, .inr (3, [.ref q34, .ref q35, .ref q36, .ref q37, .ref q38, .ref q39, .int 0, .int 0, .int 0, .int 0, .int 0])), (q41, .inr (6, [.ref q43, .ref q44, .int 0, .int 0])), (q43, .inl (cA45, 40, .inl (fun _ => 0))), (q44, .inl (cA46, 40, .inl (fun _ => 0))), (q48, .inl (cA49, 30, .inl (fun _ => 0)))] := hD
  refine lv_aload_n hx hb dX6_init_86 rfl (lv_at hl 0 rfl) ?_
  refine lv_bipush (v := 30) hx hb dX6_init_87 (by decide) ?_
  refine va_newa (atype := .int) (N' := 30) (a0 := (30, .inl (fun _ => 0))) hx hb (hts _ e3) rfl hK hP hD hS hA (fun _ => rfl) (by decide) (by decide) (Nat.le_of_ble_eq_true rfl) (Nat.le_of_ble_eq_true rfl) (Nat.le_of_ble_eq_true rfl) dX6_init_89 (fun q50 cA51 H hK hP hD hS => ?_)
  have hP : va_P (dC, dI) pcl [(h0, .inr (7, [.ref q1, .ref q7, .ref q13, .ref q15, .ref q19, .ref q32, .ref q41, .ref q48, .null, .int 0, .int 0, .int 0, .int 0, .int 0, .int 0, .int 0])), (q1, .inr (11, [.ref q3, .ref q4, .ref q5, .int 0])), (q7, .inr (11, [.ref q9, .ref q10, .ref q11, .int 0])), (q13, .inl (cA14, 100, .inl (fun _ => 0))), (q15, .inr (8, [.ref q17, .int 0])), (q19, .inr (2, [.ref q21, .ref q22, .ref q23, .ref q24, .ref q25, .ref q26, .ref q27, .ref q28, .ref q29, .ref q30, .int 0, .int 0, .int 0])), (q32, .inr (3, [.ref q34, .ref q35, .ref q36, .ref q37, .ref q38, .ref q39, .int 0, .int 0, .int 0, .int 0, .int 0])), (q41, .inr (6, [.ref q43, .ref q44, .int 0, .int 0])), (q43, .inl (cA45, 40, .inl (fun _ => 0))), (q44, .inl (cA46, 40, .inl (fun _ => 0))), (q48, .inl (cA49, 30, .inl (fun _ => 0))), (q50, .inl (cA51, 30, .inl (fun _ => 0)))] H := hP
  have hD : va_D A [(h0, .inr (7, [.ref q1, .ref q7, .ref q13, .ref q15, .ref q19, .ref q32, .ref q41, .ref q48, .null, .int 0, .int 0, .int 0, .int 0, .int 0, .int 0, .int 0])), (q1, .inr (11, [.ref q3, .ref q4, .ref q5, .int 0])), (q7, .inr (11, [.ref q9, .ref q10, .ref q11, .int 0])), (q13, .inl (cA14, 100, .inl (fun _ => 0))), (q15, .inr (8, [.ref q17, .int 0])), (q19, .inr (2, [.ref q21, .ref q22, .ref q23, .ref q24, .ref q25, .ref q26, .ref q27, .ref q28, .ref q29, .ref q30, .int 0, .int 0, .int 0])), (q32, .inr (3, [.ref q34, .ref q35, .ref q36, .ref q37, .ref q38, .ref q39, .int 0, .int 0, .int 0, .int 0, .int 0])), (q41, .inr (6, [.ref q43, .ref q44, .int 0, .int 0])), (q43, .inl (cA45, 40, .inl (fun _ => 0))), (q44, .inl (cA46, 40, .inl (fun _ => 0))), (q48, .inl (cA49, 30, .inl (fun _ => 0))), (q50, .inl (cA51, 30, .inl (fun _ => 0)))] := hD
  have hK : va_K (dC, dI) pcl [(cA14, .int), (cA45, .int), (cA46, .int), (cA49, .int), (cA51, .int)] s := hK
  refine W.widen (k := 34) (n := 6300) (Nat.le_of_ble_eq_true rfl) (Nat.le_of_ble_eq_true rfl) ?_
  refine va_putF (D := (dC, dI)) (ci := 7) (v := .ref q50) (ty := .array .int) (C := RX6) (T := TX6) (N := 16) hx hb hts pinX6 tyX6 tyX6_ok nmX6 hown hK hP hD hS 0 rfl rfl 8 (by decide) (hts _ e88) (fun _ h9 => h9) rfl hin rfl (by decide +kernel) rfl rfl (Nat.le_of_ble_eq_true rfl) dX6_init_91 (fun H locs hP hD hS => ?_)
  have hP : va_P (dC, dI) pcl [(h0, .inr (7, [.ref q1, .ref q7, .ref q13, .ref q15, .ref q19, .ref q32, .ref q41, .ref q48, .ref q50, .int 0, .int 0, .int 0, .int 0, .int 0, .int 0, .int 0])), (q1, .inr (11, [.ref q3, .ref q4, .ref q5, .int 0])), (q7, .inr (11, [.ref q9, .ref q10, .ref q11, .int 0])), (q13, .inl (cA14, 100, .inl (fun _ => 0))), (q15, .inr (8, [.ref q17, .int 0])), (q19, .inr (2, [.ref q21, .ref q22, .ref q23, .ref q24, .ref q25, .ref q26, .ref q27, .ref q28, .ref q29, .ref q30, .int 0, .int 0, .int 0])), (q32, .inr (3, [.ref q34, .ref q35, .ref q36, .ref q37, .ref q38, .ref q39, .int 0, .int 0, .int 0, .int 0, .int 0])), (q41, .inr (6, [.ref q43, .ref q44, .int 0, .int 0])), (q43, .inl (cA45, 40, .inl (fun _ => 0))), (q44, .inl (cA46, 40, .inl (fun _ => 0))), (q48, .inl (cA49, 30, .inl (fun _ => 0))), (q50, .inl (cA51, 30, .inl (fun _ => 0)))] H := hP
  have hD : va_D A [(h0, .inr (7, [.ref q1, .ref q7, .ref q13, .ref q15, .ref q19, .ref q32, .ref q41, .ref q48, .ref q50, .int 0, .int 0, .int 0, .int 0, .int 0, .int 0, .int 0])), (q1, .inr (11, [.ref q3, .ref q4, .ref q5, .int 0])), (q7, .inr (11, [.ref q9, .ref q10, .ref q11, .int 0])), (q13, .inl (cA14, 100, .inl (fun _ => 0))), (q15, .inr (8, [.ref q17, .int 0])), (q19, .inr (2, [.ref q21, .ref q22, .ref q23, .ref q24, .ref q25, .ref q26, .ref q27, .ref q28, .ref q29, .ref q30, .int 0, .int 0, .int 0])), (q32, .inr (3, [.ref q34, .ref q35, .ref q36, .ref q37, .ref q38, .ref q39, .int 0, .int 0, .int 0, .int 0, .int 0])), (q41, .inr (6, [.ref q43, .ref q44, .int 0, .int 0])), (q43, .inl (cA45, 40, .inl (fun _ => 0))), (q44, .inl (cA46, 40, .inl (fun _ => 0))), (q48, .inl (cA49, 30, .inl (fun _ => 0))), (q50, .inl (cA51, 30, .inl (fun _ => 0)))] := hD
  refine lv_aload_n hx hb dX6_init_94 rfl (lv_at hl 0 rfl) ?_
  refine lv_iload_n hx hb dX6_init_95 rfl (lv_at hl 1 rfl) ?_
  refine va_putF (D := (dC, dI)) (ci := 7) (v := .int most) (ty := .int) (C := RX6) (T := TX6) (N := 16) hx hb hts pinX6 tyX6 tyX6_ok nmX6 hown hK hP hD hS 0 rfl rfl 9 (by decide) (hts _ e89) (fun _ h9 => h9) rfl hin rfl (by decide +kernel) rfl rfl (Nat.le_of_ble_eq_true rfl) dX6_init_96 (fun H locs hP hD hS => ?_)
  have hP : va_P (dC, dI) pcl [(h0, .inr (7, [.ref q1, .ref q7, .ref q13, .ref q15, .ref q19, .ref q32, .ref q41, .ref q48, .ref q50, .int most, .int 0, .int 0, .int 0, .int 0, .int 0, .int 0])), (q1, .inr (11, [.ref q3, .ref q4, .ref q5, .int 0])), (q7, .inr (11, [.ref q9, .ref q10, .ref q11, .int 0])), (q13, .inl (cA14, 100, .inl (fun _ => 0))), (q15, .inr (8, [.ref q17, .int 0])), (q19, .inr (2, [.ref q21, .ref q22, .ref q23, .ref q24, .ref q25, .ref q26, .ref q27, .ref q28, .ref q29, .ref q30, .int 0, .int 0, .int 0])), (q32, .inr (3, [.ref q34, .ref q35, .ref q36, .ref q37, .ref q38, .ref q39, .int 0, .int 0, .int 0, .int 0, .int 0])), (q41, .inr (6, [.ref q43, .ref q44, .int 0, .int 0])), (q43, .inl (cA45, 40, .inl (fun _ => 0))), (q44, .inl (cA46, 40, .inl (fun _ => 0))), (q48, .inl (cA49, 30, .inl (fun _ => 0))), (q50, .inl (cA51, 30, .inl (fun _ => 0)))] H := hP
  have hD : va_D A [(h0, .inr (7, [.ref q1, .ref q7, .ref q13, .ref q15, .ref q19, .ref q32, .ref q41, .ref q48, .ref q50, .int most, .int 0, .int 0, .int 0, .int 0, .int 0, .int 0])), (q1, .inr (11, [.ref q3, .ref q4, .ref q5, .int 0])), (q7, .inr (11, [.ref q9, .ref q10, .ref q11, .int 0])), (q13, .inl (cA14, 100, .inl (fun _ => 0))), (q15, .inr (8, [.ref q17, .int 0])), (q19, .inr (2, [.ref q21, .ref q22, .ref q23, .ref q24, .ref q25, .ref q26, .ref q27, .ref q28, .ref q29, .ref q30, .int 0, .int 0, .int 0])), (q32, .inr (3, [.ref q34, .ref q35, .ref q36, .ref q37, .ref q38, .ref q39, .int 0, .int 0, .int 0, .int 0, .int 0])), (q41, .inr (6, [.ref q43, .ref q44, .int 0, .int 0])), (q43, .inl (cA45, 40, .inl (fun _ => 0))), (q44, .inl (cA46, 40, .inl (fun _ => 0))), (q48, .inl (cA49, 30, .inl (fun _ => 0))), (q50, .inl (cA51, 30, .inl (fun _ => 0)))] := hD
  have hP9 := hP.sub (ws' := [(h0, .inr (7, [.ref q1, .ref q7, .ref q13, .ref q15, .ref q19, .ref q32, .ref q41, .ref q48, .ref q50, .int most, .int 0, .int 0, .int 0, .int 0, .int 0, .int 0])), (q1, .inr (11, [.ref q3, .ref q4, .ref q5, .int 0])), (q7, .inr (11, [.ref q9, .ref q10, .ref q11, .int 0])), (q13, .inl (cA14, 100, .inl (fun _ => 0))), (q15, .inr (8, [.ref q17, .int 0])), (q19, .inr (2, [.ref q21, .ref q22, .ref q23, .ref q24, .ref q25, .ref q26, .ref q27, .ref q28, .ref q29, .ref q30, .int 0, .int 0, .int 0])), (q32, .inr (3, [.ref q34, .ref q35, .ref q36, .ref q37, .ref q38, .ref q39, .int 0, .int 0, .int 0, .int 0, .int 0])), (q41, .inr (6, [.ref q43, .ref q44, .int 0, .int 0])), (q43, .inl (cA45, 40, .inl (fun _ => 0))), (q44, .inl (cA46, 40, .inl (fun _ => 0)))]) [0, 1, 2, 3, 4, 5, 6, 7, 8, 9] rfl
  have hD9 := hD.sub (ws' := [(h0, .inr (7, [.ref q1, .ref q7, .ref q13, .ref q15, .ref q19, .ref q32, .ref q41, .ref q48, .ref q50, .int most, .int 0, .int 0, .int 0, .int 0, .int 0, .int 0])), (q1, .inr (11, [.ref q3, .ref q4, .ref q5, .int 0])), (q7, .inr (11, [.ref q9, .ref q10, .ref q11, .int 0])), (q13, .inl (cA14, 100, .inl (fun _ => 0))), (q15, .inr (8, [.ref q17, .int 0])), (q19, .inr (2, [.ref q21, .ref q22, .ref q23, .ref q24, .ref q25, .ref q26, .ref q27, .ref q28, .ref q29, .ref q30, .int 0, .int 0, .int 0])), (q32, .inr (3, [.ref q34, .ref q35, .ref q36, .ref q37, .ref q38, .ref q39, .int 0, .int 0, .int 0, .int 0, .int 0])), (q41, .inr (6, [.ref q43, .ref q44, .int 0, .int 0])), (q43, .inl (cA45, 40, .inl (fun _ => 0))), (q44, .inl (cA46, 40, .inl (fun _ => 0)))]) [0, 1, 2, 3, 4, 5, 6, 7, 8, 9] (by decide) rfl
  have hK9 := hK.sub (tys' := [(cA14, .int), (cA45, .int), (cA46, .int)]) [0, 1, 2] rfl
  refine W.widen (k := 34) (n := 6300) (Nat.le_of_ble_eq_true rfl) (Nat.le_of_ble_eq_true rfl) ?_
  exact W.vret hx hb hr (fun t ht hW => ⟨⟨(), rfl, trivial, q1, q7, q13, q15, q19, q32, q41, q48, q50, q3, q4, q5, q9, q10, q11, q17, q21, q22, q23, q24, q25, q26, q27, q28, q29, q30, q34, q35, q36, q37, q38, q39, q43, q44, cA14, cA45, cA46, by rw [ht]; exact hP9, va_K.moved hW.alike hK9, hD9⟩, hS.F ht⟩) hS.2.2 dX6_init_99
set_option maxHeartbeats 4000000 in
set_option maxRecDepth 100000 in
theorem c_X0_set0 (l : Launch) (dC : Nat → ClassId) (dI : Nat → Nat → Nat) (z : pG) (h0 : Nat) (a1 : Nat) (cB : ClassId) (f : Nat → Int32) (sz : Nat) : Met l yX0_set (ws_ yX0_set cX0_set 4 none) ({ frames := 0, cells := 0, slots := 0, locals := 0 }) (va_Pc [.ref h0, .int 101, .int 0] (pPre z dC dI [(h0, .inr (1, [.ref a1])), (a1, .inl (cB, 864, .inl f))] [(cB, .int)] sz)) (va_Qv (fun (_ : Unit) => True) (fun _ t => ∃ (f2 : Nat → Int32), pPost dC dI (va_A [(h0, .inr (1, [.ref a1])), (a1, .inl (cB, 864, .inl f))] sz) [(h0, .inr (1, [.ref a1])), (a1, .inl (cB, 864, .inl f2))] [(cB, .int)] t) (va_A [(h0, .inr (1, [.ref a1])), (a1, .inl (cB, 864, .inl f))] sz)) 0 0 (va_A [(h0, .inr (1, [.ref a1])), (a1, .inl (cB, 864, .inl f))] sz) := by
  refine Met.ofW (cc := cX0_set) (maxL := 4) (ret := none) (by decide) rfl ?_
  intro p e s m args below meth c s₁ B hml hv
  obtain ⟨rfl, hsz, hP, hK, hD0, hE⟩ := hv
  have hx := B.exec
  have hb := B.bytes
  have hr := B.returns
  have hts0 := atoms_spec (ws := ws_ yX0_set cX0_set 4 none) B.pre
  have hts := fun (w : Cond) (h : w ∈ pw) => hts0 w (List.mem_cons_of_mem _ h)
  have hown : s.vm.findClass RX0 = some m.cls := findClass_of_methodNamed B.named
  have hlocks := B.notSynchronized
  subst hsz
  have hD := hD0.self (sz := s.heap.size)
  generalize hAe : va_A [(h0, .inr (1, [.ref a1])), (a1, .inl (cB, 864, .inl f))] s.heap.size = A at hD hE ⊢
  have hA : ∀ q : Nat, s.heap.size ≤ q → A q := fun q h => by rw [← hAe]; exact Or.inr h
  have hS : va_S A s.heap s.heap [] := va_S.rf
  have hN := hE.1
  have hP : va_P (dC, dI) pcl [(h0, .inr (1, [.ref a1])), (a1, .inl (cB, 864, .inl f))] s.heap := hP
  have hl := lv_entry ([.ref h0, .int 101, .int 0]) (n := 4) (Nat.le_of_ble_eq_true rfl)
  rw [lg_entry_eq]
  generalize (lg_sl ([.ref h0, .int 101, .int 0]) ++ List.replicate (4 - (lg_sl ([.ref h0, .int 101, .int 0])).length) Slot.unset).toArray = ls at hl ⊢
  have hl : lv_has ls 4 [(0, .ref h0), (1, .int 101), (2, .int 0)] := hl
  obtain ⟨H, hH0⟩ : ∃ H, H = s.heap := ⟨_, rfl⟩
  rw [← hH0] at hP ⊢
  have hS : va_S A s.heap H [] := by rw [hH0]; exact hS
  refine lv_aload_n hx hb dX0_set_0 rfl (lv_at hl 0 rfl) ?_
  refine va_get (D := (dC, dI)) (ci := 1) (v := .ref a1) (C := RX0) (T := TX0) (N := 1) hx hb hts pinX0 hown hK hP 0 rfl rfl 0 (by decide) (hts _ e4) (fun _ h9 => h9) rfl dX0_set_1 ?_
  refine lv_iload_n hx hb dX0_set_4 rfl (lv_at hl 1 rfl) ?_
  refine lv_bipush (v := 8) hx hb dX0_set_5 (by decide) ?_
  refine lv_imul hx hb dX0_set_7 ?_
  refine W.eq (g2 := F0 m 8 ls [.int 808, .ref a1]) (by rfl) ?_
  refine lv_iload_n hx hb dX0_set_8 rfl (lv_at hl 2 rfl) ?_
  refine va_iast hx hb hK hP hD hS 1 0 rfl rfl (by unfold vp_in; decide) dX0_set_9 (fun H locs hP hD hS => ?_)
  obtain ⟨f1, ef1⟩ : ∃ f9, f9 = upd f (808 : Int32).toNatClampNeg 0 := ⟨_, rfl⟩
  rw [← ef1] at hP hD
  have hP : va_P (dC, dI) pcl [(h0, .inr (1, [.ref a1])), (a1, .inl (cB, 864, .inl f1))] H := hP
  have hD : va_D A [(h0, .inr (1, [.ref a1])), (a1, .inl (cB, 864, .inl f1))] := hD
  refine lv_iconst (v := 1) hx hb dX0_set_10 (by decide) ?_
  refine lv_istore_n (lv' := [(3, .int 1), (0, .ref h0), (1, .int 101), (2, .int 0)]) hx hb dX0_set_11 rfl hl (by decide) rfl (fun ls hl => ?_)
  refine lv_iload_n hx hb dX0_set_12 rfl (lv_at hl 0 rfl) ?_
  refine lv_bipush (v := 8) hx hb dX0_set_13 (by decide) ?_
  refine lv_icmp_ge (tgt := 44) hx hb dX0_set_15 (by decide) (fun h9 => absurd h9 (by decide)) (fun _ => ?_)
  refine lv_aload_n hx hb dX0_set_18 rfl (lv_at hl 1 rfl) ?_
  refine va_get (D := (dC, dI)) (ci := 1) (v := .ref a1) (C := RX0) (T := TX0) (N := 1) hx hb hts pinX0 hown hK hP 0 rfl rfl 0 (by decide) (hts _ e4) (fun _ h9 => h9) rfl dX0_set_19 ?_
  refine lv_iload_n hx hb dX0_set_22 rfl (lv_at hl 2 rfl) ?_
  refine lv_bipush (v := 8) hx hb dX0_set_23 (by decide) ?_
  refine lv_imul hx hb dX0_set_25 ?_
  refine W.eq (g2 := F0 m 26 ls [.int 808, .ref a1]) (by rfl) ?_
  refine lv_iload_n hx hb dX0_set_26 rfl (lv_at hl 0 rfl) ?_
  refine lv_iadd hx hb dX0_set_27 ?_
  refine W.eq (g2 := F0 m 28 ls [.int 809, .ref a1]) (by rfl) ?_
  refine lv_iload_n hx hb dX0_set_28 rfl (lv_at hl 3 rfl) ?_
  refine lv_if_ge (tgt := 36) hx hb dX0_set_29 (by decide) (fun _ => ?_) (fun h9 => absurd (by decide) h9)
  refine lv_iconst (v := 0) hx hb dX0_set_36 (by decide) ?_
  refine va_iast hx hb hK hP hD hS 1 0 rfl rfl (by unfold vp_in; decide) dX0_set_37 (fun H locs hP hD hS => ?_)
  obtain ⟨f2, ef2⟩ : ∃ f9, f9 = upd f1 (809 : Int32).toNatClampNeg 0 := ⟨_, rfl⟩
  rw [← ef2] at hP hD
  have hP : va_P (dC, dI) pcl [(h0, .inr (1, [.ref a1])), (a1, .inl (cB, 864, .inl f2))] H := hP
  have hD : va_D A [(h0, .inr (1, [.ref a1])), (a1, .inl (cB, 864, .inl f2))] := hD
  refine lv_iinc (v := 2) (lv' := [(3, .int 2), (0, .ref h0), (1, .int 101), (2, .int 0)]) hx hb dX0_set_38 hl (k := 0) rfl (by decide) (by decide) rfl (fun ls hl => ?_)
  refine lv_goto (tgt := 12) hx hb dX0_set_41 (by decide) ?_
  refine lv_iload_n hx hb dX0_set_12 rfl (lv_at hl 0 rfl) ?_
  refine lv_bipush (v := 8) hx hb dX0_set_13 (by decide) ?_
  refine lv_icmp_ge (tgt := 44) hx hb dX0_set_15 (by decide) (fun h9 => absurd h9 (by decide)) (fun _ => ?_)
  refine lv_aload_n hx hb dX0_set_18 rfl (lv_at hl 1 rfl) ?_
  refine va_get (D := (dC, dI)) (ci := 1) (v := .ref a1) (C := RX0) (T := TX0) (N := 1) hx hb hts pinX0 hown hK hP 0 rfl rfl 0 (by decide) (hts _ e4) (fun _ h9 => h9) rfl dX0_set_19 ?_
  refine lv_iload_n hx hb dX0_set_22 rfl (lv_at hl 2 rfl) ?_
  refine lv_bipush (v := 8) hx hb dX0_set_23 (by decide) ?_
  refine lv_imul hx hb dX0_set_25 ?_
  refine W.eq (g2 := F0 m 26 ls [.int 808, .ref a1]) (by rfl) ?_
  refine lv_iload_n hx hb dX0_set_26 rfl (lv_at hl 0 rfl) ?_
  refine lv_iadd hx hb dX0_set_27 ?_
  refine W.eq (g2 := F0 m 28 ls [.int 810, .ref a1]) (by rfl) ?_
  refine lv_iload_n hx hb dX0_set_28 rfl (lv_at hl 3 rfl) ?_
  refine lv_if_ge (tgt := 36) hx hb dX0_set_29 (by decide) (fun _ => ?_) (fun h9 => absurd (by decide) h9)
  refine lv_iconst (v := 0) hx hb dX0_set_36 (by decide) ?_
  refine va_iast hx hb hK hP hD hS 1 0 rfl rfl (by unfold vp_in; decide) dX0_set_37 (fun H locs hP hD hS => ?_)
  obtain ⟨f3, ef3⟩ : ∃ f9, f9 = upd f2 (810 : Int32).toNatClampNeg 0 := ⟨_, rfl⟩
  rw [← ef3] at hP hD
  have hP : va_P (dC, dI) pcl [(h0, .inr (1, [.ref a1])), (a1, .inl (cB, 864, .inl f3))] H := hP
  have hD : va_D A [(h0, .inr (1, [.ref a1])), (a1, .inl (cB, 864, .inl f3))] := hD
  refine lv_iinc (v := 3) (lv' := [(3, .int 3), (0, .ref h0), (1, .int 101), (2, .int 0)]) hx hb dX0_set_38 hl (k := 0) rfl (by decide) (by decide) rfl (fun ls hl => ?_)
  refine lv_goto (tgt := 12) hx hb dX0_set_41 (by decide) ?_
  refine lv_iload_n hx hb dX0_set_12 rfl (lv_at hl 0 rfl) ?_
  refine lv_bipush (v := 8) hx hb dX0_set_13 (by decide) ?_
  refine lv_icmp_ge (tgt := 44) hx hb dX0_set_15 (by decide) (fun h9 => absurd h9 (by decide)) (fun _ => ?_)
  refine lv_aload_n hx hb dX0_set_18 rfl (lv_at hl 1 rfl) ?_
  refine va_get (D := (dC, dI)) (ci := 1) (v := .ref a1) (C := RX0) (T := TX0) (N := 1) hx hb hts pinX0 hown hK hP 0 rfl rfl 0 (by decide) (hts _ e4) (fun _ h9 => h9) rfl dX0_set_19 ?_
  refine lv_iload_n hx hb dX0_set_22 rfl (lv_at hl 2 rfl) ?_
  refine lv_bipush (v := 8) hx hb dX0_set_23 (by decide) ?_
  refine lv_imul hx hb dX0_set_25 ?_
  refine W.eq (g2 := F0 m 26 ls [.int 808, .ref a1]) (by rfl) ?_
  refine lv_iload_n hx hb dX0_set_26 rfl (lv_at hl 0 rfl) ?_
  refine lv_iadd hx hb dX0_set_27 ?_
  refine W.eq (g2 := F0 m 28 ls [.int 811, .ref a1]) (by rfl) ?_
  refine lv_iload_n hx hb dX0_set_28 rfl (lv_at hl 3 rfl) ?_
  refine lv_if_ge (tgt := 36) hx hb dX0_set_29 (by decide) (fun _ => ?_) (fun h9 => absurd (by decide) h9)
  refine lv_iconst (v := 0) hx hb dX0_set_36 (by decide) ?_
  refine va_iast hx hb hK hP hD hS 1 0 rfl rfl (by unfold vp_in; decide) dX0_set_37 (fun H locs hP hD hS => ?_)
  obtain ⟨f4, ef4⟩ : ∃ f9, f9 = upd f3 (811 : Int32).toNatClampNeg 0 := ⟨_, rfl⟩
  rw [← ef4] at hP hD
  have hP : va_P (dC, dI) pcl [(h0, .inr (1, [.ref a1])), (a1, .inl (cB, 864, .inl f4))] H := hP
  have hD : va_D A [(h0, .inr (1, [.ref a1])), (a1, .inl (cB, 864, .inl f4))] := hD
  refine lv_iinc (v := 4) (lv' := [(3, .int 4), (0, .ref h0), (1, .int 101), (2, .int 0)]) hx hb dX0_set_38 hl (k := 0) rfl (by decide) (by decide) rfl (fun ls hl => ?_)
  refine lv_goto (tgt := 12) hx hb dX0_set_41 (by decide) ?_
  refine lv_iload_n hx hb dX0_set_12 rfl (lv_at hl 0 rfl) ?_
  refine lv_bipush (v := 8) hx hb dX0_set_13 (by decide) ?_
  refine lv_icmp_ge (tgt := 44) hx hb dX0_set_15 (by decide) (fun h9 => absurd h9 (by decide)) (fun _ => ?_)
  refine lv_aload_n hx hb dX0_set_18 rfl (lv_at hl 1 rfl) ?_
  refine va_get (D := (dC, dI)) (ci := 1) (v := .ref a1) (C := RX0) (T := TX0) (N := 1) hx hb hts pinX0 hown hK hP 0 rfl rfl 0 (by decide) (hts _ e4) (fun _ h9 => h9) rfl dX0_set_19 ?_
  refine lv_iload_n hx hb dX0_set_22 rfl (lv_at hl 2 rfl) ?_
  refine lv_bipush (v := 8) hx hb dX0_set_23 (by decide) ?_
  refine lv_imul hx hb dX0_set_25 ?_
  refine W.eq (g2 := F0 m 26 ls [.int 808, .ref a1]) (by rfl) ?_
  refine lv_iload_n hx hb dX0_set_26 rfl (lv_at hl 0 rfl) ?_
  refine lv_iadd hx hb dX0_set_27 ?_
  refine W.eq (g2 := F0 m 28 ls [.int 812, .ref a1]) (by rfl) ?_
  refine lv_iload_n hx hb dX0_set_28 rfl (lv_at hl 3 rfl) ?_
  refine lv_if_ge (tgt := 36) hx hb dX0_set_29 (by decide) (fun _ => ?_) (fun h9 => absurd (by decide) h9)
  refine lv_iconst (v := 0) hx hb dX0_set_36 (by decide) ?_
  refine va_iast hx hb hK hP hD hS 1 0 rfl rfl (by unfold vp_in; decide) dX0_set_37 (fun H locs hP hD hS => ?_)
  obtain ⟨f5, ef5⟩ : ∃ f9, f9 = upd f4 (812 : Int32).toNatClampNeg 0 := ⟨_, rfl⟩
  rw [← ef5] at hP hD
  have hP : va_P (dC, dI) pcl [(h0, .inr (1, [.ref a1])), (a1, .inl (cB, 864, .inl f5))] H := hP
  have hD : va_D A [(h0, .inr (1, [.ref a1])), (a1, .inl (cB, 864, .inl f5))] := hD
  refine lv_iinc (v := 5) (lv' := [(3, .int 5), (0, .ref h0), (1, .int 101), (2, .int 0)]) hx hb dX0_set_38 hl (k := 0) rfl (by decide) (by decide) rfl (fun ls hl => ?_)
  refine lv_goto (tgt := 12) hx hb dX0_set_41 (by decide) ?_
  refine lv_iload_n hx hb dX0_set_12 rfl (lv_at hl 0 rfl) ?_
  refine lv_bipush (v := 8) hx hb dX0_set_13 (by decide) ?_
  refine lv_icmp_ge (tgt := 44) hx hb dX0_set_15 (by decide) (fun h9 => absurd h9 (by decide)) (fun _ => ?_)
  refine lv_aload_n hx hb dX0_set_18 rfl (lv_at hl 1 rfl) ?_
  refine va_get (D := (dC, dI)) (ci := 1) (v := .ref a1) (C := RX0) (T := TX0) (N := 1) hx hb hts pinX0 hown hK hP 0 rfl rfl 0 (by decide) (hts _ e4) (fun _ h9 => h9) rfl dX0_set_19 ?_
  refine lv_iload_n hx hb dX0_set_22 rfl (lv_at hl 2 rfl) ?_
  refine lv_bipush (v := 8) hx hb dX0_set_23 (by decide) ?_
  refine lv_imul hx hb dX0_set_25 ?_
  refine W.eq (g2 := F0 m 26 ls [.int 808, .ref a1]) (by rfl) ?_
  refine lv_iload_n hx hb dX0_set_26 rfl (lv_at hl 0 rfl) ?_
  refine lv_iadd hx hb dX0_set_27 ?_
  refine W.eq (g2 := F0 m 28 ls [.int 813, .ref a1]) (by rfl) ?_
  refine lv_iload_n hx hb dX0_set_28 rfl (lv_at hl 3 rfl) ?_
  refine lv_if_ge (tgt := 36) hx hb dX0_set_29 (by decide) (fun _ => ?_) (fun h9 => absurd (by decide) h9)
  refine lv_iconst (v := 0) hx hb dX0_set_36 (by decide) ?_
  refine va_iast hx hb hK hP hD hS 1 0 rfl rfl (by unfold vp_in; decide) dX0_set_37 (fun H locs hP hD hS => ?_)
  obtain ⟨f6, ef6⟩ : ∃ f9, f9 = upd f5 (813 : Int32).toNatClampNeg 0 := ⟨_, rfl⟩
  rw [← ef6] at hP hD
  have hP : va_P (dC, dI) pcl [(h0, .inr (1, [.ref a1])), (a1, .inl (cB, 864, .inl f6))] H := hP
  have hD : va_D A [(h0, .inr (1, [.ref a1])), (a1, .inl (cB, 864, .inl f6))] := hD
  refine lv_iinc (v := 6) (lv' := [(3, .int 6), (0, .ref h0), (1, .int 101), (2, .int 0)]) hx hb dX0_set_38 hl (k := 0) rfl (by decide) (by decide) rfl (fun ls hl => ?_)
  refine lv_goto (tgt := 12) hx hb dX0_set_41 (by decide) ?_
  refine lv_iload_n hx hb dX0_set_12 rfl (lv_at hl 0 rfl) ?_
  refine lv_bipush (v := 8) hx hb dX0_set_13 (by decide) ?_
  refine lv_icmp_ge (tgt := 44) hx hb dX0_set_15 (by decide) (fun h9 => absurd h9 (by decide)) (fun _ => ?_)
  refine lv_aload_n hx hb dX0_set_18 rfl (lv_at hl 1 rfl) ?_
  refine va_get (D := (dC, dI)) (ci := 1) (v := .ref a1) (C := RX0) (T := TX0) (N := 1) hx hb hts pinX0 hown hK hP 0 rfl rfl 0 (by decide) (hts _ e4) (fun _ h9 => h9) rfl dX0_set_19 ?_
  refine lv_iload_n hx hb dX0_set_22 rfl (lv_at hl 2 rfl) ?_
  refine lv_bipush (v := 8) hx hb dX0_set_23 (by decide) ?_
  refine lv_imul hx hb dX0_set_25 ?_
  refine W.eq (g2 := F0 m 26 ls [.int 808, .ref a1]) (by rfl) ?_
  refine lv_iload_n hx hb dX0_set_26 rfl (lv_at hl 0 rfl) ?_
  refine lv_iadd hx hb dX0_set_27 ?_
  refine W.eq (g2 := F0 m 28 ls [.int 814, .ref a1]) (by rfl) ?_
  refine lv_iload_n hx hb dX0_set_28 rfl (lv_at hl 3 rfl) ?_
  refine lv_if_ge (tgt := 36) hx hb dX0_set_29 (by decide) (fun _ => ?_) (fun h9 => absurd (by decide) h9)
  refine lv_iconst (v := 0) hx hb dX0_set_36 (by decide) ?_
  refine va_iast hx hb hK hP hD hS 1 0 rfl rfl (by unfold vp_in; decide) dX0_set_37 (fun H locs hP hD hS => ?_)
  obtain ⟨f7, ef7⟩ : ∃ f9, f9 = upd f6 (814 : Int32).toNatClampNeg 0 := ⟨_, rfl⟩
  rw [← ef7] at hP hD
  have hP : va_P (dC, dI) pcl [(h0, .inr (1, [.ref a1])), (a1, .inl (cB, 864, .inl f7))] H := hP
  have hD : va_D A [(h0, .inr (1, [.ref a1])), (a1, .inl (cB, 864, .inl f7))] := hD
  refine lv_iinc (v := 7) (lv' := [(3, .int 7), (0, .ref h0), (1, .int 101), (2, .int 0)]) hx hb dX0_set_38 hl (k := 0) rfl (by decide) (by decide) rfl (fun ls hl => ?_)
  refine lv_goto (tgt := 12) hx hb dX0_set_41 (by decide) ?_
  refine lv_iload_n hx hb dX0_set_12 rfl (lv_at hl 0 rfl) ?_
  refine lv_bipush (v := 8) hx hb dX0_set_13 (by decide) ?_
  refine lv_icmp_ge (tgt := 44) hx hb dX0_set_15 (by decide) (fun h9 => absurd h9 (by decide)) (fun _ => ?_)
  refine lv_aload_n hx hb dX0_set_18 rfl (lv_at hl 1 rfl) ?_
  refine va_get (D := (dC, dI)) (ci := 1) (v := .ref a1) (C := RX0) (T := TX0) (N := 1) hx hb hts pinX0 hown hK hP 0 rfl rfl 0 (by decide) (hts _ e4) (fun _ h9 => h9) rfl dX0_set_19 ?_
  refine lv_iload_n hx hb dX0_set_22 rfl (lv_at hl 2 rfl) ?_
  refine lv_bipush (v := 8) hx hb dX0_set_23 (by decide) ?_
  refine lv_imul hx hb dX0_set_25 ?_
  refine W.eq (g2 := F0 m 26 ls [.int 808, .ref a1]) (by rfl) ?_
  refine lv_iload_n hx hb dX0_set_26 rfl (lv_at hl 0 rfl) ?_
  refine lv_iadd hx hb dX0_set_27 ?_
  refine W.eq (g2 := F0 m 28 ls [.int 815, .ref a1]) (by rfl) ?_
  refine lv_iload_n hx hb dX0_set_28 rfl (lv_at hl 3 rfl) ?_
  refine lv_if_ge (tgt := 36) hx hb dX0_set_29 (by decide) (fun _ => ?_) (fun h9 => absurd (by decide) h9)
  refine lv_iconst (v := 0) hx hb dX0_set_36 (by decide) ?_
  refine va_iast hx hb hK hP hD hS 1 0 rfl rfl (by unfold vp_in; decide) dX0_set_37 (fun H locs hP hD hS => ?_)
  obtain ⟨f8, ef8⟩ : ∃ f9, f9 = upd f7 (815 : Int32).toNatClampNeg 0 := ⟨_, rfl⟩
  rw [← ef8] at hP hD
  have hP : va_P (dC, dI) pcl [(h0, .inr (1, [.ref a1])), (a1, .inl (cB, 864, .inl f8))] H := hP
  have hD : va_D A [(h0, .inr (1, [.ref a1])), (a1, .inl (cB, 864, .inl f8))] := hD
  refine lv_iinc (v := 8) (lv' := [(3, .int 8), (0, .ref h0), (1, .int 101), (2, .int 0)]) hx hb dX0_set_38 hl (k := 0) rfl (by decide) (by decide) rfl (fun ls hl => ?_)
  refine lv_goto (tgt := 12) hx hb dX0_set_41 (by decide) ?_
  refine lv_iload_n hx hb dX0_set_12 rfl (lv_at hl 0 rfl) ?_
  refine lv_bipush (v := 8) hx hb dX0_set_13 (by decide) ?_
  refine lv_icmp_ge (tgt := 44) hx hb dX0_set_15 (by decide) (fun _ => ?_) (fun h9 => absurd (by decide) h9)
  have hP9 := hP.sub (ws' := [(h0, .inr (1, [.ref a1])), (a1, .inl (cB, 864, .inl f8))]) [0, 1] rfl
  have hD9 := hD.sub (ws' := [(h0, .inr (1, [.ref a1])), (a1, .inl (cB, 864, .inl f8))]) [0, 1] (by decide) rfl
  have hK9 := hK.sub (tys' := [(cB, .int)]) [0] rfl
  refine W.widen (k := 0) (n := 0) (Nat.le_of_ble_eq_true rfl) (Nat.le_of_ble_eq_true rfl) ?_
  exact W.vret hx hb hr (fun t ht hW => ⟨⟨(), rfl, trivial, f8, by rw [ht]; exact hP9, va_K.moved hW.alike hK9, hD9⟩, hS.F ht⟩) hS.2.2 dX0_set_44
set_option maxHeartbeats 4000000 in
set_option maxRecDepth 100000 in
theorem c_X0_set1 (l : Launch) (dC : Nat → ClassId) (dI : Nat → Nat → Nat) (z : pG) (h0 : Nat) (a1 : Nat) (cB : ClassId) (f : Nat → Int32) (sz : Nat) : Met l yX0_set (ws_ yX0_set cX0_set 4 none) ({ frames := 0, cells := 0, slots := 0, locals := 0 }) (va_Pc [.ref h0, .int 102, .int 1] (pPre z dC dI [(h0, .inr (1, [.ref a1])), (a1, .inl (cB, 864, .inl f))] [(cB, .int)] sz)) (va_Qv (fun (_ : Unit) => True) (fun _ t => ∃ (f2 : Nat → Int32), pPost dC dI (va_A [(h0, .inr (1, [.ref a1])), (a1, .inl (cB, 864, .inl f))] sz) [(h0, .inr (1, [.ref a1])), (a1, .inl (cB, 864, .inl f2))] [(cB, .int)] t) (va_A [(h0, .inr (1, [.ref a1])), (a1, .inl (cB, 864, .inl f))] sz)) 0 0 (va_A [(h0, .inr (1, [.ref a1])), (a1, .inl (cB, 864, .inl f))] sz) := by
  refine Met.ofW (cc := cX0_set) (maxL := 4) (ret := none) (by decide) rfl ?_
  intro p e s m args below meth c s₁ B hml hv
  obtain ⟨rfl, hsz, hP, hK, hD0, hE⟩ := hv
  have hx := B.exec
  have hb := B.bytes
  have hr := B.returns
  have hts0 := atoms_spec (ws := ws_ yX0_set cX0_set 4 none) B.pre
  have hts := fun (w : Cond) (h : w ∈ pw) => hts0 w (List.mem_cons_of_mem _ h)
  have hown : s.vm.findClass RX0 = some m.cls := findClass_of_methodNamed B.named
  have hlocks := B.notSynchronized
  subst hsz
  have hD := hD0.self (sz := s.heap.size)
  generalize hAe : va_A [(h0, .inr (1, [.ref a1])), (a1, .inl (cB, 864, .inl f))] s.heap.size = A at hD hE ⊢
  have hA : ∀ q : Nat, s.heap.size ≤ q → A q := fun q h => by rw [← hAe]; exact Or.inr h
  have hS : va_S A s.heap s.heap [] := va_S.rf
  have hN := hE.1
  have hP : va_P (dC, dI) pcl [(h0, .inr (1, [.ref a1])), (a1, .inl (cB, 864, .inl f))] s.heap := hP
  have hl := lv_entry ([.ref h0, .int 102, .int 1]) (n := 4) (Nat.le_of_ble_eq_true rfl)
  rw [lg_entry_eq]
  generalize (lg_sl ([.ref h0, .int 102, .int 1]) ++ List.replicate (4 - (lg_sl ([.ref h0, .int 102, .int 1])).length) Slot.unset).toArray = ls at hl ⊢
  have hl : lv_has ls 4 [(0, .ref h0), (1, .int 102), (2, .int 1)] := hl
  obtain ⟨H, hH0⟩ : ∃ H, H = s.heap := ⟨_, rfl⟩
  rw [← hH0] at hP ⊢
  have hS : va_S A s.heap H [] := by rw [hH0]; exact hS
  refine lv_aload_n hx hb dX0_set_0 rfl (lv_at hl 0 rfl) ?_
  refine va_get (D := (dC, dI)) (ci := 1) (v := .ref a1) (C := RX0) (T := TX0) (N := 1) hx hb hts pinX0 hown hK hP 0 rfl rfl 0 (by decide) (hts _ e4) (fun _ h9 => h9) rfl dX0_set_1 ?_
  refine lv_iload_n hx hb dX0_set_4 rfl (lv_at hl 1 rfl) ?_
  refine lv_bipush (v := 8) hx hb dX0_set_5 (by decide) ?_
  refine lv_imul hx hb dX0_set_7 ?_
  refine W.eq (g2 := F0 m 8 ls [.int 816, .ref a1]) (by rfl) ?_
  refine lv_iload_n hx hb dX0_set_8 rfl (lv_at hl 2 rfl) ?_
  refine va_iast hx hb hK hP hD hS 1 0 rfl rfl (by unfold vp_in; decide) dX0_set_9 (fun H locs hP hD hS => ?_)
  obtain ⟨f1, ef1⟩ : ∃ f9, f9 = upd f (816 : Int32).toNatClampNeg 1 := ⟨_, rfl⟩
  rw [← ef1] at hP hD
  have hP : va_P (dC, dI) pcl [(h0, .inr (1, [.ref a1])), (a1, .inl (cB, 864, .inl f1))] H := hP
  have hD : va_D A [(h0, .inr (1, [.ref a1])), (a1, .inl (cB, 864, .inl f1))] := hD
  refine lv_iconst (v := 1) hx hb dX0_set_10 (by decide) ?_
  refine lv_istore_n (lv' := [(3, .int 1), (0, .ref h0), (1, .int 102), (2, .int 1)]) hx hb dX0_set_11 rfl hl (by decide) rfl (fun ls hl => ?_)
  refine lv_iload_n hx hb dX0_set_12 rfl (lv_at hl 0 rfl) ?_
  refine lv_bipush (v := 8) hx hb dX0_set_13 (by decide) ?_
  refine lv_icmp_ge (tgt := 44) hx hb dX0_set_15 (by decide) (fun h9 => absurd h9 (by decide)) (fun _ => ?_)
  refine lv_aload_n hx hb dX0_set_18 rfl (lv_at hl 1 rfl) ?_
  refine va_get (D := (dC, dI)) (ci := 1) (v := .ref a1) (C := RX0) (T := TX0) (N := 1) hx hb hts pinX0 hown hK hP 0 rfl rfl 0 (by decide) (hts _ e4) (fun _ h9 => h9) rfl dX0_set_19 ?_
  refine lv_iload_n hx hb dX0_set_22 rfl (lv_at hl 2 rfl) ?_
  refine lv_bipush (v := 8) hx hb dX0_set_23 (by decide) ?_
  refine lv_imul hx hb dX0_set_25 ?_
  refine W.eq (g2 := F0 m 26 ls [.int 816, .ref a1]) (by rfl) ?_
  refine lv_iload_n hx hb dX0_set_26 rfl (lv_at hl 0 rfl) ?_
  refine lv_iadd hx hb dX0_set_27 ?_
  refine W.eq (g2 := F0 m 28 ls [.int 817, .ref a1]) (by rfl) ?_
  refine lv_iload_n hx hb dX0_set_28 rfl (lv_at hl 3 rfl) ?_
  refine lv_if_ge (tgt := 36) hx hb dX0_set_29 (by decide) (fun _ => ?_) (fun h9 => absurd (by decide) h9)
  refine lv_iconst (v := 0) hx hb dX0_set_36 (by decide) ?_
  refine va_iast hx hb hK hP hD hS 1 0 rfl rfl (by unfold vp_in; decide) dX0_set_37 (fun H locs hP hD hS => ?_)
  obtain ⟨f2, ef2⟩ : ∃ f9, f9 = upd f1 (817 : Int32).toNatClampNeg 0 := ⟨_, rfl⟩
  rw [← ef2] at hP hD
  have hP : va_P (dC, dI) pcl [(h0, .inr (1, [.ref a1])), (a1, .inl (cB, 864, .inl f2))] H := hP
  have hD : va_D A [(h0, .inr (1, [.ref a1])), (a1, .inl (cB, 864, .inl f2))] := hD
  refine lv_iinc (v := 2) (lv' := [(3, .int 2), (0, .ref h0), (1, .int 102), (2, .int 1)]) hx hb dX0_set_38 hl (k := 0) rfl (by decide) (by decide) rfl (fun ls hl => ?_)
  refine lv_goto (tgt := 12) hx hb dX0_set_41 (by decide) ?_
  refine lv_iload_n hx hb dX0_set_12 rfl (lv_at hl 0 rfl) ?_
  refine lv_bipush (v := 8) hx hb dX0_set_13 (by decide) ?_
  refine lv_icmp_ge (tgt := 44) hx hb dX0_set_15 (by decide) (fun h9 => absurd h9 (by decide)) (fun _ => ?_)
  refine lv_aload_n hx hb dX0_set_18 rfl (lv_at hl 1 rfl) ?_
  refine va_get (D := (dC, dI)) (ci := 1) (v := .ref a1) (C := RX0) (T := TX0) (N := 1) hx hb hts pinX0 hown hK hP 0 rfl rfl 0 (by decide) (hts _ e4) (fun _ h9 => h9) rfl dX0_set_19 ?_
  refine lv_iload_n hx hb dX0_set_22 rfl (lv_at hl 2 rfl) ?_
  refine lv_bipush (v := 8) hx hb dX0_set_23 (by decide) ?_
  refine lv_imul hx hb dX0_set_25 ?_
  refine W.eq (g2 := F0 m 26 ls [.int 816, .ref a1]) (by rfl) ?_
  refine lv_iload_n hx hb dX0_set_26 rfl (lv_at hl 0 rfl) ?_
  refine lv_iadd hx hb dX0_set_27 ?_
  refine W.eq (g2 := F0 m 28 ls [.int 818, .ref a1]) (by rfl) ?_
  refine lv_iload_n hx hb dX0_set_28 rfl (lv_at hl 3 rfl) ?_
  refine lv_if_ge (tgt := 36) hx hb dX0_set_29 (by decide) (fun _ => ?_) (fun h9 => absurd (by decide) h9)
  refine lv_iconst (v := 0) hx hb dX0_set_36 (by decide) ?_
  refine va_iast hx hb hK hP hD hS 1 0 rfl rfl (by unfold vp_in; decide) dX0_set_37 (fun H locs hP hD hS => ?_)
  obtain ⟨f3, ef3⟩ : ∃ f9, f9 = upd f2 (818 : Int32).toNatClampNeg 0 := ⟨_, rfl⟩
  rw [← ef3] at hP hD
  have hP : va_P (dC, dI) pcl [(h0, .inr (1, [.ref a1])), (a1, .inl (cB, 864, .inl f3))] H := hP
  have hD : va_D A [(h0, .inr (1, [.ref a1])), (a1, .inl (cB, 864, .inl f3))] := hD
  refine lv_iinc (v := 3) (lv' := [(3, .int 3), (0, .ref h0), (1, .int 102), (2, .int 1)]) hx hb dX0_set_38 hl (k := 0) rfl (by decide) (by decide) rfl (fun ls hl => ?_)
  refine lv_goto (tgt := 12) hx hb dX0_set_41 (by decide) ?_
  refine lv_iload_n hx hb dX0_set_12 rfl (lv_at hl 0 rfl) ?_
  refine lv_bipush (v := 8) hx hb dX0_set_13 (by decide) ?_
  refine lv_icmp_ge (tgt := 44) hx hb dX0_set_15 (by decide) (fun h9 => absurd h9 (by decide)) (fun _ => ?_)
  refine lv_aload_n hx hb dX0_set_18 rfl (lv_at hl 1 rfl) ?_
  refine va_get (D := (dC, dI)) (ci := 1) (v := .ref a1) (C := RX0) (T := TX0) (N := 1) hx hb hts pinX0 hown hK hP 0 rfl rfl 0 (by decide) (hts _ e4) (fun _ h9 => h9) rfl dX0_set_19 ?_
  refine lv_iload_n hx hb dX0_set_22 rfl (lv_at hl 2 rfl) ?_
  refine lv_bipush (v := 8) hx hb dX0_set_23 (by decide) ?_
  refine lv_imul hx hb dX0_set_25 ?_
  refine W.eq (g2 := F0 m 26 ls [.int 816, .ref a1]) (by rfl) ?_
  refine lv_iload_n hx hb dX0_set_26 rfl (lv_at hl 0 rfl) ?_
  refine lv_iadd hx hb dX0_set_27 ?_
  refine W.eq (g2 := F0 m 28 ls [.int 819, .ref a1]) (by rfl) ?_
  refine lv_iload_n hx hb dX0_set_28 rfl (lv_at hl 3 rfl) ?_
  refine lv_if_ge (tgt := 36) hx hb dX0_set_29 (by decide) (fun _ => ?_) (fun h9 => absurd (by decide) h9)
  refine lv_iconst (v := 0) hx hb dX0_set_36 (by decide) ?_
  refine va_iast hx hb hK hP hD hS 1 0 rfl rfl (by unfold vp_in; decide) dX0_set_37 (fun H locs hP hD hS => ?_)
  obtain ⟨f4, ef4⟩ : ∃ f9, f9 = upd f3 (819 : Int32).toNatClampNeg 0 := ⟨_, rfl⟩
  rw [← ef4] at hP hD
  have hP : va_P (dC, dI) pcl [(h0, .inr (1, [.ref a1])), (a1, .inl (cB, 864, .inl f4))] H := hP
  have hD : va_D A [(h0, .inr (1, [.ref a1])), (a1, .inl (cB, 864, .inl f4))] := hD
  refine lv_iinc (v := 4) (lv' := [(3, .int 4), (0, .ref h0), (1, .int 102), (2, .int 1)]) hx hb dX0_set_38 hl (k := 0) rfl (by decide) (by decide) rfl (fun ls hl => ?_)
  refine lv_goto (tgt := 12) hx hb dX0_set_41 (by decide) ?_
  refine lv_iload_n hx hb dX0_set_12 rfl (lv_at hl 0 rfl) ?_
  refine lv_bipush (v := 8) hx hb dX0_set_13 (by decide) ?_
  refine lv_icmp_ge (tgt := 44) hx hb dX0_set_15 (by decide) (fun h9 => absurd h9 (by decide)) (fun _ => ?_)
  refine lv_aload_n hx hb dX0_set_18 rfl (lv_at hl 1 rfl) ?_
  refine va_get (D := (dC, dI)) (ci := 1) (v := .ref a1) (C := RX0) (T := TX0) (N := 1) hx hb hts pinX0 hown hK hP 0 rfl rfl 0 (by decide) (hts _ e4) (fun _ h9 => h9) rfl dX0_set_19 ?_
  refine lv_iload_n hx hb dX0_set_22 rfl (lv_at hl 2 rfl) ?_
  refine lv_bipush (v := 8) hx hb dX0_set_23 (by decide) ?_
  refine lv_imul hx hb dX0_set_25 ?_
  refine W.eq (g2 := F0 m 26 ls [.int 816, .ref a1]) (by rfl) ?_
  refine lv_iload_n hx hb dX0_set_26 rfl (lv_at hl 0 rfl) ?_
  refine lv_iadd hx hb dX0_set_27 ?_
  refine W.eq (g2 := F0 m 28 ls [.int 820, .ref a1]) (by rfl) ?_
  refine lv_iload_n hx hb dX0_set_28 rfl (lv_at hl 3 rfl) ?_
  refine lv_if_ge (tgt := 36) hx hb dX0_set_29 (by decide) (fun _ => ?_) (fun h9 => absurd (by decide) h9)
  refine lv_iconst (v := 0) hx hb dX0_set_36 (by decide) ?_
  refine va_iast hx hb hK hP hD hS 1 0 rfl rfl (by unfold vp_in; decide) dX0_set_37 (fun H locs hP hD hS => ?_)
  obtain ⟨f5, ef5⟩ : ∃ f9, f9 = upd f4 (820 : Int32).toNatClampNeg 0 := ⟨_, rfl⟩
  rw [← ef5] at hP hD
  have hP : va_P (dC, dI) pcl [(h0, .inr (1, [.ref a1])), (a1, .inl (cB, 864, .inl f5))] H := hP
  have hD : va_D A [(h0, .inr (1, [.ref a1])), (a1, .inl (cB, 864, .inl f5))] := hD
  refine lv_iinc (v := 5) (lv' := [(3, .int 5), (0, .ref h0), (1, .int 102), (2, .int 1)]) hx hb dX0_set_38 hl (k := 0) rfl (by decide) (by decide) rfl (fun ls hl => ?_)
  refine lv_goto (tgt := 12) hx hb dX0_set_41 (by decide) ?_
  refine lv_iload_n hx hb dX0_set_12 rfl (lv_at hl 0 rfl) ?_
  refine lv_bipush (v := 8) hx hb dX0_set_13 (by decide) ?_
  refine lv_icmp_ge (tgt := 44) hx hb dX0_set_15 (by decide) (fun h9 => absurd h9 (by decide)) (fun _ => ?_)
  refine lv_aload_n hx hb dX0_set_18 rfl (lv_at hl 1 rfl) ?_
  refine va_get (D := (dC, dI)) (ci := 1) (v := .ref a1) (C := RX0) (T := TX0) (N := 1) hx hb hts pinX0 hown hK hP 0 rfl rfl 0 (by decide) (hts _ e4) (fun _ h9 => h9) rfl dX0_set_19 ?_
  refine lv_iload_n hx hb dX0_set_22 rfl (lv_at hl 2 rfl) ?_
  refine lv_bipush (v := 8) hx hb dX0_set_23 (by decide) ?_
  refine lv_imul hx hb dX0_set_25 ?_
  refine W.eq (g2 := F0 m 26 ls [.int 816, .ref a1]) (by rfl) ?_
  refine lv_iload_n hx hb dX0_set_26 rfl (lv_at hl 0 rfl) ?_
  refine lv_iadd hx hb dX0_set_27 ?_
  refine W.eq (g2 := F0 m 28 ls [.int 821, .ref a1]) (by rfl) ?_
  refine lv_iload_n hx hb dX0_set_28 rfl (lv_at hl 3 rfl) ?_
  refine lv_if_ge (tgt := 36) hx hb dX0_set_29 (by decide) (fun _ => ?_) (fun h9 => absurd (by decide) h9)
  refine lv_iconst (v := 0) hx hb dX0_set_36 (by decide) ?_
  refine va_iast hx hb hK hP hD hS 1 0 rfl rfl (by unfold vp_in; decide) dX0_set_37 (fun H locs hP hD hS => ?_)
  obtain ⟨f6, ef6⟩ : ∃ f9, f9 = upd f5 (821 : Int32).toNatClampNeg 0 := ⟨_, rfl⟩
  rw [← ef6] at hP hD
  have hP : va_P (dC, dI) pcl [(h0, .inr (1, [.ref a1])), (a1, .inl (cB, 864, .inl f6))] H := hP
  have hD : va_D A [(h0, .inr (1, [.ref a1])), (a1, .inl (cB, 864, .inl f6))] := hD
  refine lv_iinc (v := 6) (lv' := [(3, .int 6), (0, .ref h0), (1, .int 102), (2, .int 1)]) hx hb dX0_set_38 hl (k := 0) rfl (by decide) (by decide) rfl (fun ls hl => ?_)
  refine lv_goto (tgt := 12) hx hb dX0_set_41 (by decide) ?_
  refine lv_iload_n hx hb dX0_set_12 rfl (lv_at hl 0 rfl) ?_
  refine lv_bipush (v := 8) hx hb dX0_set_13 (by decide) ?_
  refine lv_icmp_ge (tgt := 44) hx hb dX0_set_15 (by decide) (fun h9 => absurd h9 (by decide)) (fun _ => ?_)
  refine lv_aload_n hx hb dX0_set_18 rfl (lv_at hl 1 rfl) ?_
  refine va_get (D := (dC, dI)) (ci := 1) (v := .ref a1) (C := RX0) (T := TX0) (N := 1) hx hb hts pinX0 hown hK hP 0 rfl rfl 0 (by decide) (hts _ e4) (fun _ h9 => h9) rfl dX0_set_19 ?_
  refine lv_iload_n hx hb dX0_set_22 rfl (lv_at hl 2 rfl) ?_
  refine lv_bipush (v := 8) hx hb dX0_set_23 (by decide) ?_
  refine lv_imul hx hb dX0_set_25 ?_
  refine W.eq (g2 := F0 m 26 ls [.int 816, .ref a1]) (by rfl) ?_
  refine lv_iload_n hx hb dX0_set_26 rfl (lv_at hl 0 rfl) ?_
  refine lv_iadd hx hb dX0_set_27 ?_
  refine W.eq (g2 := F0 m 28 ls [.int 822, .ref a1]) (by rfl) ?_
  refine lv_iload_n hx hb dX0_set_28 rfl (lv_at hl 3 rfl) ?_
  refine lv_if_ge (tgt := 36) hx hb dX0_set_29 (by decide) (fun _ => ?_) (fun h9 => absurd (by decide) h9)
  refine lv_iconst (v := 0) hx hb dX0_set_36 (by decide) ?_
  refine va_iast hx hb hK hP hD hS 1 0 rfl rfl (by unfold vp_in; decide) dX0_set_37 (fun H locs hP hD hS => ?_)
  obtain ⟨f7, ef7⟩ : ∃ f9, f9 = upd f6 (822 : Int32).toNatClampNeg 0 := ⟨_, rfl⟩
  rw [← ef7] at hP hD
  have hP : va_P (dC, dI) pcl [(h0, .inr (1, [.ref a1])), (a1, .inl (cB, 864, .inl f7))] H := hP
  have hD : va_D A [(h0, .inr (1, [.ref a1])), (a1, .inl (cB, 864, .inl f7))] := hD
  refine lv_iinc (v := 7) (lv' := [(3, .int 7), (0, .ref h0), (1, .int 102), (2, .int 1)]) hx hb dX0_set_38 hl (k := 0) rfl (by decide) (by decide) rfl (fun ls hl => ?_)
  refine lv_goto (tgt := 12) hx hb dX0_set_41 (by decide) ?_
  refine lv_iload_n hx hb dX0_set_12 rfl (lv_at hl 0 rfl) ?_
  refine lv_bipush (v := 8) hx hb dX0_set_13 (by decide) ?_
  refine lv_icmp_ge (tgt := 44) hx hb dX0_set_15 (by decide) (fun h9 => absurd h9 (by decide)) (fun _ => ?_)
  refine lv_aload_n hx hb dX0_set_18 rfl (lv_at hl 1 rfl) ?_
  refine va_get (D := (dC, dI)) (ci := 1) (v := .ref a1) (C := RX0) (T := TX0) (N := 1) hx hb hts pinX0 hown hK hP 0 rfl rfl 0 (by decide) (hts _ e4) (fun _ h9 => h9) rfl dX0_set_19 ?_
  refine lv_iload_n hx hb dX0_set_22 rfl (lv_at hl 2 rfl) ?_
  refine lv_bipush (v := 8) hx hb dX0_set_23 (by decide) ?_
  refine lv_imul hx hb dX0_set_25 ?_
  refine W.eq (g2 := F0 m 26 ls [.int 816, .ref a1]) (by rfl) ?_
  refine lv_iload_n hx hb dX0_set_26 rfl (lv_at hl 0 rfl) ?_
  refine lv_iadd hx hb dX0_set_27 ?_
  refine W.eq (g2 := F0 m 28 ls [.int 823, .ref a1]) (by rfl) ?_
  refine lv_iload_n hx hb dX0_set_28 rfl (lv_at hl 3 rfl) ?_
  refine lv_if_ge (tgt := 36) hx hb dX0_set_29 (by decide) (fun _ => ?_) (fun h9 => absurd (by decide) h9)
  refine lv_iconst (v := 0) hx hb dX0_set_36 (by decide) ?_
  refine va_iast hx hb hK hP hD hS 1 0 rfl rfl (by unfold vp_in; decide) dX0_set_37 (fun H locs hP hD hS => ?_)
  obtain ⟨f8, ef8⟩ : ∃ f9, f9 = upd f7 (823 : Int32).toNatClampNeg 0 := ⟨_, rfl⟩
  rw [← ef8] at hP hD
  have hP : va_P (dC, dI) pcl [(h0, .inr (1, [.ref a1])), (a1, .inl (cB, 864, .inl f8))] H := hP
  have hD : va_D A [(h0, .inr (1, [.ref a1])), (a1, .inl (cB, 864, .inl f8))] := hD
  refine lv_iinc (v := 8) (lv' := [(3, .int 8), (0, .ref h0), (1, .int 102), (2, .int 1)]) hx hb dX0_set_38 hl (k := 0) rfl (by decide) (by decide) rfl (fun ls hl => ?_)
  refine lv_goto (tgt := 12) hx hb dX0_set_41 (by decide) ?_
  refine lv_iload_n hx hb dX0_set_12 rfl (lv_at hl 0 rfl) ?_
  refine lv_bipush (v := 8) hx hb dX0_set_13 (by decide) ?_
  refine lv_icmp_ge (tgt := 44) hx hb dX0_set_15 (by decide) (fun _ => ?_) (fun h9 => absurd (by decide) h9)
  have hP9 := hP.sub (ws' := [(h0, .inr (1, [.ref a1])), (a1, .inl (cB, 864, .inl f8))]) [0, 1] rfl
  have hD9 := hD.sub (ws' := [(h0, .inr (1, [.ref a1])), (a1, .inl (cB, 864, .inl f8))]) [0, 1] (by decide) rfl
  have hK9 := hK.sub (tys' := [(cB, .int)]) [0] rfl
  refine W.widen (k := 0) (n := 0) (Nat.le_of_ble_eq_true rfl) (Nat.le_of_ble_eq_true rfl) ?_
  exact W.vret hx hb hr (fun t ht hW => ⟨⟨(), rfl, trivial, f8, by rw [ht]; exact hP9, va_K.moved hW.alike hK9, hD9⟩, hS.F ht⟩) hS.2.2 dX0_set_44
set_option maxHeartbeats 4000000 in
set_option maxRecDepth 100000 in
theorem c_X0_set2 (l : Launch) (dC : Nat → ClassId) (dI : Nat → Nat → Nat) (z : pG) (h0 : Nat) (a1 : Nat) (cB : ClassId) (f : Nat → Int32) (sz : Nat) : Met l yX0_set (ws_ yX0_set cX0_set 4 none) ({ frames := 0, cells := 0, slots := 0, locals := 0 }) (va_Pc [.ref h0, .int 103, .int 2] (pPre z dC dI [(h0, .inr (1, [.ref a1])), (a1, .inl (cB, 864, .inl f))] [(cB, .int)] sz)) (va_Qv (fun (_ : Unit) => True) (fun _ t => ∃ (f2 : Nat → Int32), pPost dC dI (va_A [(h0, .inr (1, [.ref a1])), (a1, .inl (cB, 864, .inl f))] sz) [(h0, .inr (1, [.ref a1])), (a1, .inl (cB, 864, .inl f2))] [(cB, .int)] t) (va_A [(h0, .inr (1, [.ref a1])), (a1, .inl (cB, 864, .inl f))] sz)) 0 0 (va_A [(h0, .inr (1, [.ref a1])), (a1, .inl (cB, 864, .inl f))] sz) := by
  refine Met.ofW (cc := cX0_set) (maxL := 4) (ret := none) (by decide) rfl ?_
  intro p e s m args below meth c s₁ B hml hv
  obtain ⟨rfl, hsz, hP, hK, hD0, hE⟩ := hv
  have hx := B.exec
  have hb := B.bytes
  have hr := B.returns
  have hts0 := atoms_spec (ws := ws_ yX0_set cX0_set 4 none) B.pre
  have hts := fun (w : Cond) (h : w ∈ pw) => hts0 w (List.mem_cons_of_mem _ h)
  have hown : s.vm.findClass RX0 = some m.cls := findClass_of_methodNamed B.named
  have hlocks := B.notSynchronized
  subst hsz
  have hD := hD0.self (sz := s.heap.size)
  generalize hAe : va_A [(h0, .inr (1, [.ref a1])), (a1, .inl (cB, 864, .inl f))] s.heap.size = A at hD hE ⊢
  have hA : ∀ q : Nat, s.heap.size ≤ q → A q := fun q h => by rw [← hAe]; exact Or.inr h
  have hS : va_S A s.heap s.heap [] := va_S.rf
  have hN := hE.1
  have hP : va_P (dC, dI) pcl [(h0, .inr (1, [.ref a1])), (a1, .inl (cB, 864, .inl f))] s.heap := hP
  have hl := lv_entry ([.ref h0, .int 103, .int 2]) (n := 4) (Nat.le_of_ble_eq_true rfl)
  rw [lg_entry_eq]
  generalize (lg_sl ([.ref h0, .int 103, .int 2]) ++ List.replicate (4 - (lg_sl ([.ref h0, .int 103, .int 2])).length) Slot.unset).toArray = ls at hl ⊢
  have hl : lv_has ls 4 [(0, .ref h0), (1, .int 103), (2, .int 2)] := hl
  obtain ⟨H, hH0⟩ : ∃ H, H = s.heap := ⟨_, rfl⟩
  rw [← hH0] at hP ⊢
  have hS : va_S A s.heap H [] := by rw [hH0]; exact hS
  refine lv_aload_n hx hb dX0_set_0 rfl (lv_at hl 0 rfl) ?_
  refine va_get (D := (dC, dI)) (ci := 1) (v := .ref a1) (C := RX0) (T := TX0) (N := 1) hx hb hts pinX0 hown hK hP 0 rfl rfl 0 (by decide) (hts _ e4) (fun _ h9 => h9) rfl dX0_set_1 ?_
  refine lv_iload_n hx hb dX0_set_4 rfl (lv_at hl 1 rfl) ?_
  refine lv_bipush (v := 8) hx hb dX0_set_5 (by decide) ?_
  refine lv_imul hx hb dX0_set_7 ?_
  refine W.eq (g2 := F0 m 8 ls [.int 824, .ref a1]) (by rfl) ?_
  refine lv_iload_n hx hb dX0_set_8 rfl (lv_at hl 2 rfl) ?_
  refine va_iast hx hb hK hP hD hS 1 0 rfl rfl (by unfold vp_in; decide) dX0_set_9 (fun H locs hP hD hS => ?_)
  obtain ⟨f1, ef1⟩ : ∃ f9, f9 = upd f (824 : Int32).toNatClampNeg 2 := ⟨_, rfl⟩
  rw [← ef1] at hP hD
  have hP : va_P (dC, dI) pcl [(h0, .inr (1, [.ref a1])), (a1, .inl (cB, 864, .inl f1))] H := hP
  have hD : va_D A [(h0, .inr (1, [.ref a1])), (a1, .inl (cB, 864, .inl f1))] := hD
  refine lv_iconst (v := 1) hx hb dX0_set_10 (by decide) ?_
  refine lv_istore_n (lv' := [(3, .int 1), (0, .ref h0), (1, .int 103), (2, .int 2)]) hx hb dX0_set_11 rfl hl (by decide) rfl (fun ls hl => ?_)
  refine lv_iload_n hx hb dX0_set_12 rfl (lv_at hl 0 rfl) ?_
  refine lv_bipush (v := 8) hx hb dX0_set_13 (by decide) ?_
  refine lv_icmp_ge (tgt := 44) hx hb dX0_set_15 (by decide) (fun h9 => absurd h9 (by decide)) (fun _ => ?_)
  refine lv_aload_n hx hb dX0_set_18 rfl (lv_at hl 1 rfl) ?_
  refine va_get (D := (dC, dI)) (ci := 1) (v := .ref a1) (C := RX0) (T := TX0) (N := 1) hx hb hts pinX0 hown hK hP 0 rfl rfl 0 (by decide) (hts _ e4) (fun _ h9 => h9) rfl dX0_set_19 ?_
  refine lv_iload_n hx hb dX0_set_22 rfl (lv_at hl 2 rfl) ?_
  refine lv_bipush (v := 8) hx hb dX0_set_23 (by decide) ?_
  refine lv_imul hx hb dX0_set_25 ?_
  refine W.eq (g2 := F0 m 26 ls [.int 824, .ref a1]) (by rfl) ?_
  refine lv_iload_n hx hb dX0_set_26 rfl (lv_at hl 0 rfl) ?_
  refine lv_iadd hx hb dX0_set_27 ?_
  refine W.eq (g2 := F0 m 28 ls [.int 825, .ref a1]) (by rfl) ?_
  refine lv_iload_n hx hb dX0_set_28 rfl (lv_at hl 3 rfl) ?_
  refine lv_if_ge (tgt := 36) hx hb dX0_set_29 (by decide) (fun _ => ?_) (fun h9 => absurd (by decide) h9)
  refine lv_iconst (v := 0) hx hb dX0_set_36 (by decide) ?_
  refine va_iast hx hb hK hP hD hS 1 0 rfl rfl (by unfold vp_in; decide) dX0_set_37 (fun H locs hP hD hS => ?_)
  obtain ⟨f2, ef2⟩ : ∃ f9, f9 = upd f1 (825 : Int32).toNatClampNeg 0 := ⟨_, rfl⟩
  rw [← ef2] at hP hD
  have hP : va_P (dC, dI) pcl [(h0, .inr (1, [.ref a1])), (a1, .inl (cB, 864, .inl f2))] H := hP
  have hD : va_D A [(h0, .inr (1, [.ref a1])), (a1, .inl (cB, 864, .inl f2))] := hD
  refine lv_iinc (v := 2) (lv' := [(3, .int 2), (0, .ref h0), (1, .int 103), (2, .int 2)]) hx hb dX0_set_38 hl (k := 0) rfl (by decide) (by decide) rfl (fun ls hl => ?_)
  refine lv_goto (tgt := 12) hx hb dX0_set_41 (by decide) ?_
  refine lv_iload_n hx hb dX0_set_12 rfl (lv_at hl 0 rfl) ?_
  refine lv_bipush (v := 8) hx hb dX0_set_13 (by decide) ?_
  refine lv_icmp_ge (tgt := 44) hx hb dX0_set_15 (by decide) (fun h9 => absurd h9 (by decide)) (fun _ => ?_)
  refine lv_aload_n hx hb dX0_set_18 rfl (lv_at hl 1 rfl) ?_
  refine va_get (D := (dC, dI)) (ci := 1) (v := .ref a1) (C := RX0) (T := TX0) (N := 1) hx hb hts pinX0 hown hK hP 0 rfl rfl 0 (by decide) (hts _ e4) (fun _ h9 => h9) rfl dX0_set_19 ?_
  refine lv_iload_n hx hb dX0_set_22 rfl (lv_at hl 2 rfl) ?_
  refine lv_bipush (v := 8) hx hb dX0_set_23 (by decide) ?_
  refine lv_imul hx hb dX0_set_25 ?_
  refine W.eq (g2 := F0 m 26 ls [.int 824, .ref a1]) (by rfl) ?_
  refine lv_iload_n hx hb dX0_set_26 rfl (lv_at hl 0 rfl) ?_
  refine lv_iadd hx hb dX0_set_27 ?_
  refine W.eq (g2 := F0 m 28 ls [.int 826, .ref a1]) (by rfl) ?_
  refine lv_iload_n hx hb dX0_set_28 rfl (lv_at hl 3 rfl) ?_
  refine lv_if_ge (tgt := 36) hx hb dX0_set_29 (by decide) (fun _ => ?_) (fun h9 => absurd (by decide) h9)
  refine lv_iconst (v := 0) hx hb dX0_set_36 (by decide) ?_
  refine va_iast hx hb hK hP hD hS 1 0 rfl rfl (by unfold vp_in; decide) dX0_set_37 (fun H locs hP hD hS => ?_)
  obtain ⟨f3, ef3⟩ : ∃ f9, f9 = upd f2 (826 : Int32).toNatClampNeg 0 := ⟨_, rfl⟩
  rw [← ef3] at hP hD
  have hP : va_P (dC, dI) pcl [(h0, .inr (1, [.ref a1])), (a1, .inl (cB, 864, .inl f3))] H := hP
  have hD : va_D A [(h0, .inr (1, [.ref a1])), (a1, .inl (cB, 864, .inl f3))] := hD
  refine lv_iinc (v := 3) (lv' := [(3, .int 3), (0, .ref h0), (1, .int 103), (2, .int 2)]) hx hb dX0_set_38 hl (k := 0) rfl (by decide) (by decide) rfl (fun ls hl => ?_)
  refine lv_goto (tgt := 12) hx hb dX0_set_41 (by decide) ?_
  refine lv_iload_n hx hb dX0_set_12 rfl (lv_at hl 0 rfl) ?_
  refine lv_bipush (v := 8) hx hb dX0_set_13 (by decide) ?_
  refine lv_icmp_ge (tgt := 44) hx hb dX0_set_15 (by decide) (fun h9 => absurd h9 (by decide)) (fun _ => ?_)
  refine lv_aload_n hx hb dX0_set_18 rfl (lv_at hl 1 rfl) ?_
  refine va_get (D := (dC, dI)) (ci := 1) (v := .ref a1) (C := RX0) (T := TX0) (N := 1) hx hb hts pinX0 hown hK hP 0 rfl rfl 0 (by decide) (hts _ e4) (fun _ h9 => h9) rfl dX0_set_19 ?_
  refine lv_iload_n hx hb dX0_set_22 rfl (lv_at hl 2 rfl) ?_
  refine lv_bipush (v := 8) hx hb dX0_set_23 (by decide) ?_
  refine lv_imul hx hb dX0_set_25 ?_
  refine W.eq (g2 := F0 m 26 ls [.int 824, .ref a1]) (by rfl) ?_
  refine lv_iload_n hx hb dX0_set_26 rfl (lv_at hl 0 rfl) ?_
  refine lv_iadd hx hb dX0_set_27 ?_
  refine W.eq (g2 := F0 m 28 ls [.int 827, .ref a1]) (by rfl) ?_
  refine lv_iload_n hx hb dX0_set_28 rfl (lv_at hl 3 rfl) ?_
  refine lv_if_ge (tgt := 36) hx hb dX0_set_29 (by decide) (fun _ => ?_) (fun h9 => absurd (by decide) h9)
  refine lv_iconst (v := 0) hx hb dX0_set_36 (by decide) ?_
  refine va_iast hx hb hK hP hD hS 1 0 rfl rfl (by unfold vp_in; decide) dX0_set_37 (fun H locs hP hD hS => ?_)
  obtain ⟨f4, ef4⟩ : ∃ f9, f9 = upd f3 (827 : Int32).toNatClampNeg 0 := ⟨_, rfl⟩
  rw [← ef4] at hP hD
  have hP : va_P (dC, dI) pcl [(h0, .inr (1, [.ref a1])), (a1, .inl (cB, 864, .inl f4))] H := hP
  have hD : va_D A [(h0, .inr (1, [.ref a1])), (a1, .inl (cB, 864, .inl f4))] := hD
  refine lv_iinc (v := 4) (lv' := [(3, .int 4), (0, .ref h0), (1, .int 103), (2, .int 2)]) hx hb dX0_set_38 hl (k := 0) rfl (by decide) (by decide) rfl (fun ls hl => ?_)
  refine lv_goto (tgt := 12) hx hb dX0_set_41 (by decide) ?_
  refine lv_iload_n hx hb dX0_set_12 rfl (lv_at hl 0 rfl) ?_
  refine lv_bipush (v := 8) hx hb dX0_set_13 (by decide) ?_
  refine lv_icmp_ge (tgt := 44) hx hb dX0_set_15 (by decide) (fun h9 => absurd h9 (by decide)) (fun _ => ?_)
  refine lv_aload_n hx hb dX0_set_18 rfl (lv_at hl 1 rfl) ?_
  refine va_get (D := (dC, dI)) (ci := 1) (v := .ref a1) (C := RX0) (T := TX0) (N := 1) hx hb hts pinX0 hown hK hP 0 rfl rfl 0 (by decide) (hts _ e4) (fun _ h9 => h9) rfl dX0_set_19 ?_
  refine lv_iload_n hx hb dX0_set_22 rfl (lv_at hl 2 rfl) ?_
  refine lv_bipush (v := 8) hx hb dX0_set_23 (by decide) ?_
  refine lv_imul hx hb dX0_set_25 ?_
  refine W.eq (g2 := F0 m 26 ls [.int 824, .ref a1]) (by rfl) ?_
  refine lv_iload_n hx hb dX0_set_26 rfl (lv_at hl 0 rfl) ?_
  refine lv_iadd hx hb dX0_set_27 ?_
  refine W.eq (g2 := F0 m 28 ls [.int 828, .ref a1]) (by rfl) ?_
  refine lv_iload_n hx hb dX0_set_28 rfl (lv_at hl 3 rfl) ?_
  refine lv_if_ge (tgt := 36) hx hb dX0_set_29 (by decide) (fun _ => ?_) (fun h9 => absurd (by decide) h9)
  refine lv_iconst (v := 0) hx hb dX0_set_36 (by decide) ?_
  refine va_iast hx hb hK hP hD hS 1 0 rfl rfl (by unfold vp_in; decide) dX0_set_37 (fun H locs hP hD hS => ?_)
  obtain ⟨f5, ef5⟩ : ∃ f9, f9 = upd f4 (828 : Int32).toNatClampNeg 0 := ⟨_, rfl⟩
  rw [← ef5] at hP hD
  have hP : va_P (dC, dI) pcl [(h0, .inr (1, [.ref a1])), (a1, .inl (cB, 864, .inl f5))] H := hP
  have hD : va_D A [(h0, .inr (1, [.ref a1])), (a1, .inl (cB, 864, .inl f5))] := hD
  refine lv_iinc (v := 5) (lv' := [(3, .int 5), (0, .ref h0), (1, .int 103), (2, .int 2)]) hx hb dX0_set_38 hl (k := 0) rfl (by decide) (by decide) rfl (fun ls hl => ?_)
  refine lv_goto (tgt := 12) hx hb dX0_set_41 (by decide) ?_
  refine lv_iload_n hx hb dX0_set_12 rfl (lv_at hl 0 rfl) ?_
  refine lv_bipush (v := 8) hx hb dX0_set_13 (by decide) ?_
  refine lv_icmp_ge (tgt := 44) hx hb dX0_set_15 (by decide) (fun h9 => absurd h9 (by decide)) (fun _ => ?_)
  refine lv_aload_n hx hb dX0_set_18 rfl (lv_at hl 1 rfl) ?_
  refine va_get (D := (dC, dI)) (ci := 1) (v := .ref a1) (C := RX0) (T := TX0) (N := 1) hx hb hts pinX0 hown hK hP 0 rfl rfl 0 (by decide) (hts _ e4) (fun _ h9 => h9) rfl dX0_set_19 ?_
  refine lv_iload_n hx hb dX0_set_22 rfl (lv_at hl 2 rfl) ?_
  refine lv_bipush (v := 8) hx hb dX0_set_23 (by decide) ?_
  refine lv_imul hx hb dX0_set_25 ?_
  refine W.eq (g2 := F0 m 26 ls [.int 824, .ref a1]) (by rfl) ?_
  refine lv_iload_n hx hb dX0_set_26 rfl (lv_at hl 0 rfl) ?_
  refine lv_iadd hx hb dX0_set_27 ?_
  refine W.eq (g2 := F0 m 28 ls [.int 829, .ref a1]) (by rfl) ?_
  refine lv_iload_n hx hb dX0_set_28 rfl (lv_at hl 3 rfl) ?_
  refine lv_if_ge (tgt := 36) hx hb dX0_set_29 (by decide) (fun _ => ?_) (fun h9 => absurd (by decide) h9)
  refine lv_iconst (v := 0) hx hb dX0_set_36 (by decide) ?_
  refine va_iast hx hb hK hP hD hS 1 0 rfl rfl (by unfold vp_in; decide) dX0_set_37 (fun H locs hP hD hS => ?_)
  obtain ⟨f6, ef6⟩ : ∃ f9, f9 = upd f5 (829 : Int32).toNatClampNeg 0 := ⟨_, rfl⟩
  rw [← ef6] at hP hD
  have hP : va_P (dC, dI) pcl [(h0, .inr (1, [.ref a1])), (a1, .inl (cB, 864, .inl f6))] H := hP
  have hD : va_D A [(h0, .inr (1, [.ref a1])), (a1, .inl (cB, 864, .inl f6))] := hD
  refine lv_iinc (v := 6) (lv' := [(3, .int 6), (0, .ref h0), (1, .int 103), (2, .int 2)]) hx hb dX0_set_38 hl (k := 0) rfl (by decide) (by decide) rfl (fun ls hl => ?_)
  refine lv_goto (tgt := 12) hx hb dX0_set_41 (by decide) ?_
  refine lv_iload_n hx hb dX0_set_12 rfl (lv_at hl 0 rfl) ?_
  refine lv_bipush (v := 8) hx hb dX0_set_13 (by decide) ?_
  refine lv_icmp_ge (tgt := 44) hx hb dX0_set_15 (by decide) (fun h9 => absurd h9 (by decide)) (fun _ => ?_)
  refine lv_aload_n hx hb dX0_set_18 rfl (lv_at hl 1 rfl) ?_
  refine va_get (D := (dC, dI)) (ci := 1) (v := .ref a1) (C := RX0) (T := TX0) (N := 1) hx hb hts pinX0 hown hK hP 0 rfl rfl 0 (by decide) (hts _ e4) (fun _ h9 => h9) rfl dX0_set_19 ?_
  refine lv_iload_n hx hb dX0_set_22 rfl (lv_at hl 2 rfl) ?_
  refine lv_bipush (v := 8) hx hb dX0_set_23 (by decide) ?_
  refine lv_imul hx hb dX0_set_25 ?_
  refine W.eq (g2 := F0 m 26 ls [.int 824, .ref a1]) (by rfl) ?_
  refine lv_iload_n hx hb dX0_set_26 rfl (lv_at hl 0 rfl) ?_
  refine lv_iadd hx hb dX0_set_27 ?_
  refine W.eq (g2 := F0 m 28 ls [.int 830, .ref a1]) (by rfl) ?_
  refine lv_iload_n hx hb dX0_set_28 rfl (lv_at hl 3 rfl) ?_
  refine lv_if_ge (tgt := 36) hx hb dX0_set_29 (by decide) (fun _ => ?_) (fun h9 => absurd (by decide) h9)
  refine lv_iconst (v := 0) hx hb dX0_set_36 (by decide) ?_
  refine va_iast hx hb hK hP hD hS 1 0 rfl rfl (by unfold vp_in; decide) dX0_set_37 (fun H locs hP hD hS => ?_)
  obtain ⟨f7, ef7⟩ : ∃ f9, f9 = upd f6 (830 : Int32).toNatClampNeg 0 := ⟨_, rfl⟩
  rw [← ef7] at hP hD
  have hP : va_P (dC, dI) pcl [(h0, .inr (1, [.ref a1])), (a1, .inl (cB, 864, .inl f7))] H := hP
  have hD : va_D A [(h0, .inr (1, [.ref a1])), (a1, .inl (cB, 864, .inl f7))] := hD
  refine lv_iinc (v := 7) (lv' := [(3, .int 7), (0, .ref h0), (1, .int 103), (2, .int 2)]) hx hb dX0_set_38 hl (k := 0) rfl (by decide) (by decide) rfl (fun ls hl => ?_)
  refine lv_goto (tgt := 12) hx hb dX0_set_41 (by decide) ?_
  refine lv_iload_n hx hb dX0_set_12 rfl (lv_at hl 0 rfl) ?_
  refine lv_bipush (v := 8) hx hb dX0_set_13 (by decide) ?_
  refine lv_icmp_ge (tgt := 44) hx hb dX0_set_15 (by decide) (fun h9 => absurd h9 (by decide)) (fun _ => ?_)
  refine lv_aload_n hx hb dX0_set_18 rfl (lv_at hl 1 rfl) ?_
  refine va_get (D := (dC, dI)) (ci := 1) (v := .ref a1) (C := RX0) (T := TX0) (N := 1) hx hb hts pinX0 hown hK hP 0 rfl rfl 0 (by decide) (hts _ e4) (fun _ h9 => h9) rfl dX0_set_19 ?_
  refine lv_iload_n hx hb dX0_set_22 rfl (lv_at hl 2 rfl) ?_
  refine lv_bipush (v := 8) hx hb dX0_set_23 (by decide) ?_
  refine lv_imul hx hb dX0_set_25 ?_
  refine W.eq (g2 := F0 m 26 ls [.int 824, .ref a1]) (by rfl) ?_
  refine lv_iload_n hx hb dX0_set_26 rfl (lv_at hl 0 rfl) ?_
  refine lv_iadd hx hb dX0_set_27 ?_
  refine W.eq (g2 := F0 m 28 ls [.int 831, .ref a1]) (by rfl) ?_
  refine lv_iload_n hx hb dX0_set_28 rfl (lv_at hl 3 rfl) ?_
  refine lv_if_ge (tgt := 36) hx hb dX0_set_29 (by decide) (fun _ => ?_) (fun h9 => absurd (by decide) h9)
  refine lv_iconst (v := 0) hx hb dX0_set_36 (by decide) ?_
  refine va_iast hx hb hK hP hD hS 1 0 rfl rfl (by unfold vp_in; decide) dX0_set_37 (fun H locs hP hD hS => ?_)
  obtain ⟨f8, ef8⟩ : ∃ f9, f9 = upd f7 (831 : Int32).toNatClampNeg 0 := ⟨_, rfl⟩
  rw [← ef8] at hP hD
  have hP : va_P (dC, dI) pcl [(h0, .inr (1, [.ref a1])), (a1, .inl (cB, 864, .inl f8))] H := hP
  have hD : va_D A [(h0, .inr (1, [.ref a1])), (a1, .inl (cB, 864, .inl f8))] := hD
  refine lv_iinc (v := 8) (lv' := [(3, .int 8), (0, .ref h0), (1, .int 103), (2, .int 2)]) hx hb dX0_set_38 hl (k := 0) rfl (by decide) (by decide) rfl (fun ls hl => ?_)
  refine lv_goto (tgt := 12) hx hb dX0_set_41 (by decide) ?_
  refine lv_iload_n hx hb dX0_set_12 rfl (lv_at hl 0 rfl) ?_
  refine lv_bipush (v := 8) hx hb dX0_set_13 (by decide) ?_
  refine lv_icmp_ge (tgt := 44) hx hb dX0_set_15 (by decide) (fun _ => ?_) (fun h9 => absurd (by decide) h9)
  have hP9 := hP.sub (ws' := [(h0, .inr (1, [.ref a1])), (a1, .inl (cB, 864, .inl f8))]) [0, 1] rfl
  have hD9 := hD.sub (ws' := [(h0, .inr (1, [.ref a1])), (a1, .inl (cB, 864, .inl f8))]) [0, 1] (by decide) rfl
  have hK9 := hK.sub (tys' := [(cB, .int)]) [0] rfl
  refine W.widen (k := 0) (n := 0) (Nat.le_of_ble_eq_true rfl) (Nat.le_of_ble_eq_true rfl) ?_
  exact W.vret hx hb hr (fun t ht hW => ⟨⟨(), rfl, trivial, f8, by rw [ht]; exact hP9, va_K.moved hW.alike hK9, hD9⟩, hS.F ht⟩) hS.2.2 dX0_set_44
set_option maxHeartbeats 4000000 in
set_option maxRecDepth 100000 in
theorem c_X0_set3 (l : Launch) (dC : Nat → ClassId) (dI : Nat → Nat → Nat) (z : pG) (h0 : Nat) (a1 : Nat) (cB : ClassId) (f : Nat → Int32) (sz : Nat) : Met l yX0_set (ws_ yX0_set cX0_set 4 none) ({ frames := 0, cells := 0, slots := 0, locals := 0 }) (va_Pc [.ref h0, .int 104, .int 3] (pPre z dC dI [(h0, .inr (1, [.ref a1])), (a1, .inl (cB, 864, .inl f))] [(cB, .int)] sz)) (va_Qv (fun (_ : Unit) => True) (fun _ t => ∃ (f2 : Nat → Int32), pPost dC dI (va_A [(h0, .inr (1, [.ref a1])), (a1, .inl (cB, 864, .inl f))] sz) [(h0, .inr (1, [.ref a1])), (a1, .inl (cB, 864, .inl f2))] [(cB, .int)] t) (va_A [(h0, .inr (1, [.ref a1])), (a1, .inl (cB, 864, .inl f))] sz)) 0 0 (va_A [(h0, .inr (1, [.ref a1])), (a1, .inl (cB, 864, .inl f))] sz) := by
  refine Met.ofW (cc := cX0_set) (maxL := 4) (ret := none) (by decide) rfl ?_
  intro p e s m args below meth c s₁ B hml hv
  obtain ⟨rfl, hsz, hP, hK, hD0, hE⟩ := hv
  have hx := B.exec
  have hb := B.bytes
  have hr := B.returns
  have hts0 := atoms_spec (ws := ws_ yX0_set cX0_set 4 none) B.pre
  have hts := fun (w : Cond) (h : w ∈ pw) => hts0 w (List.mem_cons_of_mem _ h)
  have hown : s.vm.findClass RX0 = some m.cls := findClass_of_methodNamed B.named
  have hlocks := B.notSynchronized
  subst hsz
  have hD := hD0.self (sz := s.heap.size)
  generalize hAe : va_A [(h0, .inr (1, [.ref a1])), (a1, .inl (cB, 864, .inl f))] s.heap.size = A at hD hE ⊢
  have hA : ∀ q : Nat, s.heap.size ≤ q → A q := fun q h => by rw [← hAe]; exact Or.inr h
  have hS : va_S A s.heap s.heap [] := va_S.rf
  have hN := hE.1
  have hP : va_P (dC, dI) pcl [(h0, .inr (1, [.ref a1])), (a1, .inl (cB, 864, .inl f))] s.heap := hP
  have hl := lv_entry ([.ref h0, .int 104, .int 3]) (n := 4) (Nat.le_of_ble_eq_true rfl)
  rw [lg_entry_eq]
  generalize (lg_sl ([.ref h0, .int 104, .int 3]) ++ List.replicate (4 - (lg_sl ([.ref h0, .int 104, .int 3])).length) Slot.unset).toArray = ls at hl ⊢
  have hl : lv_has ls 4 [(0, .ref h0), (1, .int 104), (2, .int 3)] := hl
  obtain ⟨H, hH0⟩ : ∃ H, H = s.heap := ⟨_, rfl⟩
  rw [← hH0] at hP ⊢
  have hS : va_S A s.heap H [] := by rw [hH0]; exact hS
  refine lv_aload_n hx hb dX0_set_0 rfl (lv_at hl 0 rfl) ?_
  refine va_get (D := (dC, dI)) (ci := 1) (v := .ref a1) (C := RX0) (T := TX0) (N := 1) hx hb hts pinX0 hown hK hP 0 rfl rfl 0 (by decide) (hts _ e4) (fun _ h9 => h9) rfl dX0_set_1 ?_
  refine lv_iload_n hx hb dX0_set_4 rfl (lv_at hl 1 rfl) ?_
  refine lv_bipush (v := 8) hx hb dX0_set_5 (by decide) ?_
  refine lv_imul hx hb dX0_set_7 ?_
  refine W.eq (g2 := F0 m 8 ls [.int 832, .ref a1]) (by rfl) ?_
  refine lv_iload_n hx hb dX0_set_8 rfl (lv_at hl 2 rfl) ?_
  refine va_iast hx hb hK hP hD hS 1 0 rfl rfl (by unfold vp_in; decide) dX0_set_9 (fun H locs hP hD hS => ?_)
  obtain ⟨f1, ef1⟩ : ∃ f9, f9 = upd f (832 : Int32).toNatClampNeg 3 := ⟨_, rfl⟩
  rw [← ef1] at hP hD
  have hP : va_P (dC, dI) pcl [(h0, .inr (1, [.ref a1])), (a1, .inl (cB, 864, .inl f1))] H := hP
  have hD : va_D A [(h0, .inr (1, [.ref a1])), (a1, .inl (cB, 864, .inl f1))] := hD
  refine lv_iconst (v := 1) hx hb dX0_set_10 (by decide) ?_
  refine lv_istore_n (lv' := [(3, .int 1), (0, .ref h0), (1, .int 104), (2, .int 3)]) hx hb dX0_set_11 rfl hl (by decide) rfl (fun ls hl => ?_)
  refine lv_iload_n hx hb dX0_set_12 rfl (lv_at hl 0 rfl) ?_
  refine lv_bipush (v := 8) hx hb dX0_set_13 (by decide) ?_
  refine lv_icmp_ge (tgt := 44) hx hb dX0_set_15 (by decide) (fun h9 => absurd h9 (by decide)) (fun _ => ?_)
  refine lv_aload_n hx hb dX0_set_18 rfl (lv_at hl 1 rfl) ?_
  refine va_get (D := (dC, dI)) (ci := 1) (v := .ref a1) (C := RX0) (T := TX0) (N := 1) hx hb hts pinX0 hown hK hP 0 rfl rfl 0 (by decide) (hts _ e4) (fun _ h9 => h9) rfl dX0_set_19 ?_
  refine lv_iload_n hx hb dX0_set_22 rfl (lv_at hl 2 rfl) ?_
  refine lv_bipush (v := 8) hx hb dX0_set_23 (by decide) ?_
  refine lv_imul hx hb dX0_set_25 ?_
  refine W.eq (g2 := F0 m 26 ls [.int 832, .ref a1]) (by rfl) ?_
  refine lv_iload_n hx hb dX0_set_26 rfl (lv_at hl 0 rfl) ?_
  refine lv_iadd hx hb dX0_set_27 ?_
  refine W.eq (g2 := F0 m 28 ls [.int 833, .ref a1]) (by rfl) ?_
  refine lv_iload_n hx hb dX0_set_28 rfl (lv_at hl 3 rfl) ?_
  refine lv_if_ge (tgt := 36) hx hb dX0_set_29 (by decide) (fun _ => ?_) (fun h9 => absurd (by decide) h9)
  refine lv_iconst (v := 0) hx hb dX0_set_36 (by decide) ?_
  refine va_iast hx hb hK hP hD hS 1 0 rfl rfl (by unfold vp_in; decide) dX0_set_37 (fun H locs hP hD hS => ?_)
  obtain ⟨f2, ef2⟩ : ∃ f9, f9 = upd f1 (833 : Int32).toNatClampNeg 0 := ⟨_, rfl⟩
  rw [← ef2] at hP hD
  have hP : va_P (dC, dI) pcl [(h0, .inr (1, [.ref a1])), (a1, .inl (cB, 864, .inl f2))] H := hP
  have hD : va_D A [(h0, .inr (1, [.ref a1])), (a1, .inl (cB, 864, .inl f2))] := hD
  refine lv_iinc (v := 2) (lv' := [(3, .int 2), (0, .ref h0), (1, .int 104), (2, .int 3)]) hx hb dX0_set_38 hl (k := 0) rfl (by decide) (by decide) rfl (fun ls hl => ?_)
  refine lv_goto (tgt := 12) hx hb dX0_set_41 (by decide) ?_
  refine lv_iload_n hx hb dX0_set_12 rfl (lv_at hl 0 rfl) ?_
  refine lv_bipush (v := 8) hx hb dX0_set_13 (by decide) ?_
  refine lv_icmp_ge (tgt := 44) hx hb dX0_set_15 (by decide) (fun h9 => absurd h9 (by decide)) (fun _ => ?_)
  refine lv_aload_n hx hb dX0_set_18 rfl (lv_at hl 1 rfl) ?_
  refine va_get (D := (dC, dI)) (ci := 1) (v := .ref a1) (C := RX0) (T := TX0) (N := 1) hx hb hts pinX0 hown hK hP 0 rfl rfl 0 (by decide) (hts _ e4) (fun _ h9 => h9) rfl dX0_set_19 ?_
  refine lv_iload_n hx hb dX0_set_22 rfl (lv_at hl 2 rfl) ?_
  refine lv_bipush (v := 8) hx hb dX0_set_23 (by decide) ?_
  refine lv_imul hx hb dX0_set_25 ?_
  refine W.eq (g2 := F0 m 26 ls [.int 832, .ref a1]) (by rfl) ?_
  refine lv_iload_n hx hb dX0_set_26 rfl (lv_at hl 0 rfl) ?_
  refine lv_iadd hx hb dX0_set_27 ?_
  refine W.eq (g2 := F0 m 28 ls [.int 834, .ref a1]) (by rfl) ?_
  refine lv_iload_n hx hb dX0_set_28 rfl (lv_at hl 3 rfl) ?_
  refine lv_if_ge (tgt := 36) hx hb dX0_set_29 (by decide) (fun _ => ?_) (fun h9 => absurd (by decide) h9)
  refine lv_iconst (v := 0) hx hb dX0_set_36 (by decide) ?_
  refine va_iast hx hb hK hP hD hS 1 0 rfl rfl (by unfold vp_in; decide) dX0_set_37 (fun H locs hP hD hS => ?_)
  obtain ⟨f3, ef3⟩ : ∃ f9, f9 = upd f2 (834 : Int32).toNatClampNeg 0 := ⟨_, rfl⟩
  rw [← ef3] at hP hD
  have hP : va_P (dC, dI) pcl [(h0, .inr (1, [.ref a1])), (a1, .inl (cB, 864, .inl f3))] H := hP
  have hD : va_D A [(h0, .inr (1, [.ref a1])), (a1, .inl (cB, 864, .inl f3))] := hD
  refine lv_iinc (v := 3) (lv' := [(3, .int 3), (0, .ref h0), (1, .int 104), (2, .int 3)]) hx hb dX0_set_38 hl (k := 0) rfl (by decide) (by decide) rfl (fun ls hl => ?_)
  refine lv_goto (tgt := 12) hx hb dX0_set_41 (by decide) ?_
  refine lv_iload_n hx hb dX0_set_12 rfl (lv_at hl 0 rfl) ?_
  refine lv_bipush (v := 8) hx hb dX0_set_13 (by decide) ?_
  refine lv_icmp_ge (tgt := 44) hx hb dX0_set_15 (by decide) (fun h9 => absurd h9 (by decide)) (fun _ => ?_)
  refine lv_aload_n hx hb dX0_set_18 rfl (lv_at hl 1 rfl) ?_
  refine va_get (D := (dC, dI)) (ci := 1) (v := .ref a1) (C := RX0) (T := TX0) (N := 1) hx hb hts pinX0 hown hK hP 0 rfl rfl 0 (by decide) (hts _ e4) (fun _ h9 => h9) rfl dX0_set_19 ?_
  refine lv_iload_n hx hb dX0_set_22 rfl (lv_at hl 2 rfl) ?_
  refine lv_bipush (v := 8) hx hb dX0_set_23 (by decide) ?_
  refine lv_imul hx hb dX0_set_25 ?_
  refine W.eq (g2 := F0 m 26 ls [.int 832, .ref a1]) (by rfl) ?_
  refine lv_iload_n hx hb dX0_set_26 rfl (lv_at hl 0 rfl) ?_
  refine lv_iadd hx hb dX0_set_27 ?_
  refine W.eq (g2 := F0 m 28 ls [.int 835, .ref a1]) (by rfl) ?_
  refine lv_iload_n hx hb dX0_set_28 rfl (lv_at hl 3 rfl) ?_
  refine lv_if_ge (tgt := 36) hx hb dX0_set_29 (by decide) (fun _ => ?_) (fun h9 => absurd (by decide) h9)
  refine lv_iconst (v := 0) hx hb dX0_set_36 (by decide) ?_
  refine va_iast hx hb hK hP hD hS 1 0 rfl rfl (by unfold vp_in; decide) dX0_set_37 (fun H locs hP hD hS => ?_)
  obtain ⟨f4, ef4⟩ : ∃ f9, f9 = upd f3 (835 : Int32).toNatClampNeg 0 := ⟨_, rfl⟩
  rw [← ef4] at hP hD
  have hP : va_P (dC, dI) pcl [(h0, .inr (1, [.ref a1])), (a1, .inl (cB, 864, .inl f4))] H := hP
  have hD : va_D A [(h0, .inr (1, [.ref a1])), (a1, .inl (cB, 864, .inl f4))] := hD
  refine lv_iinc (v := 4) (lv' := [(3, .int 4), (0, .ref h0), (1, .int 104), (2, .int 3)]) hx hb dX0_set_38 hl (k := 0) rfl (by decide) (by decide) rfl (fun ls hl => ?_)
  refine lv_goto (tgt := 12) hx hb dX0_set_41 (by decide) ?_
  refine lv_iload_n hx hb dX0_set_12 rfl (lv_at hl 0 rfl) ?_
  refine lv_bipush (v := 8) hx hb dX0_set_13 (by decide) ?_
  refine lv_icmp_ge (tgt := 44) hx hb dX0_set_15 (by decide) (fun h9 => absurd h9 (by decide)) (fun _ => ?_)
  refine lv_aload_n hx hb dX0_set_18 rfl (lv_at hl 1 rfl) ?_
  refine va_get (D := (dC, dI)) (ci := 1) (v := .ref a1) (C := RX0) (T := TX0) (N := 1) hx hb hts pinX0 hown hK hP 0 rfl rfl 0 (by decide) (hts _ e4) (fun _ h9 => h9) rfl dX0_set_19 ?_
  refine lv_iload_n hx hb dX0_set_22 rfl (lv_at hl 2 rfl) ?_
  refine lv_bipush (v := 8) hx hb dX0_set_23 (by decide) ?_
  refine lv_imul hx hb dX0_set_25 ?_
  refine W.eq (g2 := F0 m 26 ls [.int 832, .ref a1]) (by rfl) ?_
  refine lv_iload_n hx hb dX0_set_26 rfl (lv_at hl 0 rfl) ?_
  refine lv_iadd hx hb dX0_set_27 ?_
  refine W.eq (g2 := F0 m 28 ls [.int 836, .ref a1]) (by rfl) ?_
  refine lv_iload_n hx hb dX0_set_28 rfl (lv_at hl 3 rfl) ?_
  refine lv_if_ge (tgt := 36) hx hb dX0_set_29 (by decide) (fun _ => ?_) (fun h9 => absurd (by decide) h9)
  refine lv_iconst (v := 0) hx hb dX0_set_36 (by decide) ?_
  refine va_iast hx hb hK hP hD hS 1 0 rfl rfl (by unfold vp_in; decide) dX0_set_37 (fun H locs hP hD hS => ?_)
  obtain ⟨f5, ef5⟩ : ∃ f9, f9 = upd f4 (836 : Int32).toNatClampNeg 0 := ⟨_, rfl⟩
  rw [← ef5] at hP hD
  have hP : va_P (dC, dI) pcl [(h0, .inr (1, [.ref a1])), (a1, .inl (cB, 864, .inl f5))] H := hP
  have hD : va_D A [(h0, .inr (1, [.ref a1])), (a1, .inl (cB, 864, .inl f5))] := hD
  refine lv_iinc (v := 5) (lv' := [(3, .int 5), (0, .ref h0), (1, .int 104), (2, .int 3)]) hx hb dX0_set_38 hl (k := 0) rfl (by decide) (by decide) rfl (fun ls hl => ?_)
  refine lv_goto (tgt := 12) hx hb dX0_set_41 (by decide) ?_
  refine lv_iload_n hx hb dX0_set_12 rfl (lv_at hl 0 rfl) ?_
  refine lv_bipush (v := 8) hx hb dX0_set_13 (by decide) ?_
  refine lv_icmp_ge (tgt := 44) hx hb dX0_set_15 (by decide) (fun h9 => absurd h9 (by decide)) (fun _ => ?_)
  refine lv_aload_n hx hb dX0_set_18 rfl (lv_at hl 1 rfl) ?_
  refine va_get (D := (dC, dI)) (ci := 1) (v := .ref a1) (C := RX0) (T := TX0) (N := 1) hx hb hts pinX0 hown hK hP 0 rfl rfl 0 (by decide) (hts _ e4) (fun _ h9 => h9) rfl dX0_set_19 ?_
  refine lv_iload_n hx hb dX0_set_22 rfl (lv_at hl 2 rfl) ?_
  refine lv_bipush (v := 8) hx hb dX0_set_23 (by decide) ?_
  refine lv_imul hx hb dX0_set_25 ?_
  refine W.eq (g2 := F0 m 26 ls [.int 832, .ref a1]) (by rfl) ?_
  refine lv_iload_n hx hb dX0_set_26 rfl (lv_at hl 0 rfl) ?_
  refine lv_iadd hx hb dX0_set_27 ?_
  refine W.eq (g2 := F0 m 28 ls [.int 837, .ref a1]) (by rfl) ?_
  refine lv_iload_n hx hb dX0_set_28 rfl (lv_at hl 3 rfl) ?_
  refine lv_if_ge (tgt := 36) hx hb dX0_set_29 (by decide) (fun _ => ?_) (fun h9 => absurd (by decide) h9)
  refine lv_iconst (v := 0) hx hb dX0_set_36 (by decide) ?_
  refine va_iast hx hb hK hP hD hS 1 0 rfl rfl (by unfold vp_in; decide) dX0_set_37 (fun H locs hP hD hS => ?_)
  obtain ⟨f6, ef6⟩ : ∃ f9, f9 = upd f5 (837 : Int32).toNatClampNeg 0 := ⟨_, rfl⟩
  rw [← ef6] at hP hD
  have hP : va_P (dC, dI) pcl [(h0, .inr (1, [.ref a1])), (a1, .inl (cB, 864, .inl f6))] H := hP
  have hD : va_D A [(h0, .inr (1, [.ref a1])), (a1, .inl (cB, 864, .inl f6))] := hD
  refine lv_iinc (v := 6) (lv' := [(3, .int 6), (0, .ref h0), (1, .int 104), (2, .int 3)]) hx hb dX0_set_38 hl (k := 0) rfl (by decide) (by decide) rfl (fun ls hl => ?_)
  refine lv_goto (tgt := 12) hx hb dX0_set_41 (by decide) ?_
  refine lv_iload_n hx hb dX0_set_12 rfl (lv_at hl 0 rfl) ?_
  refine lv_bipush (v := 8) hx hb dX0_set_13 (by decide) ?_
  refine lv_icmp_ge (tgt := 44) hx hb dX0_set_15 (by decide) (fun h9 => absurd h9 (by decide)) (fun _ => ?_)
  refine lv_aload_n hx hb dX0_set_18 rfl (lv_at hl 1 rfl) ?_
  refine va_get (D := (dC, dI)) (ci := 1) (v := .ref a1) (C := RX0) (T := TX0) (N := 1) hx hb hts pinX0 hown hK hP 0 rfl rfl 0 (by decide) (hts _ e4) (fun _ h9 => h9) rfl dX0_set_19 ?_
  refine lv_iload_n hx hb dX0_set_22 rfl (lv_at hl 2 rfl) ?_
  refine lv_bipush (v := 8) hx hb dX0_set_23 (by decide) ?_
  refine lv_imul hx hb dX0_set_25 ?_
  refine W.eq (g2 := F0 m 26 ls [.int 832, .ref a1]) (by rfl) ?_
  refine lv_iload_n hx hb dX0_set_26 rfl (lv_at hl 0 rfl) ?_
  refine lv_iadd hx hb dX0_set_27 ?_
  refine W.eq (g2 := F0 m 28 ls [.int 838, .ref a1]) (by rfl) ?_
  refine lv_iload_n hx hb dX0_set_28 rfl (lv_at hl 3 rfl) ?_
  refine lv_if_ge (tgt := 36) hx hb dX0_set_29 (by decide) (fun _ => ?_) (fun h9 => absurd (by decide) h9)
  refine lv_iconst (v := 0) hx hb dX0_set_36 (by decide) ?_
  refine va_iast hx hb hK hP hD hS 1 0 rfl rfl (by unfold vp_in; decide) dX0_set_37 (fun H locs hP hD hS => ?_)
  obtain ⟨f7, ef7⟩ : ∃ f9, f9 = upd f6 (838 : Int32).toNatClampNeg 0 := ⟨_, rfl⟩
  rw [← ef7] at hP hD
  have hP : va_P (dC, dI) pcl [(h0, .inr (1, [.ref a1])), (a1, .inl (cB, 864, .inl f7))] H := hP
  have hD : va_D A [(h0, .inr (1, [.ref a1])), (a1, .inl (cB, 864, .inl f7))] := hD
  refine lv_iinc (v := 7) (lv' := [(3, .int 7), (0, .ref h0), (1, .int 104), (2, .int 3)]) hx hb dX0_set_38 hl (k := 0) rfl (by decide) (by decide) rfl (fun ls hl => ?_)
  refine lv_goto (tgt := 12) hx hb dX0_set_41 (by decide) ?_
  refine lv_iload_n hx hb dX0_set_12 rfl (lv_at hl 0 rfl) ?_
  refine lv_bipush (v := 8) hx hb dX0_set_13 (by decide) ?_
  refine lv_icmp_ge (tgt := 44) hx hb dX0_set_15 (by decide) (fun h9 => absurd h9 (by decide)) (fun _ => ?_)
  refine lv_aload_n hx hb dX0_set_18 rfl (lv_at hl 1 rfl) ?_
  refine va_get (D := (dC, dI)) (ci := 1) (v := .ref a1) (C := RX0) (T := TX0) (N := 1) hx hb hts pinX0 hown hK hP 0 rfl rfl 0 (by decide) (hts _ e4) (fun _ h9 => h9) rfl dX0_set_19 ?_
  refine lv_iload_n hx hb dX0_set_22 rfl (lv_at hl 2 rfl) ?_
  refine lv_bipush (v := 8) hx hb dX0_set_23 (by decide) ?_
  refine lv_imul hx hb dX0_set_25 ?_
  refine W.eq (g2 := F0 m 26 ls [.int 832, .ref a1]) (by rfl) ?_
  refine lv_iload_n hx hb dX0_set_26 rfl (lv_at hl 0 rfl) ?_
  refine lv_iadd hx hb dX0_set_27 ?_
  refine W.eq (g2 := F0 m 28 ls [.int 839, .ref a1]) (by rfl) ?_
  refine lv_iload_n hx hb dX0_set_28 rfl (lv_at hl 3 rfl) ?_
  refine lv_if_ge (tgt := 36) hx hb dX0_set_29 (by decide) (fun _ => ?_) (fun h9 => absurd (by decide) h9)
  refine lv_iconst (v := 0) hx hb dX0_set_36 (by decide) ?_
  refine va_iast hx hb hK hP hD hS 1 0 rfl rfl (by unfold vp_in; decide) dX0_set_37 (fun H locs hP hD hS => ?_)
  obtain ⟨f8, ef8⟩ : ∃ f9, f9 = upd f7 (839 : Int32).toNatClampNeg 0 := ⟨_, rfl⟩
  rw [← ef8] at hP hD
  have hP : va_P (dC, dI) pcl [(h0, .inr (1, [.ref a1])), (a1, .inl (cB, 864, .inl f8))] H := hP
  have hD : va_D A [(h0, .inr (1, [.ref a1])), (a1, .inl (cB, 864, .inl f8))] := hD
  refine lv_iinc (v := 8) (lv' := [(3, .int 8), (0, .ref h0), (1, .int 104), (2, .int 3)]) hx hb dX0_set_38 hl (k := 0) rfl (by decide) (by decide) rfl (fun ls hl => ?_)
  refine lv_goto (tgt := 12) hx hb dX0_set_41 (by decide) ?_
  refine lv_iload_n hx hb dX0_set_12 rfl (lv_at hl 0 rfl) ?_
  refine lv_bipush (v := 8) hx hb dX0_set_13 (by decide) ?_
  refine lv_icmp_ge (tgt := 44) hx hb dX0_set_15 (by decide) (fun _ => ?_) (fun h9 => absurd (by decide) h9)
  have hP9 := hP.sub (ws' := [(h0, .inr (1, [.ref a1])), (a1, .inl (cB, 864, .inl f8))]) [0, 1] rfl
  have hD9 := hD.sub (ws' := [(h0, .inr (1, [.ref a1])), (a1, .inl (cB, 864, .inl f8))]) [0, 1] (by decide) rfl
  have hK9 := hK.sub (tys' := [(cB, .int)]) [0] rfl
  refine W.widen (k := 0) (n := 0) (Nat.le_of_ble_eq_true rfl) (Nat.le_of_ble_eq_true rfl) ?_
  exact W.vret hx hb hr (fun t ht hW => ⟨⟨(), rfl, trivial, f8, by rw [ht]; exact hP9, va_K.moved hW.alike hK9, hD9⟩, hS.F ht⟩) hS.2.2 dX0_set_44
