set_option maxHeartbeats 4000000 in
set_option maxRecDepth 100000 in
theorem c_X0_init (l : Launch) (dC : Nat → ClassId) (dI : Nat → Nat → Nat) (z : pG) (h0 : Nat) (sz : Nat) : Met l yX0_init (ws_ yX0_init cX0_init 1 none) ({ frames := 1, cells := 1, slots := 864, locals := 12 }) (va_Pc [.ref h0] (pPre z dC dI [(h0, .inr (1, [.null]))] [] sz)) (va_Qv (fun (_ : Unit) => True) (fun _ t => ∃ (a1 : Nat) (cB : ClassId), pPost dC dI (va_A [(h0, .inr (1, [.null]))] sz) [(h0, .inr (1, [.ref a1])), (a1, .inl (cB, 864, .inl (fun _ => 0)))] [(cB, .int)] t) (va_A [(h0, .inr (1, [.null]))] sz)) 1 864 (va_A [(h0, .inr (1, [.null]))] sz) := by
  refine Met.ofW (cc := cX0_init) (maxL := 1) (ret := none) (by decide) rfl ?_
  intro p e s m args below meth c s₁ B hml hv
  obtain ⟨rfl, hsz, hP, hK, hD0, hE⟩ := hv
  have hx := B.exec
  have hb := B.bytes
  have hr := B.returns
  have hts0 := atoms_spec (ws := ws_ yX0_init cX0_init 1 none) B.pre
  have hts := fun (w : Cond) (h : w ∈ pw) => hts0 w (List.mem_cons_of_mem _ h)
  have hown : s.vm.findClass RX0 = some m.cls := findClass_of_methodNamed B.named
  have hlocks := B.notSynchronized
  have hin : meth.name = "<init>" := (name_of_methodNamed B.named B.method).1
  subst hsz
  have hD := hD0.self (sz := s.heap.size)
  generalize hAe : va_A [(h0, .inr (1, [.null]))] s.heap.size = A at hD hE ⊢
  have hA : ∀ q : Nat, s.heap.size ≤ q → A q := fun q h => by rw [← hAe]; exact Or.inr h
  have hS : va_S A s.heap s.heap [] := va_S.rf
  have hN := hE.1
  have hP : va_P (dC, dI) pcl [(h0, .inr (1, [.null]))] s.heap := hP
  have hl := lv_entry ([.ref h0]) (n := 1) (Nat.le_of_ble_eq_true rfl)
  rw [lg_entry_eq]
  generalize (lg_sl ([.ref h0]) ++ List.replicate (1 - (lg_sl ([.ref h0])).length) Slot.unset).toArray = ls at hl ⊢
  have hl : lv_has ls 1 [(0, .ref h0)] := hl
  obtain ⟨H, hH0⟩ : ∃ H, H = s.heap := ⟨_, rfl⟩
  rw [← hH0] at hP ⊢
  have hS : va_S A s.heap H [] := by rw [hH0]; exact hS
  refine lv_aload_n hx hb dX0_init_0 rfl (lv_at hl 0 rfl) ?_
  refine W.objInit hx hb hown (hts _ e0) (hts _ e1) (hts _ e2) rfl (by rw [hml]; exact hl.1) rfl dX0_init_1 (Nat.le_of_ble_eq_true rfl) (Nat.le_of_ble_eq_true rfl) ?_
  refine W.eq (g2 := F0 m 4 ls []) rfl ?_
  refine lv_aload_n hx hb dX0_init_4 rfl (lv_at hl 0 rfl) ?_
  refine lv_sipush (v := 864) hx hb dX0_init_5 (by decide) ?_
  refine va_newa (atype := .int) (N' := 864) (a0 := (864, .inl (fun _ => 0))) hx hb (hts _ e3) rfl hK hP hD hS hA (fun _ => rfl) (by decide) (by decide) (Nat.le_of_ble_eq_true rfl) (Nat.le_of_ble_eq_true rfl) (Nat.le_of_ble_eq_true rfl) dX0_init_8 (fun q1 cA2 H hK hP hD hS => ?_)
  have hP : va_P (dC, dI) pcl [(h0, .inr (1, [.null])), (q1, .inl (cA2, 864, .inl (fun _ => 0)))] H := hP
  have hD : va_D A [(h0, .inr (1, [.null])), (q1, .inl (cA2, 864, .inl (fun _ => 0)))] := hD
  have hK : va_K (dC, dI) pcl [(cA2, .int)] s := hK
  refine W.widen (k := 1) (n := 864) (Nat.le_of_ble_eq_true rfl) (Nat.le_of_ble_eq_true rfl) ?_
  refine va_putF (D := (dC, dI)) (ci := 1) (v := .ref q1) (ty := .array .int) (C := RX0) (T := TX0) (N := 1) hx hb hts pinX0 tyX0 tyX0_ok nmX0 hown hK hP hD hS 0 rfl rfl 0 (by decide) (hts _ e4) (fun _ h9 => h9) rfl hin rfl (by decide +kernel) rfl rfl (Nat.le_of_ble_eq_true rfl) dX0_init_10 (fun H locs hP hD hS => ?_)
  have hP : va_P (dC, dI) pcl [(h0, .inr (1, [.ref q1])), (q1, .inl (cA2, 864, .inl (fun _ => 0)))] H := hP
  have hD : va_D A [(h0, .inr (1, [.ref q1])), (q1, .inl (cA2, 864, .inl (fun _ => 0)))] := hD
  have hP9 := hP.sub (ws' := [(h0, .inr (1, [.ref q1])), (q1, .inl (cA2, 864, .inl (fun _ => 0)))]) [0, 1] rfl
  have hD9 := hD.sub (ws' := [(h0, .inr (1, [.ref q1])), (q1, .inl (cA2, 864, .inl (fun _ => 0)))]) [0, 1] (by decide) rfl
  have hK9 := hK.sub (tys' := [(cA2, .int)]) [0] rfl
  refine W.widen (k := 1) (n := 864) (Nat.le_of_ble_eq_true rfl) (Nat.le_of_ble_eq_true rfl) ?_
  exact W.vret hx hb hr (fun t ht hW => ⟨⟨(), rfl, trivial, q1, cA2, by rw [ht]; exact hP9, va_K.moved hW.alike hK9, hD9⟩, hS.F ht⟩) hS.2.2 dX0_init_13
set_option maxHeartbeats 4000000 in
set_option maxRecDepth 100000 in
theorem c_X7_init (l : Launch) (dC : Nat → ClassId) (dI : Nat → Nat → Nat) (z : pG) (h0 : Nat) (sz : Nat) : Met l yX7_init (ws_ yX7_init cX7_init 1 none) ({ frames := 1, cells := 1, slots := 160, locals := 12 }) (va_Pc [.ref h0] (pPre z dC dI [(h0, .inr (8, [.null, .int 0]))] [] sz)) (va_Qv (fun (_ : Unit) => True) (fun _ t => ∃ (a1 : Nat), pPost dC dI (va_A [(h0, .inr (8, [.null, .int 0]))] sz) [(h0, .inr (8, [.ref a1, .int 0]))] [] t) (va_A [(h0, .inr (8, [.null, .int 0]))] sz)) 1 160 (va_A [(h0, .inr (8, [.null, .int 0]))] sz) := by
  refine Met.ofW (cc := cX7_init) (maxL := 1) (ret := none) (by decide) rfl ?_
  intro p e s m args below meth c s₁ B hml hv
  obtain ⟨rfl, hsz, hP, hK, hD0, hE⟩ := hv
  have hx := B.exec
  have hb := B.bytes
  have hr := B.returns
  have hts0 := atoms_spec (ws := ws_ yX7_init cX7_init 1 none) B.pre
  have hts := fun (w : Cond) (h : w ∈ pw) => hts0 w (List.mem_cons_of_mem _ h)
  have hown : s.vm.findClass RX7 = some m.cls := findClass_of_methodNamed B.named
  have hlocks := B.notSynchronized
  have hin : meth.name = "<init>" := (name_of_methodNamed B.named B.method).1
  subst hsz
  have hD := hD0.self (sz := s.heap.size)
  generalize hAe : va_A [(h0, .inr (8, [.null, .int 0]))] s.heap.size = A at hD hE ⊢
  have hA : ∀ q : Nat, s.heap.size ≤ q → A q := fun q h => by rw [← hAe]; exact Or.inr h
  have hS : va_S A s.heap s.heap [] := va_S.rf
  have hN := hE.1
  have hP : va_P (dC, dI) pcl [(h0, .inr (8, [.null, .int 0]))] s.heap := hP
  have hl := lv_entry ([.ref h0]) (n := 1) (Nat.le_of_ble_eq_true rfl)
  rw [lg_entry_eq]
  generalize (lg_sl ([.ref h0]) ++ List.replicate (1 - (lg_sl ([.ref h0])).length) Slot.unset).toArray = ls at hl ⊢
  have hl : lv_has ls 1 [(0, .ref h0)] := hl
  obtain ⟨H, hH0⟩ : ∃ H, H = s.heap := ⟨_, rfl⟩
  rw [← hH0] at hP ⊢
  have hS : va_S A s.heap H [] := by rw [hH0]; exact hS
  refine lv_aload_n hx hb dX7_init_0 rfl (lv_at hl 0 rfl) ?_
  refine W.objInit hx hb hown (hts _ e90) (hts _ e1) (hts _ e2) rfl (by rw [hml]; exact hl.1) rfl dX7_init_1 (Nat.le_of_ble_eq_true rfl) (Nat.le_of_ble_eq_true rfl) ?_
  refine W.eq (g2 := F0 m 4 ls []) rfl ?_
  refine lv_aload_n hx hb dX7_init_4 rfl (lv_at hl 0 rfl) ?_
  refine lv_sipush (v := 160) hx hb dX7_init_5 (by decide) ?_
  refine va_newa (atype := .int) (N' := 160) (a0 := (160, .inl (fun _ => 0))) hx hb (hts _ e3) rfl hK hP hD hS hA (fun _ => rfl) (by decide) (by decide) (Nat.le_of_ble_eq_true rfl) (Nat.le_of_ble_eq_true rfl) (Nat.le_of_ble_eq_true rfl) dX7_init_8 (fun q1 cA2 H hK hP hD hS => ?_)
  have hP : va_P (dC, dI) pcl [(h0, .inr (8, [.null, .int 0])), (q1, .inl (cA2, 160, .inl (fun _ => 0)))] H := hP
  have hD : va_D A [(h0, .inr (8, [.null, .int 0])), (q1, .inl (cA2, 160, .inl (fun _ => 0)))] := hD
  have hK : va_K (dC, dI) pcl [(cA2, .int)] s := hK
  refine W.widen (k := 1) (n := 160) (Nat.le_of_ble_eq_true rfl) (Nat.le_of_ble_eq_true rfl) ?_
  refine va_put (D := (dC, dI)) (ci := 8) (v := .ref q1) (ty := .array .int) (C := RX7) (T := TX7) (N := 2) hx hb hts pinX7 tyX7 tyX7_ok nmX7 hown hK hP hD hS 0 rfl rfl 0 (by decide) (hts _ e91) (fun _ h9 => h9) rfl (by decide +kernel) rfl rfl (Nat.le_of_ble_eq_true rfl) dX7_init_10 (fun H locs hP hD hS => ?_)
  have hP : va_P (dC, dI) pcl [(h0, .inr (8, [.ref q1, .int 0])), (q1, .inl (cA2, 160, .inl (fun _ => 0)))] H := hP
  have hD : va_D A [(h0, .inr (8, [.ref q1, .int 0])), (q1, .inl (cA2, 160, .inl (fun _ => 0)))] := hD
  have hP9 := hP.sub (ws' := [(h0, .inr (8, [.ref q1, .int 0]))]) [0] rfl
  have hD9 := hD.sub (ws' := [(h0, .inr (8, [.ref q1, .int 0]))]) [0] (by decide) rfl
  have hK9 := hK.sub (tys' := []) [] rfl
  refine W.widen (k := 1) (n := 160) (Nat.le_of_ble_eq_true rfl) (Nat.le_of_ble_eq_true rfl) ?_
  exact W.vret hx hb hr (fun t ht hW => ⟨⟨(), rfl, trivial, q1, by rw [ht]; exact hP9, va_K.moved hW.alike hK9, hD9⟩, hS.F ht⟩) hS.2.2 dX7_init_13
set_option maxHeartbeats 4000000 in
set_option maxRecDepth 100000 in
theorem c_X10_init (l : Launch) (dC : Nat → ClassId) (dI : Nat → Nat → Nat) (z : pG) (h0 : Nat) (sz : Nat) : Met l yX10_init (ws_ yX10_init cX10_init 1 none) ({ frames := 1, cells := 3, slots := 1311, locals := 12 }) (va_Pc [.ref h0] (pPre z dC dI [(h0, .inr (11, [.null, .null, .null, .int 0]))] [] sz)) (va_Qv (fun (_ : Unit) => True) (fun _ t => ∃ (a1 : Nat) (a2 : Nat) (a3 : Nat), pPost dC dI (va_A [(h0, .inr (11, [.null, .null, .null, .int 0]))] sz) [(h0, .inr (11, [.ref a1, .ref a2, .ref a3, .int 0]))] [] t) (va_A [(h0, .inr (11, [.null, .null, .null, .int 0]))] sz)) 3 1311 (va_A [(h0, .inr (11, [.null, .null, .null, .int 0]))] sz) := by
  refine Met.ofW (cc := cX10_init) (maxL := 1) (ret := none) (by decide) rfl ?_
  intro p e s m args below meth c s₁ B hml hv
  obtain ⟨rfl, hsz, hP, hK, hD0, hE⟩ := hv
  have hx := B.exec
  have hb := B.bytes
  have hr := B.returns
  have hts0 := atoms_spec (ws := ws_ yX10_init cX10_init 1 none) B.pre
  have hts := fun (w : Cond) (h : w ∈ pw) => hts0 w (List.mem_cons_of_mem _ h)
  have hown : s.vm.findClass RX10 = some m.cls := findClass_of_methodNamed B.named
  have hlocks := B.notSynchronized
  have hin : meth.name = "<init>" := (name_of_methodNamed B.named B.method).1
  subst hsz
  have hD := hD0.self (sz := s.heap.size)
  generalize hAe : va_A [(h0, .inr (11, [.null, .null, .null, .int 0]))] s.heap.size = A at hD hE ⊢
  have hA : ∀ q : Nat, s.heap.size ≤ q → A q := fun q h => by rw [← hAe]; exact Or.inr h
  have hS : va_S A s.heap s.heap [] := va_S.rf
  have hN := hE.1
  have hP : va_P (dC, dI) pcl [(h0, .inr (11, [.null, .null, .null, .int 0]))] s.heap := hP
  have hl := lv_entry ([.ref h0]) (n := 1) (Nat.le_of_ble_eq_true rfl)
  rw [lg_entry_eq]
  generalize (lg_sl ([.ref h0]) ++ List.replicate (1 - (lg_sl ([.ref h0])).length) Slot.unset).toArray = ls at hl ⊢
  have hl : lv_has ls 1 [(0, .ref h0)] := hl
  obtain ⟨H, hH0⟩ : ∃ H, H = s.heap := ⟨_, rfl⟩
  rw [← hH0] at hP ⊢
  have hS : va_S A s.heap H [] := by rw [hH0]; exact hS
  refine lv_aload_n hx hb dX10_init_0 rfl (lv_at hl 0 rfl) ?_
  refine W.objInit hx hb hown (hts _ e114) (hts _ e1) (hts _ e2) rfl (by rw [hml]; exact hl.1) rfl dX10_init_1 (Nat.le_of_ble_eq_true rfl) (Nat.le_of_ble_eq_true rfl) ?_
  refine W.eq (g2 := F0 m 4 ls []) rfl ?_
  refine lv_aload_n hx hb dX10_init_4 rfl (lv_at hl 0 rfl) ?_
  refine lv_bipush (v := 40) hx hb dX10_init_5 (by decide) ?_
  refine va_newa (atype := .int) (N' := 40) (a0 := (40, .inl (fun _ => 0))) hx hb (hts _ e3) rfl hK hP hD hS hA (fun _ => rfl) (by decide) (by decide) (Nat.le_of_ble_eq_true rfl) (Nat.le_of_ble_eq_true rfl) (Nat.le_of_ble_eq_true rfl) dX10_init_7 (fun q1 cA2 H hK hP hD hS => ?_)
  have hP : va_P (dC, dI) pcl [(h0, .inr (11, [.null, .null, .null, .int 0])), (q1, .inl (cA2, 40, .inl (fun _ => 0)))] H := hP
  have hD : va_D A [(h0, .inr (11, [.null, .null, .null, .int 0])), (q1, .inl (cA2, 40, .inl (fun _ => 0)))] := hD
  have hK : va_K (dC, dI) pcl [(cA2, .int)] s := hK
  refine W.widen (k := 1) (n := 40) (Nat.le_of_ble_eq_true rfl) (Nat.le_of_ble_eq_true rfl) ?_
  refine va_putF (D := (dC, dI)) (ci := 11) (v := .ref q1) (ty := .array .int) (C := RX10) (T := TX10) (N := 4) hx hb hts pinX10 tyX10 tyX10_ok nmX10 hown hK hP hD hS 0 rfl rfl 0 (by decide) (hts _ e115) (fun _ h9 => h9) rfl hin rfl (by decide +kernel) rfl rfl (Nat.le_of_ble_eq_true rfl) dX10_init_9 (fun H locs hP hD hS => ?_)
  have hP : va_P (dC, dI) pcl [(h0, .inr (11, [.ref q1, .null, .null, .int 0])), (q1, .inl (cA2, 40, .inl (fun _ => 0)))] H := hP
  have hD : va_D A [(h0, .inr (11, [.ref q1, .null, .null, .int 0])), (q1, .inl (cA2, 40, .inl (fun _ => 0)))] := hD
  refine lv_aload_n hx hb dX10_init_12 rfl (lv_at hl 0 rfl) ?_
  refine lv_sipush (v := 1240) hx hb dX10_init_13 (by decide) ?_
  refine va_newa (atype := .int) (N' := 1240) (a0 := (1240, .inl (fun _ => 0))) hx hb (hts _ e3) rfl hK hP hD hS hA (fun _ => rfl) (by decide) (by decide) (Nat.le_of_ble_eq_true rfl) (Nat.le_of_ble_eq_true rfl) (Nat.le_of_ble_eq_true rfl) dX10_init_16 (fun q3 cA4 H hK hP hD hS => ?_)
  have hP : va_P (dC, dI) pcl [(h0, .inr (11, [.ref q1, .null, .null, .int 0])), (q1, .inl (cA2, 40, .inl (fun _ => 0))), (q3, .inl (cA4, 1240, .inl (fun _ => 0)))] H := hP
  have hD : va_D A [(h0, .inr (11, [.ref q1, .null, .null, .int 0])), (q1, .inl (cA2, 40, .inl (fun _ => 0))), (q3, .inl (cA4, 1240, .inl (fun _ => 0)))] := hD
  have hK : va_K (dC, dI) pcl [(cA2, .int), (cA4, .int)] s := hK
  refine W.widen (k := 2) (n := 1280) (Nat.le_of_ble_eq_true rfl) (Nat.le_of_ble_eq_true rfl) ?_
  refine va_putF (D := (dC, dI)) (ci := 11) (v := .ref q3) (ty := .array .int) (C := RX10) (T := TX10) (N := 4) hx hb hts pinX10 tyX10 tyX10_ok nmX10 hown hK hP hD hS 0 rfl rfl 1 (by decide) (hts _ e116) (fun _ h9 => h9) rfl hin rfl (by decide +kernel) rfl rfl (Nat.le_of_ble_eq_true rfl) dX10_init_18 (fun H locs hP hD hS => ?_)
  have hP : va_P (dC, dI) pcl [(h0, .inr (11, [.ref q1, .ref q3, .null, .int 0])), (q1, .inl (cA2, 40, .inl (fun _ => 0))), (q3, .inl (cA4, 1240, .inl (fun _ => 0)))] H := hP
  have hD : va_D A [(h0, .inr (11, [.ref q1, .ref q3, .null, .int 0])), (q1, .inl (cA2, 40, .inl (fun _ => 0))), (q3, .inl (cA4, 1240, .inl (fun _ => 0)))] := hD
  refine lv_aload_n hx hb dX10_init_21 rfl (lv_at hl 0 rfl) ?_
  refine lv_bipush (v := 31) hx hb dX10_init_22 (by decide) ?_
  refine va_newa (atype := .int) (N' := 31) (a0 := (31, .inl (fun _ => 0))) hx hb (hts _ e3) rfl hK hP hD hS hA (fun _ => rfl) (by decide) (by decide) (Nat.le_of_ble_eq_true rfl) (Nat.le_of_ble_eq_true rfl) (Nat.le_of_ble_eq_true rfl) dX10_init_24 (fun q5 cA6 H hK hP hD hS => ?_)
  have hP : va_P (dC, dI) pcl [(h0, .inr (11, [.ref q1, .ref q3, .null, .int 0])), (q1, .inl (cA2, 40, .inl (fun _ => 0))), (q3, .inl (cA4, 1240, .inl (fun _ => 0))), (q5, .inl (cA6, 31, .inl (fun _ => 0)))] H := hP
  have hD : va_D A [(h0, .inr (11, [.ref q1, .ref q3, .null, .int 0])), (q1, .inl (cA2, 40, .inl (fun _ => 0))), (q3, .inl (cA4, 1240, .inl (fun _ => 0))), (q5, .inl (cA6, 31, .inl (fun _ => 0)))] := hD
  have hK : va_K (dC, dI) pcl [(cA2, .int), (cA4, .int), (cA6, .int)] s := hK
  refine W.widen (k := 3) (n := 1311) (Nat.le_of_ble_eq_true rfl) (Nat.le_of_ble_eq_true rfl) ?_
  refine va_putF (D := (dC, dI)) (ci := 11) (v := .ref q5) (ty := .array .int) (C := RX10) (T := TX10) (N := 4) hx hb hts pinX10 tyX10 tyX10_ok nmX10 hown hK hP hD hS 0 rfl rfl 2 (by decide) (hts _ e117) (fun _ h9 => h9) rfl hin rfl (by decide +kernel) rfl rfl (Nat.le_of_ble_eq_true rfl) dX10_init_26 (fun H locs hP hD hS => ?_)
  have hP : va_P (dC, dI) pcl [(h0, .inr (11, [.ref q1, .ref q3, .ref q5, .int 0])), (q1, .inl (cA2, 40, .inl (fun _ => 0))), (q3, .inl (cA4, 1240, .inl (fun _ => 0))), (q5, .inl (cA6, 31, .inl (fun _ => 0)))] H := hP
  have hD : va_D A [(h0, .inr (11, [.ref q1, .ref q3, .ref q5, .int 0])), (q1, .inl (cA2, 40, .inl (fun _ => 0))), (q3, .inl (cA4, 1240, .inl (fun _ => 0))), (q5, .inl (cA6, 31, .inl (fun _ => 0)))] := hD
  have hP9 := hP.sub (ws' := [(h0, .inr (11, [.ref q1, .ref q3, .ref q5, .int 0]))]) [0] rfl
  have hD9 := hD.sub (ws' := [(h0, .inr (11, [.ref q1, .ref q3, .ref q5, .int 0]))]) [0] (by decide) rfl
  have hK9 := hK.sub (tys' := []) [] rfl
  refine W.widen (k := 3) (n := 1311) (Nat.le_of_ble_eq_true rfl) (Nat.le_of_ble_eq_true rfl) ?_
  exact W.vret hx hb hr (fun t ht hW => ⟨⟨(), rfl, trivial, q1, q3, q5, by rw [ht]; exact hP9, va_K.moved hW.alike hK9, hD9⟩, hS.F ht⟩) hS.2.2 dX10_init_29
set_option maxHeartbeats 4000000 in
set_option maxRecDepth 100000 in
theorem c_X1_init (l : Launch) (dC : Nat → ClassId) (dI : Nat → Nat → Nat) (z : pG) (h0 : Nat) (sz : Nat) : Met l yX1_init (ws_ yX1_init cX1_init 1 none) ({ frames := 1, cells := 10, slots := 2640, locals := 12 }) (va_Pc [.ref h0] (pPre z dC dI [(h0, .inr (2, [.null, .null, .null, .null, .null, .null, .null, .null, .null, .null, .int 0, .int 0, .int 0]))] [] sz)) (va_Qv (fun (_ : Unit) => True) (fun _ t => ∃ (a1 : Nat) (a2 : Nat) (a3 : Nat) (a4 : Nat) (a5 : Nat) (a6 : Nat) (a7 : Nat) (a8 : Nat) (a9 : Nat) (a10 : Nat), pPost dC dI (va_A [(h0, .inr (2, [.null, .null, .null, .null, .null, .null, .null, .null, .null, .null, .int 0, .int 0, .int 0]))] sz) [(h0, .inr (2, [.ref a1, .ref a2, .ref a3, .ref a4, .ref a5, .ref a6, .ref a7, .ref a8, .ref a9, .ref a10, .int 0, .int 0, .int 0]))] [] t) (va_A [(h0, .inr (2, [.null, .null, .null, .null, .null, .null, .null, .null, .null, .null, .int 0, .int 0, .int 0]))] sz)) 10 2640 (va_A [(h0, .inr (2, [.null, .null, .null, .null, .null, .null, .null, .null, .null, .null, .int 0, .int 0, .int 0]))] sz) := by
  refine Met.ofW (cc := cX1_init) (maxL := 1) (ret := none) (by decide) rfl ?_
  intro p e s m args below meth c s₁ B hml hv
  obtain ⟨rfl, hsz, hP, hK, hD0, hE⟩ := hv
  have hx := B.exec
  have hb := B.bytes
  have hr := B.returns
  have hts0 := atoms_spec (ws := ws_ yX1_init cX1_init 1 none) B.pre
  have hts := fun (w : Cond) (h : w ∈ pw) => hts0 w (List.mem_cons_of_mem _ h)
  have hown : s.vm.findClass RX1 = some m.cls := findClass_of_methodNamed B.named
  have hlocks := B.notSynchronized
  have hin : meth.name = "<init>" := (name_of_methodNamed B.named B.method).1
  subst hsz
  have hD := hD0.self (sz := s.heap.size)
  generalize hAe : va_A [(h0, .inr (2, [.null, .null, .null, .null, .null, .null, .null, .null, .null, .null, .int 0, .int 0, .int 0]))] s.heap.size = A at hD hE ⊢
  have hA : ∀ q : Nat, s.heap.size ≤ q → A q := fun q h => by rw [← hAe]; exact Or.inr h
  have hS : va_S A s.heap s.heap [] := va_S.rf
  have hN := hE.1
  have hP : va_P (dC, dI) pcl [(h0, .inr (2, [.null, .null, .null, .null, .null, .null, .null, .null, .null, .null, .int 0, .int 0, .int 0]))] s.heap := hP
  have hl := lv_entry ([.ref h0]) (n := 1) (Nat.le_of_ble_eq_true rfl)
  rw [lg_entry_eq]
  generalize (lg_sl ([.ref h0]) ++ List.replicate (1 - (lg_sl ([.ref h0])).length) Slot.unset).toArray = ls at hl ⊢
  have hl : lv_has ls 1 [(0, .ref h0)] := hl
  obtain ⟨H, hH0⟩ : ∃ H, H = s.heap := ⟨_, rfl⟩
  rw [← hH0] at hP ⊢
  have hS : va_S A s.heap H [] := by rw [hH0]; exact hS
  refine lv_aload_n hx hb dX1_init_0 rfl (lv_at hl 0 rfl) ?_
  refine W.objInit hx hb hown (hts _ e5) (hts _ e1) (hts _ e2) rfl (by rw [hml]; exact hl.1) rfl dX1_init_1 (Nat.le_of_ble_eq_true rfl) (Nat.le_of_ble_eq_true rfl) ?_
  refine W.eq (g2 := F0 m 4 ls []) rfl ?_
  refine lv_aload_n hx hb dX1_init_4 rfl (lv_at hl 0 rfl) ?_
  refine lv_bipush (v := 30) hx hb dX1_init_5 (by decide) ?_
  refine va_newa (atype := .int) (N' := 30) (a0 := (30, .inl (fun _ => 0))) hx hb (hts _ e3) rfl hK hP hD hS hA (fun _ => rfl) (by decide) (by decide) (Nat.le_of_ble_eq_true rfl) (Nat.le_of_ble_eq_true rfl) (Nat.le_of_ble_eq_true rfl) dX1_init_7 (fun q1 cA2 H hK hP hD hS => ?_)
  have hP : va_P (dC, dI) pcl [(h0, .inr (2, [.null, .null, .null, .null, .null, .null, .null, .null, .null, .null, .int 0, .int 0, .int 0])), (q1, .inl (cA2, 30, .inl (fun _ => 0)))] H := hP
  have hD : va_D A [(h0, .inr (2, [.null, .null, .null, .null, .null, .null, .null, .null, .null, .null, .int 0, .int 0, .int 0])), (q1, .inl (cA2, 30, .inl (fun _ => 0)))] := hD
  have hK : va_K (dC, dI) pcl [(cA2, .int)] s := hK
  refine W.widen (k := 1) (n := 30) (Nat.le_of_ble_eq_true rfl) (Nat.le_of_ble_eq_true rfl) ?_
  refine va_putF (D := (dC, dI)) (ci := 2) (v := .ref q1) (ty := .array .int) (C := RX1) (T := TX1) (N := 13) hx hb hts pinX1 tyX1 tyX1_ok nmX1 hown hK hP hD hS 0 rfl rfl 0 (by decide) (hts _ e6) (fun _ h9 => h9) rfl hin rfl (by decide +kernel) rfl rfl (Nat.le_of_ble_eq_true rfl) dX1_init_9 (fun H locs hP hD hS => ?_)
  have hP : va_P (dC, dI) pcl [(h0, .inr (2, [.ref q1, .null, .null, .null, .null, .null, .null, .null, .null, .null, .int 0, .int 0, .int 0])), (q1, .inl (cA2, 30, .inl (fun _ => 0)))] H := hP
  have hD : va_D A [(h0, .inr (2, [.ref q1, .null, .null, .null, .null, .null, .null, .null, .null, .null, .int 0, .int 0, .int 0])), (q1, .inl (cA2, 30, .inl (fun _ => 0)))] := hD
  refine lv_aload_n hx hb dX1_init_12 rfl (lv_at hl 0 rfl) ?_
  refine lv_bipush (v := 30) hx hb dX1_init_13 (by decide) ?_
  refine va_newa (atype := .int) (N' := 30) (a0 := (30, .inl (fun _ => 0))) hx hb (hts _ e3) rfl hK hP hD hS hA (fun _ => rfl) (by decide) (by decide) (Nat.le_of_ble_eq_true rfl) (Nat.le_of_ble_eq_true rfl) (Nat.le_of_ble_eq_true rfl) dX1_init_15 (fun q3 cA4 H hK hP hD hS => ?_)
  have hP : va_P (dC, dI) pcl [(h0, .inr (2, [.ref q1, .null, .null, .null, .null, .null, .null, .null, .null, .null, .int 0, .int 0, .int 0])), (q1, .inl (cA2, 30, .inl (fun _ => 0))), (q3, .inl (cA4, 30, .inl (fun _ => 0)))] H := hP
  have hD : va_D A [(h0, .inr (2, [.ref q1, .null, .null, .null, .null, .null, .null, .null, .null, .null, .int 0, .int 0, .int 0])), (q1, .inl (cA2, 30, .inl (fun _ => 0))), (q3, .inl (cA4, 30, .inl (fun _ => 0)))] := hD
  have hK : va_K (dC, dI) pcl [(cA2, .int), (cA4, .int)] s := hK
  refine W.widen (k := 2) (n := 60) (Nat.le_of_ble_eq_true rfl) (Nat.le_of_ble_eq_true rfl) ?_
  refine va_putF (D := (dC, dI)) (ci := 2) (v := .ref q3) (ty := .array .int) (C := RX1) (T := TX1) (N := 13) hx hb hts pinX1 tyX1 tyX1_ok nmX1 hown hK hP hD hS 0 rfl rfl 1 (by decide) (hts _ e7) (fun _ h9 => h9) rfl hin rfl (by decide +kernel) rfl rfl (Nat.le_of_ble_eq_true rfl) dX1_init_17 (fun H locs hP hD hS => ?_)
  have hP : va_P (dC, dI) pcl [(h0, .inr (2, [.ref q1, .ref q3, .null, .null, .null, .null, .null, .null, .null, .null, .int 0, .int 0, .int 0])), (q1, .inl (cA2, 30, .inl (fun _ => 0))), (q3, .inl (cA4, 30, .inl (fun _ => 0)))] H := hP
  have hD : va_D A [(h0, .inr (2, [.ref q1, .ref q3, .null, .null, .null, .null, .null, .null, .null, .null, .int 0, .int 0, .int 0])), (q1, .inl (cA2, 30, .inl (fun _ => 0))), (q3, .inl (cA4, 30, .inl (fun _ => 0)))] := hD
  refine lv_aload_n hx hb dX1_init_20 rfl (lv_at hl 0 rfl) ?_
  refine lv_bipush (v := 30) hx hb dX1_init_21 (by decide) ?_
  refine va_newa (atype := .int) (N' := 30) (a0 := (30, .inl (fun _ => 0))) hx hb (hts _ e3) rfl hK hP hD hS hA (fun _ => rfl) (by decide) (by decide) (Nat.le_of_ble_eq_true rfl) (Nat.le_of_ble_eq_true rfl) (Nat.le_of_ble_eq_true rfl) dX1_init_23 (fun q5 cA6 H hK hP hD hS => ?_)
  have hP : va_P (dC, dI) pcl [(h0, .inr (2, [.ref q1, .ref q3, .null, .null, .null, .null, .null, .null, .null, .null, .int 0, .int 0, .int 0])), (q1, .inl (cA2, 30, .inl (fun _ => 0))), (q3, .inl (cA4, 30, .inl (fun _ => 0))), (q5, .inl (cA6, 30, .inl (fun _ => 0)))] H := hP
  have hD : va_D A [(h0, .inr (2, [.ref q1, .ref q3, .null, .null, .null, .null, .null, .null, .null, .null, .int 0, .int 0, .int 0])), (q1, .inl (cA2, 30, .inl (fun _ => 0))), (q3, .inl (cA4, 30, .inl (fun _ => 0))), (q5, .inl (cA6, 30, .inl (fun _ => 0)))] := hD
  have hK : va_K (dC, dI) pcl [(cA2, .int), (cA4, .int), (cA6, .int)] s := hK
  refine W.widen (k := 3) (n := 90) (Nat.le_of_ble_eq_true rfl) (Nat.le_of_ble_eq_true rfl) ?_
  refine va_putF (D := (dC, dI)) (ci := 2) (v := .ref q5) (ty := .array .int) (C := RX1) (T := TX1) (N := 13) hx hb hts pinX1 tyX1 tyX1_ok nmX1 hown hK hP hD hS 0 rfl rfl 2 (by decide) (hts _ e8) (fun _ h9 => h9) rfl hin rfl (by decide +kernel) rfl rfl (Nat.le_of_ble_eq_true rfl) dX1_init_25 (fun H locs hP hD hS => ?_)
  have hP : va_P (dC, dI) pcl [(h0, .inr (2, [.ref q1, .ref q3, .ref q5, .null, .null, .null, .null, .null, .null, .null, .int 0, .int 0, .int 0])), (q1, .inl (cA2, 30, .inl (fun _ => 0))), (q3, .inl (cA4, 30, .inl (fun _ => 0))), (q5, .inl (cA6, 30, .inl (fun _ => 0)))] H := hP
  have hD : va_D A [(h0, .inr (2, [.ref q1, .ref q3, .ref q5, .null, .null, .null, .null, .null, .null, .null, .int 0, .int 0, .int 0])), (q1, .inl (cA2, 30, .inl (fun _ => 0))), (q3, .inl (cA4, 30, .inl (fun _ => 0))), (q5, .inl (cA6, 30, .inl (fun _ => 0)))] := hD
  refine lv_aload_n hx hb dX1_init_28 rfl (lv_at hl 0 rfl) ?_
  refine lv_bipush (v := 30) hx hb dX1_init_29 (by decide) ?_
  refine va_newa (atype := .boolean) (N' := 30) (a0 := (30, .inl (fun _ => 0))) hx hb (hts _ e9) rfl hK hP hD hS hA (fun _ => rfl) (by decide) (by decide) (Nat.le_of_ble_eq_true rfl) (Nat.le_of_ble_eq_true rfl) (Nat.le_of_ble_eq_true rfl) dX1_init_31 (fun q7 cA8 H hK hP hD hS => ?_)
  have hP : va_P (dC, dI) pcl [(h0, .inr (2, [.ref q1, .ref q3, .ref q5, .null, .null, .null, .null, .null, .null, .null, .int 0, .int 0, .int 0])), (q1, .inl (cA2, 30, .inl (fun _ => 0))), (q3, .inl (cA4, 30, .inl (fun _ => 0))), (q5, .inl (cA6, 30, .inl (fun _ => 0))), (q7, .inl (cA8, 30, .inl (fun _ => 0)))] H := hP
  have hD : va_D A [(h0, .inr (2, [.ref q1, .ref q3, .ref q5, .null, .null, .null, .null, .null, .null, .null, .int 0, .int 0, .int 0])), (q1, .inl (cA2, 30, .inl (fun _ => 0))), (q3, .inl (cA4, 30, .inl (fun _ => 0))), (q5, .inl (cA6, 30, .inl (fun _ => 0))), (q7, .inl (cA8, 30, .inl (fun _ => 0)))] := hD
  have hK : va_K (dC, dI) pcl [(cA2, .int), (cA4, .int), (cA6, .int), (cA8, .boolean)] s := hK
  refine W.widen (k := 4) (n := 120) (Nat.le_of_ble_eq_true rfl) (Nat.le_of_ble_eq_true rfl) ?_
  refine va_putF (D := (dC, dI)) (ci := 2) (v := .ref q7) (ty := .array (.boolean)) (C := RX1) (T := TX1) (N := 13) hx hb hts pinX1 tyX1 tyX1_ok nmX1 hown hK hP hD hS 0 rfl rfl 3 (by decide) (hts _ e10) (fun _ h9 => h9) rfl hin rfl (by decide +kernel) rfl rfl (Nat.le_of_ble_eq_true rfl) dX1_init_33 (fun H locs hP hD hS => ?_)
  have hP : va_P (dC, dI) pcl [(h0, .inr (2, [.ref q1, .ref q3, .ref q5, .ref q7, .null, .null, .null, .null, .null, .null, .int 0, .int 0, .int 0])), (q1, .inl (cA2, 30, .inl (fun _ => 0))), (q3, .inl (cA4, 30, .inl (fun _ => 0))), (q5, .inl (cA6, 30, .inl (fun _ => 0))), (q7, .inl (cA8, 30, .inl (fun _ => 0)))] H := hP
  have hD : va_D A [(h0, .inr (2, [.ref q1, .ref q3, .ref q5, .ref q7, .null, .null, .null, .null, .null, .null, .int 0, .int 0, .int 0])), (q1, .inl (cA2, 30, .inl (fun _ => 0))), (q3, .inl (cA4, 30, .inl (fun _ => 0))), (q5, .inl (cA6, 30, .inl (fun _ => 0))), (q7, .inl (cA8, 30, .inl (fun _ => 0)))] := hD
  refine lv_aload_n hx hb dX1_init_36 rfl (lv_at hl 0 rfl) ?_
  refine lv_bipush (v := 30) hx hb dX1_init_37 (by decide) ?_
  refine va_newa (atype := .int) (N' := 30) (a0 := (30, .inl (fun _ => 0))) hx hb (hts _ e3) rfl hK hP hD hS hA (fun _ => rfl) (by decide) (by decide) (Nat.le_of_ble_eq_true rfl) (Nat.le_of_ble_eq_true rfl) (Nat.le_of_ble_eq_true rfl) dX1_init_39 (fun q9 cA10 H hK hP hD hS => ?_)
  have hP : va_P (dC, dI) pcl [(h0, .inr (2, [.ref q1, .ref q3, .ref q5, .ref q7, .null, .null, .null, .null, .null, .null, .int 0, .int 0, .int 0])), (q1, .inl (cA2, 30, .inl (fun _ => 0))), (q3, .inl (cA4, 30, .inl (fun _ => 0))), (q5, .inl (cA6, 30, .inl (fun _ => 0))), (q7, .inl (cA8, 30, .inl (fun _ => 0))), (q9, .inl (cA10, 30, .inl (fun _ => 0)))] H := hP
  have hD : va_D A [(h0, .inr (2, [.ref q1, .ref q3, .ref q5, .ref q7, .null, .null, .null, .null, .null, .null, .int 0, .int 0, .int 0])), (q1, .inl (cA2, 30, .inl (fun _ => 0))), (q3, .inl (cA4, 30, .inl (fun _ => 0))), (q5, .inl (cA6, 30, .inl (fun _ => 0))), (q7, .inl (cA8, 30, .inl (fun _ => 0))), (q9, .inl (cA10, 30, .inl (fun _ => 0)))] := hD
  have hK : va_K (dC, dI) pcl [(cA2, .int), (cA4, .int), (cA6, .int), (cA8, .boolean), (cA10, .int)] s := hK
  refine W.widen (k := 5) (n := 150) (Nat.le_of_ble_eq_true rfl) (Nat.le_of_ble_eq_true rfl) ?_
  refine va_putF (D := (dC, dI)) (ci := 2) (v := .ref q9) (ty := .array .int) (C := RX1) (T := TX1) (N := 13) hx hb hts pinX1 tyX1 tyX1_ok nmX1 hown hK hP hD hS 0 rfl rfl 4 (by decide) (hts _ e11) (fun _ h9 => h9) rfl hin rfl (by decide +kernel) rfl rfl (Nat.le_of_ble_eq_true rfl) dX1_init_41 (fun H locs hP hD hS => ?_)
  have hP : va_P (dC, dI) pcl [(h0, .inr (2, [.ref q1, .ref q3, .ref q5, .ref q7, .ref q9, .null, .null, .null, .null, .null, .int 0, .int 0, .int 0])), (q1, .inl (cA2, 30, .inl (fun _ => 0))), (q3, .inl (cA4, 30, .inl (fun _ => 0))), (q5, .inl (cA6, 30, .inl (fun _ => 0))), (q7, .inl (cA8, 30, .inl (fun _ => 0))), (q9, .inl (cA10, 30, .inl (fun _ => 0)))] H := hP
  have hD : va_D A [(h0, .inr (2, [.ref q1, .ref q3, .ref q5, .ref q7, .ref q9, .null, .null, .null, .null, .null, .int 0, .int 0, .int 0])), (q1, .inl (cA2, 30, .inl (fun _ => 0))), (q3, .inl (cA4, 30, .inl (fun _ => 0))), (q5, .inl (cA6, 30, .inl (fun _ => 0))), (q7, .inl (cA8, 30, .inl (fun _ => 0))), (q9, .inl (cA10, 30, .inl (fun _ => 0)))] := hD
  refine lv_aload_n hx hb dX1_init_44 rfl (lv_at hl 0 rfl) ?_
  refine lv_bipush (v := 30) hx hb dX1_init_45 (by decide) ?_
  refine va_newa (atype := .int) (N' := 30) (a0 := (30, .inl (fun _ => 0))) hx hb (hts _ e3) rfl hK hP hD hS hA (fun _ => rfl) (by decide) (by decide) (Nat.le_of_ble_eq_true rfl) (Nat.le_of_ble_eq_true rfl) (Nat.le_of_ble_eq_true rfl) dX1_init_47 (fun q11 cA12 H hK hP hD hS => ?_)
  have hP : va_P (dC, dI) pcl [(h0, .inr (2, [.ref q1, .ref q3, .ref q5, .ref q7, .ref q9, .null, .null, .null, .null, .null, .int 0, .int 0, .int 0])), (q1, .inl (cA2, 30, .inl (fun _ => 0))), (q3, .inl (cA4, 30, .inl (fun _ => 0))), (q5, .inl (cA6, 30, .inl (fun _ => 0))), (q7, .inl (cA8, 30, .inl (fun _ => 0))), (q9, .inl (cA10, 30, .inl (fun _ => 0))), (q11, .inl (cA12, 30, .inl (fun _ => 0)))] H := hP
  have hD : va_D A [(h0, .inr (2, [.ref q1, .ref q3, .ref q5, .ref q7, .ref q9, .null, .null, .null, .null, .null, .int 0, .int 0, .int 0])), (q1, .inl (cA2, 30, .inl (fun _ => 0))), (q3, .inl (cA4, 30, .inl (fun _ => 0))), (q5, .inl (cA6, 30, .inl (fun _ => 0))), (q7, .inl (cA8, 30, .inl (fun _ => 0))), (q9, .inl (cA10, 30, .inl (fun _ => 0))), (q11, .inl (cA12, 30, .inl (fun _ => 0)))] := hD
  have hK : va_K (dC, dI) pcl [(cA2, .int), (cA4, .int), (cA6, .int), (cA8, .boolean), (cA10, .int), (cA12, .int)] s := hK
  refine W.widen (k := 6) (n := 180) (Nat.le_of_ble_eq_true rfl) (Nat.le_of_ble_eq_true rfl) ?_
  refine va_putF (D := (dC, dI)) (ci := 2) (v := .ref q11) (ty := .array .int) (C := RX1) (T := TX1) (N := 13) hx hb hts pinX1 tyX1 tyX1_ok nmX1 hown hK hP hD hS 0 rfl rfl 5 (by decide) (hts _ e12) (fun _ h9 => h9) rfl hin rfl (by decide +kernel) rfl rfl (Nat.le_of_ble_eq_true rfl) dX1_init_49 (fun H locs hP hD hS => ?_)
  have hP : va_P (dC, dI) pcl [(h0, .inr (2, [.ref q1, .ref q3, .ref q5, .ref q7, .ref q9, .ref q11, .null, .null, .null, .null, .int 0, .int 0, .int 0])), (q1, .inl (cA2, 30, .inl (fun _ => 0))), (q3, .inl (cA4, 30, .inl (fun _ => 0))), (q5, .inl (cA6, 30, .inl (fun _ => 0))), (q7, .inl (cA8, 30, .inl (fun _ => 0))), (q9, .inl (cA10, 30, .inl (fun _ => 0))), (q11, .inl (cA12, 30, .inl (fun _ => 0)))] H := hP
  have hD : va_D A [(h0, .inr (2, [.ref q1, .ref q3, .ref q5, .ref q7, .ref q9, .ref q11, .null, .null, .null, .null, .int 0, .int 0, .int 0])), (q1, .inl (cA2, 30, .inl (fun _ => 0))), (q3, .inl (cA4, 30, .inl (fun _ => 0))), (q5, .inl (cA6, 30, .inl (fun _ => 0))), (q7, .inl (cA8, 30, .inl (fun _ => 0))), (q9, .inl (cA10, 30, .inl (fun _ => 0))), (q11, .inl (cA12, 30, .inl (fun _ => 0)))] := hD
  refine lv_aload_n hx hb dX1_init_52 rfl (lv_at hl 0 rfl) ?_
  refine lv_bipush (v := 30) hx hb dX1_init_53 (by decide) ?_
  refine va_newa (atype := .int) (N' := 30) (a0 := (30, .inl (fun _ => 0))) hx hb (hts _ e3) rfl hK hP hD hS hA (fun _ => rfl) (by decide) (by decide) (Nat.le_of_ble_eq_true rfl) (Nat.le_of_ble_eq_true rfl) (Nat.le_of_ble_eq_true rfl) dX1_init_55 (fun q13 cA14 H hK hP hD hS => ?_)
  have hP : va_P (dC, dI) pcl [(h0, .inr (2, [.ref q1, .ref q3, .ref q5, .ref q7, .ref q9, .ref q11, .null, .null, .null, .null, .int 0, .int 0, .int 0])), (q1, .inl (cA2, 30, .inl (fun _ => 0))), (q3, .inl (cA4, 30, .inl (fun _ => 0))), (q5, .inl (cA6, 30, .inl (fun _ => 0))), (q7, .inl (cA8, 30, .inl (fun _ => 0))), (q9, .inl (cA10, 30, .inl (fun _ => 0))), (q11, .inl (cA12, 30, .inl (fun _ => 0))), (q13, .inl (cA14, 30, .inl (fun _ => 0)))] H := hP
  have hD : va_D A [(h0, .inr (2, [.ref q1, .ref q3, .ref q5, .ref q7, .ref q9, .ref q11, .null, .null, .null, .null, .int 0, .int 0, .int 0])), (q1, .inl (cA2, 30, .inl (fun _ => 0))), (q3, .inl (cA4, 30, .inl (fun _ => 0))), (q5, .inl (cA6, 30, .inl (fun _ => 0))), (q7, .inl (cA8, 30, .inl (fun _ => 0))), (q9, .inl (cA10, 30, .inl (fun _ => 0))), (q11, .inl (cA12, 30, .inl (fun _ => 0))), (q13, .inl (cA14, 30, .inl (fun _ => 0)))] := hD
  have hK : va_K (dC, dI) pcl [(cA2, .int), (cA4, .int), (cA6, .int), (cA8, .boolean), (cA10, .int), (cA12, .int), (cA14, .int)] s := hK
  refine W.widen (k := 7) (n := 210) (Nat.le_of_ble_eq_true rfl) (Nat.le_of_ble_eq_true rfl) ?_
  refine va_putF (D := (dC, dI)) (ci := 2) (v := .ref q13) (ty := .array .int) (C := RX1) (T := TX1) (N := 13) hx hb hts pinX1 tyX1 tyX1_ok nmX1 hown hK hP hD hS 0 rfl rfl 6 (by decide) (hts _ e13) (fun _ h9 => h9) rfl hin rfl (by decide +kernel) rfl rfl (Nat.le_of_ble_eq_true rfl) dX1_init_57 (fun H locs hP hD hS => ?_)
  have hP : va_P (dC, dI) pcl [(h0, .inr (2, [.ref q1, .ref q3, .ref q5, .ref q7, .ref q9, .ref q11, .ref q13, .null, .null, .null, .int 0, .int 0, .int 0])), (q1, .inl (cA2, 30, .inl (fun _ => 0))), (q3, .inl (cA4, 30, .inl (fun _ => 0))), (q5, .inl (cA6, 30, .inl (fun _ => 0))), (q7, .inl (cA8, 30, .inl (fun _ => 0))), (q9, .inl (cA10, 30, .inl (fun _ => 0))), (q11, .inl (cA12, 30, .inl (fun _ => 0))), (q13, .inl (cA14, 30, .inl (fun _ => 0)))] H := hP
  have hD : va_D A [(h0, .inr (2, [.ref q1, .ref q3, .ref q5, .ref q7, .ref q9, .ref q11, .ref q13, .null, .null, .null, .int 0, .int 0, .int 0])), (q1, .inl (cA2, 30, .inl (fun _ => 0))), (q3, .inl (cA4, 30, .inl (fun _ => 0))), (q5, .inl (cA6, 30, .inl (fun _ => 0))), (q7, .inl (cA8, 30, .inl (fun _ => 0))), (q9, .inl (cA10, 30, .inl (fun _ => 0))), (q11, .inl (cA12, 30, .inl (fun _ => 0))), (q13, .inl (cA14, 30, .inl (fun _ => 0)))] := hD
  refine lv_aload_n hx hb dX1_init_60 rfl (lv_at hl 0 rfl) ?_
  refine lv_bipush (v := 30) hx hb dX1_init_61 (by decide) ?_
  refine va_newa (atype := .int) (N' := 30) (a0 := (30, .inl (fun _ => 0))) hx hb (hts _ e3) rfl hK hP hD hS hA (fun _ => rfl) (by decide) (by decide) (Nat.le_of_ble_eq_true rfl) (Nat.le_of_ble_eq_true rfl) (Nat.le_of_ble_eq_true rfl) dX1_init_63 (fun q15 cA16 H hK hP hD hS => ?_)
  have hP : va_P (dC, dI) pcl [(h0, .inr (2, [.ref q1, .ref q3, .ref q5, .ref q7, .ref q9, .ref q11, .ref q13, .null, .null, .null, .int 0, .int 0, .int 0])), (q1, .inl (cA2, 30, .inl (fun _ => 0))), (q3, .inl (cA4, 30, .inl (fun _ => 0))), (q5, .inl (cA6, 30, .inl (fun _ => 0))), (q7, .inl (cA8, 30, .inl (fun _ => 0))), (q9, .inl (cA10, 30, .inl (fun _ => 0))), (q11, .inl (cA12, 30, .inl (fun _ => 0))), (q13, .inl (cA14, 30, .inl (fun _ => 0))), (q15, .inl (cA16, 30, .inl (fun _ => 0)))] H := hP
  have hD : va_D A [(h0, .inr (2, [.ref q1, .ref q3, .ref q5, .ref q7, .ref q9, .ref q11, .ref q13, .null, .null, .null, .int 0, .int 0, .int 0])), (q1, .inl (cA2, 30, .inl (fun _ => 0))), (q3, .inl (cA4, 30, .inl (fun _ => 0))), (q5, .inl (cA6, 30, .inl (fun _ => 0))), (q7, .inl (cA8, 30, .inl (fun _ => 0))), (q9, .inl (cA10, 30, .inl (fun _ => 0))), (q11, .inl (cA12, 30, .inl (fun _ => 0))), (q13, .inl (cA14, 30, .inl (fun _ => 0))), (q15, .inl (cA16, 30, .inl (fun _ => 0)))] := hD
  have hK : va_K (dC, dI) pcl [(cA2, .int), (cA4, .int), (cA6, .int), (cA8, .boolean), (cA10, .int), (cA12, .int), (cA14, .int), (cA16, .int)] s := hK
  refine W.widen (k := 8) (n := 240) (Nat.le_of_ble_eq_true rfl) (Nat.le_of_ble_eq_true rfl) ?_
  refine va_putF (D := (dC, dI)) (ci := 2) (v := .ref q15) (ty := .array .int) (C := RX1) (T := TX1) (N := 13) hx hb hts pinX1 tyX1 tyX1_ok nmX1 hown hK hP hD hS 0 rfl rfl 7 (by decide) (hts _ e14) (fun _ h9 => h9) rfl hin rfl (by decide +kernel) rfl rfl (Nat.le_of_ble_eq_true rfl) dX1_init_65 (fun H locs hP hD hS => ?_)
  have hP : va_P (dC, dI) pcl [(h0, .inr (2, [.ref q1, .ref q3, .ref q5, .ref q7, .ref q9, .ref q11, .ref q13, .ref q15, .null, .null, .int 0, .int 0, .int 0])), (q1, .inl (cA2, 30, .inl (fun _ => 0))), (q3, .inl (cA4, 30, .inl (fun _ => 0))), (q5, .inl (cA6, 30, .inl (fun _ => 0))), (q7, .inl (cA8, 30, .inl (fun _ => 0))), (q9, .inl (cA10, 30, .inl (fun _ => 0))), (q11, .inl (cA12, 30, .inl (fun _ => 0))), (q13, .inl (cA14, 30, .inl (fun _ => 0))), (q15, .inl (cA16, 30, .inl (fun _ => 0)))] H := hP
  have hD : va_D A [(h0, .inr (2, [.ref q1, .ref q3, .ref q5, .ref q7, .ref q9, .ref q11, .ref q13, .ref q15, .null, .null, .int 0, .int 0, .int 0])), (q1, .inl (cA2, 30, .inl (fun _ => 0))), (q3, .inl (cA4, 30, .inl (fun _ => 0))), (q5, .inl (cA6, 30, .inl (fun _ => 0))), (q7, .inl (cA8, 30, .inl (fun _ => 0))), (q9, .inl (cA10, 30, .inl (fun _ => 0))), (q11, .inl (cA12, 30, .inl (fun _ => 0))), (q13, .inl (cA14, 30, .inl (fun _ => 0))), (q15, .inl (cA16, 30, .inl (fun _ => 0)))] := hD
  refine lv_aload_n hx hb dX1_init_68 rfl (lv_at hl 0 rfl) ?_
  refine lv_sipush (v := 1200) hx hb dX1_init_69 (by decide) ?_
  refine va_newa (atype := .int) (N' := 1200) (a0 := (1200, .inl (fun _ => 0))) hx hb (hts _ e3) rfl hK hP hD hS hA (fun _ => rfl) (by decide) (by decide) (Nat.le_of_ble_eq_true rfl) (Nat.le_of_ble_eq_true rfl) (Nat.le_of_ble_eq_true rfl) dX1_init_72 (fun q17 cA18 H hK hP hD hS => ?_)
  have hP : va_P (dC, dI) pcl [(h0, .inr (2, [.ref q1, .ref q3, .ref q5, .ref q7, .ref q9, .ref q11, .ref q13, .ref q15, .null, .null, .int 0, .int 0, .int 0])), (q1, .inl (cA2, 30, .inl (fun _ => 0))), (q3, .inl (cA4, 30, .inl (fun _ => 0))), (q5, .inl (cA6, 30, .inl (fun _ => 0))), (q7, .inl (cA8, 30, .inl (fun _ => 0))), (q9, .inl (cA10, 30, .inl (fun _ => 0))), (q11, .inl (cA12, 30, .inl (fun _ => 0))), (q13, .inl (cA14, 30, .inl (fun _ => 0))), (q15, .inl (cA16, 30, .inl (fun _ => 0))), (q17, .inl (cA18, 1200, .inl (fun _ => 0)))] H := hP
  have hD : va_D A [(h0, .inr (2, [.ref q1, .ref q3, .ref q5, .ref q7, .ref q9, .ref q11, .ref q13, .ref q15, .null, .null, .int 0, .int 0, .int 0])), (q1, .inl (cA2, 30, .inl (fun _ => 0))), (q3, .inl (cA4, 30, .inl (fun _ => 0))), (q5, .inl (cA6, 30, .inl (fun _ => 0))), (q7, .inl (cA8, 30, .inl (fun _ => 0))), (q9, .inl (cA10, 30, .inl (fun _ => 0))), (q11, .inl (cA12, 30, .inl (fun _ => 0))), (q13, .inl (cA14, 30, .inl (fun _ => 0))), (q15, .inl (cA16, 30, .inl (fun _ => 0))), (q17, .inl (cA18, 1200, .inl (fun _ => 0)))] := hD
  have hK : va_K (dC, dI) pcl [(cA2, .int), (cA4, .int), (cA6, .int), (cA8, .boolean), (cA10, .int), (cA12, .int), (cA14, .int), (cA16, .int), (cA18, .int)] s := hK
  refine W.widen (k := 9) (n := 1440) (Nat.le_of_ble_eq_true rfl) (Nat.le_of_ble_eq_true rfl) ?_
  refine va_putF (D := (dC, dI)) (ci := 2) (v := .ref q17) (ty := .array .int) (C := RX1) (T := TX1) (N := 13) hx hb hts pinX1 tyX1 tyX1_ok nmX1 hown hK hP hD hS 0 rfl rfl 8 (by decide) (hts _ e15) (fun _ h9 => h9) rfl hin rfl (by decide +kernel) rfl rfl (Nat.le_of_ble_eq_true rfl) dX1_init_74 (fun H locs hP hD hS => ?_)
  have hP : va_P (dC, dI) pcl [(h0, .inr (2, [.ref q1, .ref q3, .ref q5, .ref q7, .ref q9, .ref q11, .ref q13, .ref q15, .ref q17, .null, .int 0, .int 0, .int 0])), (q1, .inl (cA2, 30, .inl (fun _ => 0))), (q3, .inl (cA4, 30, .inl (fun _ => 0))), (q5, .inl (cA6, 30, .inl (fun _ => 0))), (q7, .inl (cA8, 30, .inl (fun _ => 0))), (q9, .inl (cA10, 30, .inl (fun _ => 0))), (q11, .inl (cA12, 30, .inl (fun _ => 0))), (q13, .inl (cA14, 30, .inl (fun _ => 0))), (q15, .inl (cA16, 30, .inl (fun _ => 0))), (q17, .inl (cA18, 1200, .inl (fun _ => 0)))] H := hP
  have hD : va_D A [(h0, .inr (2, [.ref q1, .ref q3, .ref q5, .ref q7, .ref q9, .ref q11, .ref q13, .ref q15, .ref q17, .null, .int 0, .int 0, .int 0])), (q1, .inl (cA2, 30, .inl (fun _ => 0))), (q3, .inl (cA4, 30, .inl (fun _ => 0))), (q5, .inl (cA6, 30, .inl (fun _ => 0))), (q7, .inl (cA8, 30, .inl (fun _ => 0))), (q9, .inl (cA10, 30, .inl (fun _ => 0))), (q11, .inl (cA12, 30, .inl (fun _ => 0))), (q13, .inl (cA14, 30, .inl (fun _ => 0))), (q15, .inl (cA16, 30, .inl (fun _ => 0))), (q17, .inl (cA18, 1200, .inl (fun _ => 0)))] := hD
  refine lv_aload_n hx hb dX1_init_77 rfl (lv_at hl 0 rfl) ?_
  refine lv_sipush (v := 1200) hx hb dX1_init_78 (by decide) ?_
  refine va_newa (atype := .int) (N' := 1200) (a0 := (1200, .inl (fun _ => 0))) hx hb (hts _ e3) rfl hK hP hD hS hA (fun _ => rfl) (by decide) (by decide) (Nat.le_of_ble_eq_true rfl) (Nat.le_of_ble_eq_true rfl) (Nat.le_of_ble_eq_true rfl) dX1_init_81 (fun q19 cA20 H hK hP hD hS => ?_)
  have hP : va_P (dC, dI) pcl [(h0, .inr (2, [.ref q1, .ref q3, .ref q5, .ref q7, .ref q9, .ref q11, .ref q13, .ref q15, .ref q17, .null, .int 0, .int 0, .int 0])), (q1, .inl (cA2, 30, .inl (fun _ => 0))), (q3, .inl (cA4, 30, .inl (fun _ => 0))), (q5, .inl (cA6, 30, .inl (fun _ => 0))), (q7, .inl (cA8, 30, .inl (fun _ => 0))), (q9, .inl (cA10, 30, .inl (fun _ => 0))), (q11, .inl (cA12, 30, .inl (fun _ => 0))), (q13, .inl (cA14, 30, .inl (fun _ => 0))), (q15, .inl (cA16, 30, .inl (fun _ => 0))), (q17, .inl (cA18, 1200, .inl (fun _ => 0))), (q19, .inl (cA20, 1200, .inl (fun _ => 0)))] H := hP
  have hD : va_D A [(h0, .inr (2, [.ref q1, .ref q3, .ref q5, .ref q7, .ref q9, .ref q11, .ref q13, .ref q15, .ref q17, .null, .int 0, .int 0, .int 0])), (q1, .inl (cA2, 30, .inl (fun _ => 0))), (q3, .inl (cA4, 30, .inl (fun _ => 0))), (q5, .inl (cA6, 30, .inl (fun _ => 0))), (q7, .inl (cA8, 30, .inl (fun _ => 0))), (q9, .inl (cA10, 30, .inl (fun _ => 0))), (q11, .inl (cA12, 30, .inl (fun _ => 0))), (q13, .inl (cA14, 30, .inl (fun _ => 0))), (q15, .inl (cA16, 30, .inl (fun _ => 0))), (q17, .inl (cA18, 1200, .inl (fun _ => 0))), (q19, .inl (cA20, 1200, .inl (fun _ => 0)))] := hD
  have hK : va_K (dC, dI) pcl [(cA2, .int), (cA4, .int), (cA6, .int), (cA8, .boolean), (cA10, .int), (cA12, .int), (cA14, .int), (cA16, .int), (cA18, .int), (cA20, .int)] s := hK
  refine W.widen (k := 10) (n := 2640) (Nat.le_of_ble_eq_true rfl) (Nat.le_of_ble_eq_true rfl) ?_
  refine va_putF (D := (dC, dI)) (ci := 2) (v := .ref q19) (ty := .array .int) (C := RX1) (T := TX1) (N := 13) hx hb hts pinX1 tyX1 tyX1_ok nmX1 hown hK hP hD hS 0 rfl rfl 9 (by decide) (hts _ e16) (fun _ h9 => h9) rfl hin rfl (by decide +kernel) rfl rfl (Nat.le_of_ble_eq_true rfl) dX1_init_83 (fun H locs hP hD hS => ?_)
  have hP : va_P (dC, dI) pcl [(h0, .inr (2, [.ref q1, .ref q3, .ref q5, .ref q7, .ref q9, .ref q11, .ref q13, .ref q15, .ref q17, .ref q19, .int 0, .int 0, .int 0])), (q1, .inl (cA2, 30, .inl (fun _ => 0))), (q3, .inl (cA4, 30, .inl (fun _ => 0))), (q5, .inl (cA6, 30, .inl (fun _ => 0))), (q7, .inl (cA8, 30, .inl (fun _ => 0))), (q9, .inl (cA10, 30, .inl (fun _ => 0))), (q11, .inl (cA12, 30, .inl (fun _ => 0))), (q13, .inl (cA14, 30, .inl (fun _ => 0))), (q15, .inl (cA16, 30, .inl (fun _ => 0))), (q17, .inl (cA18, 1200, .inl (fun _ => 0))), (q19, .inl (cA20, 1200, .inl (fun _ => 0)))] H := hP
  have hD : va_D A [(h0, .inr (2, [.ref q1, .ref q3, .ref q5, .ref q7, .ref q9, .ref q11, .ref q13, .ref q15, .ref q17, .ref q19, .int 0, .int 0, .int 0])), (q1, .inl (cA2, 30, .inl (fun _ => 0))), (q3, .inl (cA4, 30, .inl (fun _ => 0))), (q5, .inl (cA6, 30, .inl (fun _ => 0))), (q7, .inl (cA8, 30, .inl (fun _ => 0))), (q9, .inl (cA10, 30, .inl (fun _ => 0))), (q11, .inl (cA12, 30, .inl (fun _ => 0))), (q13, .inl (cA14, 30, .inl (fun _ => 0))), (q15, .inl (cA16, 30, .inl (fun _ => 0))), (q17, .inl (cA18, 1200, .inl (fun _ => 0))), (q19, .inl (cA20, 1200, .inl (fun _ => 0)))] := hD
  have hP9 := hP.sub (ws' := [(h0, .inr (2, [.ref q1, .ref q3, .ref q5, .ref q7, .ref q9, .ref q11, .ref q13, .ref q15, .ref q17, .ref q19, .int 0, .int 0, .int 0]))]) [0] rfl
  have hD9 := hD.sub (ws' := [(h0, .inr (2, [.ref q1, .ref q3, .ref q5, .ref q7, .ref q9, .ref q11, .ref q13, .ref q15, .ref q17, .ref q19, .int 0, .int 0, .int 0]))]) [0] (by decide) rfl
  have hK9 := hK.sub (tys' := []) [] rfl
  refine W.widen (k := 10) (n := 2640) (Nat.le_of_ble_eq_true rfl) (Nat.le_of_ble_eq_true rfl) ?_
  exact W.vret hx hb hr (fun t ht hW => ⟨⟨(), rfl, trivial, q1, q3, q5, q7, q9, q11, q13, q15, q17, q19, by rw [ht]; exact hP9, va_K.moved hW.alike hK9, hD9⟩, hS.F ht⟩) hS.2.2 dX1_init_86
set_option maxHeartbeats 4000000 in
set_option maxRecDepth 100000 in
theorem c_X2_init (l : Launch) (dC : Nat → ClassId) (dI : Nat → Nat → Nat) (z : pG) (h0 : Nat) (sz : Nat) : Met l yX2_init (ws_ yX2_init cX2_init 1 none) ({ frames := 1, cells := 6, slots := 600, locals := 12 }) (va_Pc [.ref h0] (pPre z dC dI [(h0, .inr (3, [.null, .null, .null, .null, .null, .null, .int 0, .int 0, .int 0, .int 0, .int 0]))] [] sz)) (va_Qv (fun (_ : Unit) => True) (fun _ t => ∃ (a1 : Nat) (a2 : Nat) (a3 : Nat) (a4 : Nat) (a5 : Nat) (a6 : Nat), pPost dC dI (va_A [(h0, .inr (3, [.null, .null, .null, .null, .null, .null, .int 0, .int 0, .int 0, .int 0, .int 0]))] sz) [(h0, .inr (3, [.ref a1, .ref a2, .ref a3, .ref a4, .ref a5, .ref a6, .int 0, .int 0, .int 0, .int 0, .int 0]))] [] t) (va_A [(h0, .inr (3, [.null, .null, .null, .null, .null, .null, .int 0, .int 0, .int 0, .int 0, .int 0]))] sz)) 6 600 (va_A [(h0, .inr (3, [.null, .null, .null, .null, .null, .null, .int 0, .int 0, .int 0, .int 0, .int 0]))] sz) := by
  refine Met.ofW (cc := cX2_init) (maxL := 1) (ret := none) (by decide) rfl ?_
  intro p e s m args below meth c s₁ B hml hv
  obtain ⟨rfl, hsz, hP, hK, hD0, hE⟩ := hv
  have hx := B.exec
  have hb := B.bytes
  have hr := B.returns
  have hts0 := atoms_spec (ws := ws_ yX2_init cX2_init 1 none) B.pre
  have hts := fun (w : Cond) (h : w ∈ pw) => hts0 w (List.mem_cons_of_mem _ h)
  have hown : s.vm.findClass RX2 = some m.cls := findClass_of_methodNamed B.named
  have hlocks := B.notSynchronized
  have hin : meth.name = "<init>" := (name_of_methodNamed B.named B.method).1
  subst hsz
  have hD := hD0.self (sz := s.heap.size)
  generalize hAe : va_A [(h0, .inr (3, [.null, .null, .null, .null, .null, .null, .int 0, .int 0, .int 0, .int 0, .int 0]))] s.heap.size = A at hD hE ⊢
  have hA : ∀ q : Nat, s.heap.size ≤ q → A q := fun q h => by rw [← hAe]; exact Or.inr h
  have hS : va_S A s.heap s.heap [] := va_S.rf
  have hN := hE.1
  have hP : va_P (dC, dI) pcl [(h0, .inr (3, [.null, .null, .null, .null, .null, .null, .int 0, .int 0, .int 0, .int 0, .int 0]))] s.heap := hP
  have hl := lv_entry ([.ref h0]) (n := 1) (Nat.le_of_ble_eq_true rfl)
  rw [lg_entry_eq]
  generalize (lg_sl ([.ref h0]) ++ List.replicate (1 - (lg_sl ([.ref h0])).length) Slot.unset).toArray = ls at hl ⊢
  have hl : lv_has ls 1 [(0, .ref h0)] := hl
  obtain ⟨H, hH0⟩ : ∃ H, H = s.heap := ⟨_, rfl⟩
  rw [← hH0] at hP ⊢
  have hS : va_S A s.heap H [] := by rw [hH0]; exact hS
  refine lv_aload_n hx hb dX2_init_0 rfl (lv_at hl 0 rfl) ?_
  refine W.objInit hx hb hown (hts _ e24) (hts _ e1) (hts _ e2) rfl (by rw [hml]; exact hl.1) rfl dX2_init_1 (Nat.le_of_ble_eq_true rfl) (Nat.le_of_ble_eq_true rfl) ?_
  refine W.eq (g2 := F0 m 4 ls []) rfl ?_
  refine lv_aload_n hx hb dX2_init_4 rfl (lv_at hl 0 rfl) ?_
  refine lv_bipush (v := 40) hx hb dX2_init_5 (by decide) ?_
  refine va_newa (atype := .int) (N' := 40) (a0 := (40, .inl (fun _ => 0))) hx hb (hts _ e3) rfl hK hP hD hS hA (fun _ => rfl) (by decide) (by decide) (Nat.le_of_ble_eq_true rfl) (Nat.le_of_ble_eq_true rfl) (Nat.le_of_ble_eq_true rfl) dX2_init_7 (fun q1 cA2 H hK hP hD hS => ?_)
  have hP : va_P (dC, dI) pcl [(h0, .inr (3, [.null, .null, .null, .null, .null, .null, .int 0, .int 0, .int 0, .int 0, .int 0])), (q1, .inl (cA2, 40, .inl (fun _ => 0)))] H := hP
  have hD : va_D A [(h0, .inr (3, [.null, .null, .null, .null, .null, .null, .int 0, .int 0, .int 0, .int 0, .int 0])), (q1, .inl (cA2, 40, .inl (fun _ => 0)))] := hD
  have hK : va_K (dC, dI) pcl [(cA2, .int)] s := hK
  refine W.widen (k := 1) (n := 40) (Nat.le_of_ble_eq_true rfl) (Nat.le_of_ble_eq_true rfl) ?_
  refine va_putF (D := (dC, dI)) (ci := 3) (v := .ref q1) (ty := .array .int) (C := RX2) (T := TX2) (N := 11) hx hb hts pinX2 tyX2 tyX2_ok nmX2 hown hK hP hD hS 0 rfl rfl 0 (by decide) (hts _ e25) (fun _ h9 => h9) rfl hin rfl (by decide +kernel) rfl rfl (Nat.le_of_ble_eq_true rfl) dX2_init_9 (fun H locs hP hD hS => ?_)
  have hP : va_P (dC, dI) pcl [(h0, .inr (3, [.ref q1, .null, .null, .null, .null, .null, .int 0, .int 0, .int 0, .int 0, .int 0])), (q1, .inl (cA2, 40, .inl (fun _ => 0)))] H := hP
  have hD : va_D A [(h0, .inr (3, [.ref q1, .null, .null, .null, .null, .null, .int 0, .int 0, .int 0, .int 0, .int 0])), (q1, .inl (cA2, 40, .inl (fun _ => 0)))] := hD
  refine lv_aload_n hx hb dX2_init_12 rfl (lv_at hl 0 rfl) ?_
  refine lv_bipush (v := 40) hx hb dX2_init_13 (by decide) ?_
  refine va_newa (atype := .int) (N' := 40) (a0 := (40, .inl (fun _ => 0))) hx hb (hts _ e3) rfl hK hP hD hS hA (fun _ => rfl) (by decide) (by decide) (Nat.le_of_ble_eq_true rfl) (Nat.le_of_ble_eq_true rfl) (Nat.le_of_ble_eq_true rfl) dX2_init_15 (fun q3 cA4 H hK hP hD hS => ?_)
  have hP : va_P (dC, dI) pcl [(h0, .inr (3, [.ref q1, .null, .null, .null, .null, .null, .int 0, .int 0, .int 0, .int 0, .int 0])), (q1, .inl (cA2, 40, .inl (fun _ => 0))), (q3, .inl (cA4, 40, .inl (fun _ => 0)))] H := hP
  have hD : va_D A [(h0, .inr (3, [.ref q1, .null, .null, .null, .null, .null, .int 0, .int 0, .int 0, .int 0, .int 0])), (q1, .inl (cA2, 40, .inl (fun _ => 0))), (q3, .inl (cA4, 40, .inl (fun _ => 0)))] := hD
  have hK : va_K (dC, dI) pcl [(cA2, .int), (cA4, .int)] s := hK
  refine W.widen (k := 2) (n := 80) (Nat.le_of_ble_eq_true rfl) (Nat.le_of_ble_eq_true rfl) ?_
  refine va_putF (D := (dC, dI)) (ci := 3) (v := .ref q3) (ty := .array .int) (C := RX2) (T := TX2) (N := 11) hx hb hts pinX2 tyX2 tyX2_ok nmX2 hown hK hP hD hS 0 rfl rfl 1 (by decide) (hts _ e26) (fun _ h9 => h9) rfl hin rfl (by decide +kernel) rfl rfl (Nat.le_of_ble_eq_true rfl) dX2_init_17 (fun H locs hP hD hS => ?_)
  have hP : va_P (dC, dI) pcl [(h0, .inr (3, [.ref q1, .ref q3, .null, .null, .null, .null, .int 0, .int 0, .int 0, .int 0, .int 0])), (q1, .inl (cA2, 40, .inl (fun _ => 0))), (q3, .inl (cA4, 40, .inl (fun _ => 0)))] H := hP
  have hD : va_D A [(h0, .inr (3, [.ref q1, .ref q3, .null, .null, .null, .null, .int 0, .int 0, .int 0, .int 0, .int 0])), (q1, .inl (cA2, 40, .inl (fun _ => 0))), (q3, .inl (cA4, 40, .inl (fun _ => 0)))] := hD
  refine lv_aload_n hx hb dX2_init_20 rfl (lv_at hl 0 rfl) ?_
  refine lv_bipush (v := 40) hx hb dX2_init_21 (by decide) ?_
  refine va_newa (atype := .int) (N' := 40) (a0 := (40, .inl (fun _ => 0))) hx hb (hts _ e3) rfl hK hP hD hS hA (fun _ => rfl) (by decide) (by decide) (Nat.le_of_ble_eq_true rfl) (Nat.le_of_ble_eq_true rfl) (Nat.le_of_ble_eq_true rfl) dX2_init_23 (fun q5 cA6 H hK hP hD hS => ?_)
  have hP : va_P (dC, dI) pcl [(h0, .inr (3, [.ref q1, .ref q3, .null, .null, .null, .null, .int 0, .int 0, .int 0, .int 0, .int 0])), (q1, .inl (cA2, 40, .inl (fun _ => 0))), (q3, .inl (cA4, 40, .inl (fun _ => 0))), (q5, .inl (cA6, 40, .inl (fun _ => 0)))] H := hP
  have hD : va_D A [(h0, .inr (3, [.ref q1, .ref q3, .null, .null, .null, .null, .int 0, .int 0, .int 0, .int 0, .int 0])), (q1, .inl (cA2, 40, .inl (fun _ => 0))), (q3, .inl (cA4, 40, .inl (fun _ => 0))), (q5, .inl (cA6, 40, .inl (fun _ => 0)))] := hD
  have hK : va_K (dC, dI) pcl [(cA2, .int), (cA4, .int), (cA6, .int)] s := hK
  refine W.widen (k := 3) (n := 120) (Nat.le_of_ble_eq_true rfl) (Nat.le_of_ble_eq_true rfl) ?_
  refine va_putF (D := (dC, dI)) (ci := 3) (v := .ref q5) (ty := .array .int) (C := RX2) (T := TX2) (N := 11) hx hb hts pinX2 tyX2 tyX2_ok nmX2 hown hK hP hD hS 0 rfl rfl 2 (by decide) (hts _ e27) (fun _ h9 => h9) rfl hin rfl (by decide +kernel) rfl rfl (Nat.le_of_ble_eq_true rfl) dX2_init_25 (fun H locs hP hD hS => ?_)
  have hP : va_P (dC, dI) pcl [(h0, .inr (3, [.ref q1, .ref q3, .ref q5, .null, .null, .null, .int 0, .int 0, .int 0, .int 0, .int 0])), (q1, .inl (cA2, 40, .inl (fun _ => 0))), (q3, .inl (cA4, 40, .inl (fun _ => 0))), (q5, .inl (cA6, 40, .inl (fun _ => 0)))] H := hP
  have hD : va_D A [(h0, .inr (3, [.ref q1, .ref q3, .ref q5, .null, .null, .null, .int 0, .int 0, .int 0, .int 0, .int 0])), (q1, .inl (cA2, 40, .inl (fun _ => 0))), (q3, .inl (cA4, 40, .inl (fun _ => 0))), (q5, .inl (cA6, 40, .inl (fun _ => 0)))] := hD
  refine lv_aload_n hx hb dX2_init_28 rfl (lv_at hl 0 rfl) ?_
  refine lv_sipush (v := 160) hx hb dX2_init_29 (by decide) ?_
  refine va_newa (atype := .int) (N' := 160) (a0 := (160, .inl (fun _ => 0))) hx hb (hts _ e3) rfl hK hP hD hS hA (fun _ => rfl) (by decide) (by decide) (Nat.le_of_ble_eq_true rfl) (Nat.le_of_ble_eq_true rfl) (Nat.le_of_ble_eq_true rfl) dX2_init_32 (fun q7 cA8 H hK hP hD hS => ?_)
  have hP : va_P (dC, dI) pcl [(h0, .inr (3, [.ref q1, .ref q3, .ref q5, .null, .null, .null, .int 0, .int 0, .int 0, .int 0, .int 0])), (q1, .inl (cA2, 40, .inl (fun _ => 0))), (q3, .inl (cA4, 40, .inl (fun _ => 0))), (q5, .inl (cA6, 40, .inl (fun _ => 0))), (q7, .inl (cA8, 160, .inl (fun _ => 0)))] H := hP
  have hD : va_D A [(h0, .inr (3, [.ref q1, .ref q3, .ref q5, .null, .null, .null, .int 0, .int 0, .int 0, .int 0, .int 0])), (q1, .inl (cA2, 40, .inl (fun _ => 0))), (q3, .inl (cA4, 40, .inl (fun _ => 0))), (q5, .inl (cA6, 40, .inl (fun _ => 0))), (q7, .inl (cA8, 160, .inl (fun _ => 0)))] := hD
  have hK : va_K (dC, dI) pcl [(cA2, .int), (cA4, .int), (cA6, .int), (cA8, .int)] s := hK
  refine W.widen (k := 4) (n := 280) (Nat.le_of_ble_eq_true rfl) (Nat.le_of_ble_eq_true rfl) ?_
  refine va_putF (D := (dC, dI)) (ci := 3) (v := .ref q7) (ty := .array .int) (C := RX2) (T := TX2) (N := 11) hx hb hts pinX2 tyX2 tyX2_ok nmX2 hown hK hP hD hS 0 rfl rfl 3 (by decide) (hts _ e28) (fun _ h9 => h9) rfl hin rfl (by decide +kernel) rfl rfl (Nat.le_of_ble_eq_true rfl) dX2_init_34 (fun H locs hP hD hS => ?_)
  have hP : va_P (dC, dI) pcl [(h0, .inr (3, [.ref q1, .ref q3, .ref q5, .ref q7, .null, .null, .int 0, .int 0, .int 0, .int 0, .int 0])), (q1, .inl (cA2, 40, .inl (fun _ => 0))), (q3, .inl (cA4, 40, .inl (fun _ => 0))), (q5, .inl (cA6, 40, .inl (fun _ => 0))), (q7, .inl (cA8, 160, .inl (fun _ => 0)))] H := hP
  have hD : va_D A [(h0, .inr (3, [.ref q1, .ref q3, .ref q5, .ref q7, .null, .null, .int 0, .int 0, .int 0, .int 0, .int 0])), (q1, .inl (cA2, 40, .inl (fun _ => 0))), (q3, .inl (cA4, 40, .inl (fun _ => 0))), (q5, .inl (cA6, 40, .inl (fun _ => 0))), (q7, .inl (cA8, 160, .inl (fun _ => 0)))] := hD
  refine lv_aload_n hx hb dX2_init_37 rfl (lv_at hl 0 rfl) ?_
  refine lv_sipush (v := 160) hx hb dX2_init_38 (by decide) ?_
  refine va_newa (atype := .int) (N' := 160) (a0 := (160, .inl (fun _ => 0))) hx hb (hts _ e3) rfl hK hP hD hS hA (fun _ => rfl) (by decide) (by decide) (Nat.le_of_ble_eq_true rfl) (Nat.le_of_ble_eq_true rfl) (Nat.le_of_ble_eq_true rfl) dX2_init_41 (fun q9 cA10 H hK hP hD hS => ?_)
  have hP : va_P (dC, dI) pcl [(h0, .inr (3, [.ref q1, .ref q3, .ref q5, .ref q7, .null, .null, .int 0, .int 0, .int 0, .int 0, .int 0])), (q1, .inl (cA2, 40, .inl (fun _ => 0))), (q3, .inl (cA4, 40, .inl (fun _ => 0))), (q5, .inl (cA6, 40, .inl (fun _ => 0))), (q7, .inl (cA8, 160, .inl (fun _ => 0))), (q9, .inl (cA10, 160, .inl (fun _ => 0)))] H := hP
  have hD : va_D A [(h0, .inr (3, [.ref q1, .ref q3, .ref q5, .ref q7, .null, .null, .int 0, .int 0, .int 0, .int 0, .int 0])), (q1, .inl (cA2, 40, .inl (fun _ => 0))), (q3, .inl (cA4, 40, .inl (fun _ => 0))), (q5, .inl (cA6, 40, .inl (fun _ => 0))), (q7, .inl (cA8, 160, .inl (fun _ => 0))), (q9, .inl (cA10, 160, .inl (fun _ => 0)))] := hD
  have hK : va_K (dC, dI) pcl [(cA2, .int), (cA4, .int), (cA6, .int), (cA8, .int), (cA10, .int)] s := hK
  refine W.widen (k := 5) (n := 440) (Nat.le_of_ble_eq_true rfl) (Nat.le_of_ble_eq_true rfl) ?_
  refine va_putF (D := (dC, dI)) (ci := 3) (v := .ref q9) (ty := .array .int) (C := RX2) (T := TX2) (N := 11) hx hb hts pinX2 tyX2 tyX2_ok nmX2 hown hK hP hD hS 0 rfl rfl 4 (by decide) (hts _ e29) (fun _ h9 => h9) rfl hin rfl (by decide +kernel) rfl rfl (Nat.le_of_ble_eq_true rfl) dX2_init_43 (fun H locs hP hD hS => ?_)
  have hP : va_P (dC, dI) pcl [(h0, .inr (3, [.ref q1, .ref q3, .ref q5, .ref q7, .ref q9, .null, .int 0, .int 0, .int 0, .int 0, .int 0])), (q1, .inl (cA2, 40, .inl (fun _ => 0))), (q3, .inl (cA4, 40, .inl (fun _ => 0))), (q5, .inl (cA6, 40, .inl (fun _ => 0))), (q7, .inl (cA8, 160, .inl (fun _ => 0))), (q9, .inl (cA10, 160, .inl (fun _ => 0)))] H := hP
  have hD : va_D A [(h0, .inr (3, [.ref q1, .ref q3, .ref q5, .ref q7, .ref q9, .null, .int 0, .int 0, .int 0, .int 0, .int 0])), (q1, .inl (cA2, 40, .inl (fun _ => 0))), (q3, .inl (cA4, 40, .inl (fun _ => 0))), (q5, .inl (cA6, 40, .inl (fun _ => 0))), (q7, .inl (cA8, 160, .inl (fun _ => 0))), (q9, .inl (cA10, 160, .inl (fun _ => 0)))] := hD
  refine lv_aload_n hx hb dX2_init_46 rfl (lv_at hl 0 rfl) ?_
  refine lv_sipush (v := 160) hx hb dX2_init_47 (by decide) ?_
  refine va_newa (atype := .int) (N' := 160) (a0 := (160, .inl (fun _ => 0))) hx hb (hts _ e3) rfl hK hP hD hS hA (fun _ => rfl) (by decide) (by decide) (Nat.le_of_ble_eq_true rfl) (Nat.le_of_ble_eq_true rfl) (Nat.le_of_ble_eq_true rfl) dX2_init_50 (fun q11 cA12 H hK hP hD hS => ?_)
  have hP : va_P (dC, dI) pcl [(h0, .inr (3, [.ref q1, .ref q3, .ref q5, .ref q7, .ref q9, .null, .int 0, .int 0, .int 0, .int 0, .int 0])), (q1, .inl (cA2, 40, .inl (fun _ => 0))), (q3, .inl (cA4, 40, .inl (fun _ => 0))), (q5, .inl (cA6, 40, .inl (fun _ => 0))), (q7, .inl (cA8, 160, .inl (fun _ => 0))), (q9, .inl (cA10, 160, .inl (fun _ => 0))), (q11, .inl (cA12, 160, .inl (fun _ => 0)))] H := hP
  have hD : va_D A [(h0, .inr (3, [.ref q1, .ref q3, .ref q5, .ref q7, .ref q9, .null, .int 0, .int 0, .int 0, .int 0, .int 0])), (q1, .inl (cA2, 40, .inl (fun _ => 0))), (q3, .inl (cA4, 40, .inl (fun _ => 0))), (q5, .inl (cA6, 40, .inl (fun _ => 0))), (q7, .inl (cA8, 160, .inl (fun _ => 0))), (q9, .inl (cA10, 160, .inl (fun _ => 0))), (q11, .inl (cA12, 160, .inl (fun _ => 0)))] := hD
  have hK : va_K (dC, dI) pcl [(cA2, .int), (cA4, .int), (cA6, .int), (cA8, .int), (cA10, .int), (cA12, .int)] s := hK
  refine W.widen (k := 6) (n := 600) (Nat.le_of_ble_eq_true rfl) (Nat.le_of_ble_eq_true rfl) ?_
  refine va_putF (D := (dC, dI)) (ci := 3) (v := .ref q11) (ty := .array .int) (C := RX2) (T := TX2) (N := 11) hx hb hts pinX2 tyX2 tyX2_ok nmX2 hown hK hP hD hS 0 rfl rfl 5 (by decide) (hts _ e30) (fun _ h9 => h9) rfl hin rfl (by decide +kernel) rfl rfl (Nat.le_of_ble_eq_true rfl) dX2_init_52 (fun H locs hP hD hS => ?_)
  have hP : va_P (dC, dI) pcl [(h0, .inr (3, [.ref q1, .ref q3, .ref q5, .ref q7, .ref q9, .ref q11, .int 0, .int 0, .int 0, .int 0, .int 0])), (q1, .inl (cA2, 40, .inl (fun _ => 0))), (q3, .inl (cA4, 40, .inl (fun _ => 0))), (q5, .inl (cA6, 40, .inl (fun _ => 0))), (q7, .inl (cA8, 160, .inl (fun _ => 0))), (q9, .inl (cA10, 160, .inl (fun _ => 0))), (q11, .inl (cA12, 160, .inl (fun _ => 0)))] H := hP
  have hD : va_D A [(h0, .inr (3, [.ref q1, .ref q3, .ref q5, .ref q7, .ref q9, .ref q11, .int 0, .int 0, .int 0, .int 0, .int 0])), (q1, .inl (cA2, 40, .inl (fun _ => 0))), (q3, .inl (cA4, 40, .inl (fun _ => 0))), (q5, .inl (cA6, 40, .inl (fun _ => 0))), (q7, .inl (cA8, 160, .inl (fun _ => 0))), (q9, .inl (cA10, 160, .inl (fun _ => 0))), (q11, .inl (cA12, 160, .inl (fun _ => 0)))] := hD
  have hP9 := hP.sub (ws' := [(h0, .inr (3, [.ref q1, .ref q3, .ref q5, .ref q7, .ref q9, .ref q11, .int 0, .int 0, .int 0, .int 0, .int 0]))]) [0] rfl
  have hD9 := hD.sub (ws' := [(h0, .inr (3, [.ref q1, .ref q3, .ref q5, .ref q7, .ref q9, .ref q11, .int 0, .int 0, .int 0, .int 0, .int 0]))]) [0] (by decide) rfl
  have hK9 := hK.sub (tys' := []) [] rfl
  refine W.widen (k := 6) (n := 600) (Nat.le_of_ble_eq_true rfl) (Nat.le_of_ble_eq_true rfl) ?_
  exact W.vret hx hb hr (fun t ht hW => ⟨⟨(), rfl, trivial, q1, q3, q5, q7, q9, q11, by rw [ht]; exact hP9, va_K.moved hW.alike hK9, hD9⟩, hS.F ht⟩) hS.2.2 dX2_init_55
set_option maxHeartbeats 4000000 in
set_option maxRecDepth 100000 in
theorem c_X5_init (l : Launch) (dC : Nat → ClassId) (dI : Nat → Nat → Nat) (z : pG) (h0 : Nat) (sz : Nat) : Met l yX5_init (ws_ yX5_init cX5_init 1 none) ({ frames := 1, cells := 2, slots := 80, locals := 12 }) (va_Pc [.ref h0] (pPre z dC dI [(h0, .inr (6, [.null, .null, .int 0, .int 0]))] [] sz)) (va_Qv (fun (_ : Unit) => True) (fun _ t => ∃ (a1 : Nat) (a2 : Nat) (cB : ClassId) (cC : ClassId), pPost dC dI (va_A [(h0, .inr (6, [.null, .null, .int 0, .int 0]))] sz) [(h0, .inr (6, [.ref a1, .ref a2, .int 0, .int 0])), (a1, .inl (cB, 40, .inl (fun _ => 0))), (a2, .inl (cC, 40, .inl (fun _ => 0)))] [(cB, .int), (cC, .int)] t) (va_A [(h0, .inr (6, [.null, .null, .int 0, .int 0]))] sz)) 2 80 (va_A [(h0, .inr (6, [.null, .null, .int 0, .int 0]))] sz) := by
  refine Met.ofW (cc := cX5_init) (maxL := 1) (ret := none) (by decide) rfl ?_
  intro p e s m args below meth c s₁ B hml hv
  obtain ⟨rfl, hsz, hP, hK, hD0, hE⟩ := hv
  have hx := B.exec
  have hb := B.bytes
  have hr := B.returns
  have hts0 := atoms_spec (ws := ws_ yX5_init cX5_init 1 none) B.pre
  have hts := fun (w : Cond) (h : w ∈ pw) => hts0 w (List.mem_cons_of_mem _ h)
  have hown : s.vm.findClass RX5 = some m.cls := findClass_of_methodNamed B.named
  have hlocks := B.notSynchronized
  have hin : meth.name = "<init>" := (name_of_methodNamed B.named B.method).1
  subst hsz
  have hD := hD0.self (sz := s.heap.size)
  generalize hAe : va_A [(h0, .inr (6, [.null, .null, .int 0, .int 0]))] s.heap.size = A at hD hE ⊢
  have hA : ∀ q : Nat, s.heap.size ≤ q → A q := fun q h => by rw [← hAe]; exact Or.inr h
  have hS : va_S A s.heap s.heap [] := va_S.rf
  have hN := hE.1
  have hP : va_P (dC, dI) pcl [(h0, .inr (6, [.null, .null, .int 0, .int 0]))] s.heap := hP
  have hl := lv_entry ([.ref h0]) (n := 1) (Nat.le_of_ble_eq_true rfl)
  rw [lg_entry_eq]
  generalize (lg_sl ([.ref h0]) ++ List.replicate (1 - (lg_sl ([.ref h0])).length) Slot.unset).toArray = ls at hl ⊢
  have hl : lv_has ls 1 [(0, .ref h0)] := hl
  obtain ⟨H, hH0⟩ : ∃ H, H = s.heap := ⟨_, rfl⟩
  rw [← hH0] at hP ⊢
  have hS : va_S A s.heap H [] := by rw [hH0]; exact hS
  refine lv_aload_n hx hb dX5_init_0 rfl (lv_at hl 0 rfl) ?_
  refine W.objInit hx hb hown (hts _ e50) (hts _ e1) (hts _ e2) rfl (by rw [hml]; exact hl.1) rfl dX5_init_1 (Nat.le_of_ble_eq_true rfl) (Nat.le_of_ble_eq_true rfl) ?_
  refine W.eq (g2 := F0 m 4 ls []) rfl ?_
  refine lv_aload_n hx hb dX5_init_4 rfl (lv_at hl 0 rfl) ?_
  refine lv_bipush (v := 40) hx hb dX5_init_5 (by decide) ?_
  refine va_newa (atype := .int) (N' := 40) (a0 := (40, .inl (fun _ => 0))) hx hb (hts _ e3) rfl hK hP hD hS hA (fun _ => rfl) (by decide) (by decide) (Nat.le_of_ble_eq_true rfl) (Nat.le_of_ble_eq_true rfl) (Nat.le_of_ble_eq_true rfl) dX5_init_7 (fun q1 cA2 H hK hP hD hS => ?_)
  have hP : va_P (dC, dI) pcl [(h0, .inr (6, [.null, .null, .int 0, .int 0])), (q1, .inl (cA2, 40, .inl (fun _ => 0)))] H := hP
  have hD : va_D A [(h0, .inr (6, [.null, .null, .int 0, .int 0])), (q1, .inl (cA2, 40, .inl (fun _ => 0)))] := hD
  have hK : va_K (dC, dI) pcl [(cA2, .int)] s := hK
  refine W.widen (k := 1) (n := 40) (Nat.le_of_ble_eq_true rfl) (Nat.le_of_ble_eq_true rfl) ?_
  refine va_putF (D := (dC, dI)) (ci := 6) (v := .ref q1) (ty := .array .int) (C := RX5) (T := TX5) (N := 4) hx hb hts pinX5 tyX5 tyX5_ok nmX5 hown hK hP hD hS 0 rfl rfl 0 (by decide) (hts _ e51) (fun _ h9 => h9) rfl hin rfl (by decide +kernel) rfl rfl (Nat.le_of_ble_eq_true rfl) dX5_init_9 (fun H locs hP hD hS => ?_)
  have hP : va_P (dC, dI) pcl [(h0, .inr (6, [.ref q1, .null, .int 0, .int 0])), (q1, .inl (cA2, 40, .inl (fun _ => 0)))] H := hP
  have hD : va_D A [(h0, .inr (6, [.ref q1, .null, .int 0, .int 0])), (q1, .inl (cA2, 40, .inl (fun _ => 0)))] := hD
  refine lv_aload_n hx hb dX5_init_12 rfl (lv_at hl 0 rfl) ?_
  refine lv_bipush (v := 40) hx hb dX5_init_13 (by decide) ?_
  refine va_newa (atype := .int) (N' := 40) (a0 := (40, .inl (fun _ => 0))) hx hb (hts _ e3) rfl hK hP hD hS hA (fun _ => rfl) (by decide) (by decide) (Nat.le_of_ble_eq_true rfl) (Nat.le_of_ble_eq_true rfl) (Nat.le_of_ble_eq_true rfl) dX5_init_15 (fun q3 cA4 H hK hP hD hS => ?_)
  have hP : va_P (dC, dI) pcl [(h0, .inr (6, [.ref q1, .null, .int 0, .int 0])), (q1, .inl (cA2, 40, .inl (fun _ => 0))), (q3, .inl (cA4, 40, .inl (fun _ => 0)))] H := hP
  have hD : va_D A [(h0, .inr (6, [.ref q1, .null, .int 0, .int 0])), (q1, .inl (cA2, 40, .inl (fun _ => 0))), (q3, .inl (cA4, 40, .inl (fun _ => 0)))] := hD
  have hK : va_K (dC, dI) pcl [(cA2, .int), (cA4, .int)] s := hK
  refine W.widen (k := 2) (n := 80) (Nat.le_of_ble_eq_true rfl) (Nat.le_of_ble_eq_true rfl) ?_
  refine va_putF (D := (dC, dI)) (ci := 6) (v := .ref q3) (ty := .array .int) (C := RX5) (T := TX5) (N := 4) hx hb hts pinX5 tyX5 tyX5_ok nmX5 hown hK hP hD hS 0 rfl rfl 1 (by decide) (hts _ e52) (fun _ h9 => h9) rfl hin rfl (by decide +kernel) rfl rfl (Nat.le_of_ble_eq_true rfl) dX5_init_17 (fun H locs hP hD hS => ?_)
  have hP : va_P (dC, dI) pcl [(h0, .inr (6, [.ref q1, .ref q3, .int 0, .int 0])), (q1, .inl (cA2, 40, .inl (fun _ => 0))), (q3, .inl (cA4, 40, .inl (fun _ => 0)))] H := hP
  have hD : va_D A [(h0, .inr (6, [.ref q1, .ref q3, .int 0, .int 0])), (q1, .inl (cA2, 40, .inl (fun _ => 0))), (q3, .inl (cA4, 40, .inl (fun _ => 0)))] := hD
  have hP9 := hP.sub (ws' := [(h0, .inr (6, [.ref q1, .ref q3, .int 0, .int 0])), (q1, .inl (cA2, 40, .inl (fun _ => 0))), (q3, .inl (cA4, 40, .inl (fun _ => 0)))]) [0, 1, 2] rfl
  have hD9 := hD.sub (ws' := [(h0, .inr (6, [.ref q1, .ref q3, .int 0, .int 0])), (q1, .inl (cA2, 40, .inl (fun _ => 0))), (q3, .inl (cA4, 40, .inl (fun _ => 0)))]) [0, 1, 2] (by decide) rfl
  have hK9 := hK.sub (tys' := [(cA2, .int), (cA4, .int)]) [0, 1] rfl
  refine W.widen (k := 2) (n := 80) (Nat.le_of_ble_eq_true rfl) (Nat.le_of_ble_eq_true rfl) ?_
  exact W.vret hx hb hr (fun t ht hW => ⟨⟨(), rfl, trivial, q1, q3, cA2, cA4, by rw [ht]; exact hP9, va_K.moved hW.alike hK9, hD9⟩, hS.F ht⟩) hS.2.2 dX5_init_20
set_option maxHeartbeats 4000000 in
set_option maxRecDepth 100000 in
theorem c_X4_init (l : Launch) (dC : Nat → ClassId) (dI : Nat → Nat → Nat) (z : pG) (h0 : Nat) (m0 : Nat) (sz : Nat) : Met l yX4_init (ws_ yX4_init cX4_init 2 none) ({ frames := 1, cells := 3, slots := 91, locals := 12 }) (va_Pc [.ref h0, .ref m0] (pPre z dC dI [(h0, .inr (5, [.null, .null, .null, .null]))] [] sz)) (va_Qv (fun (_ : Unit) => True) (fun _ t => ∃ (a1 : Nat) (a2 : Nat) (a3 : Nat), pPost dC dI (va_A [(h0, .inr (5, [.null, .null, .null, .null]))] sz) [(h0, .inr (5, [.ref m0, .ref a1, .ref a2, .ref a3]))] [] t) (va_A [(h0, .inr (5, [.null, .null, .null, .null]))] sz)) 3 91 (va_A [(h0, .inr (5, [.null, .null, .null, .null]))] sz) := by
  refine Met.ofW (cc := cX4_init) (maxL := 2) (ret := none) (by decide) rfl ?_
  intro p e s m args below meth c s₁ B hml hv
  obtain ⟨rfl, hsz, hP, hK, hD0, hE⟩ := hv
  have hx := B.exec
  have hb := B.bytes
  have hr := B.returns
  have hts0 := atoms_spec (ws := ws_ yX4_init cX4_init 2 none) B.pre
  have hts := fun (w : Cond) (h : w ∈ pw) => hts0 w (List.mem_cons_of_mem _ h)
  have hown : s.vm.findClass RX4 = some m.cls := findClass_of_methodNamed B.named
  have hlocks := B.notSynchronized
  have hin : meth.name = "<init>" := (name_of_methodNamed B.named B.method).1
  subst hsz
  have hD := hD0.self (sz := s.heap.size)
  generalize hAe : va_A [(h0, .inr (5, [.null, .null, .null, .null]))] s.heap.size = A at hD hE ⊢
  have hA : ∀ q : Nat, s.heap.size ≤ q → A q := fun q h => by rw [← hAe]; exact Or.inr h
  have hS : va_S A s.heap s.heap [] := va_S.rf
  have hN := hE.1
  have hP : va_P (dC, dI) pcl [(h0, .inr (5, [.null, .null, .null, .null]))] s.heap := hP
  have hl := lv_entry ([.ref h0, .ref m0]) (n := 2) (Nat.le_of_ble_eq_true rfl)
  rw [lg_entry_eq]
  generalize (lg_sl ([.ref h0, .ref m0]) ++ List.replicate (2 - (lg_sl ([.ref h0, .ref m0])).length) Slot.unset).toArray = ls at hl ⊢
  have hl : lv_has ls 2 [(0, .ref h0), (1, .ref m0)] := hl
  obtain ⟨H, hH0⟩ : ∃ H, H = s.heap := ⟨_, rfl⟩
  rw [← hH0] at hP ⊢
  have hS : va_S A s.heap H [] := by rw [hH0]; exact hS
  refine lv_aload_n hx hb dX4_init_0 rfl (lv_at hl 0 rfl) ?_
  refine W.objInit hx hb hown (hts _ e45) (hts _ e1) (hts _ e2) rfl (by rw [hml]; exact hl.1) rfl dX4_init_1 (Nat.le_of_ble_eq_true rfl) (Nat.le_of_ble_eq_true rfl) ?_
  refine W.eq (g2 := F0 m 4 ls []) rfl ?_
  refine lv_aload_n hx hb dX4_init_4 rfl (lv_at hl 0 rfl) ?_
  refine lv_bipush (v := 30) hx hb dX4_init_5 (by decide) ?_
  refine va_newa (atype := .int) (N' := 30) (a0 := (30, .inl (fun _ => 0))) hx hb (hts _ e3) rfl hK hP hD hS hA (fun _ => rfl) (by decide) (by decide) (Nat.le_of_ble_eq_true rfl) (Nat.le_of_ble_eq_true rfl) (Nat.le_of_ble_eq_true rfl) dX4_init_7 (fun q1 cA2 H hK hP hD hS => ?_)
  have hP : va_P (dC, dI) pcl [(h0, .inr (5, [.null, .null, .null, .null])), (q1, .inl (cA2, 30, .inl (fun _ => 0)))] H := hP
  have hD : va_D A [(h0, .inr (5, [.null, .null, .null, .null])), (q1, .inl (cA2, 30, .inl (fun _ => 0)))] := hD
  have hK : va_K (dC, dI) pcl [(cA2, .int)] s := hK
  refine W.widen (k := 1) (n := 30) (Nat.le_of_ble_eq_true rfl) (Nat.le_of_ble_eq_true rfl) ?_
  refine va_putF (D := (dC, dI)) (ci := 5) (v := .ref q1) (ty := .array .int) (C := RX4) (T := TX4) (N := 4) hx hb hts pinX4 tyX4 tyX4_ok nmX4 hown hK hP hD hS 0 rfl rfl 1 (by decide) (hts _ e46) (fun _ h9 => h9) rfl hin rfl (by decide +kernel) rfl rfl (Nat.le_of_ble_eq_true rfl) dX4_init_9 (fun H locs hP hD hS => ?_)
  have hP : va_P (dC, dI) pcl [(h0, .inr (5, [.null, .ref q1, .null, .null])), (q1, .inl (cA2, 30, .inl (fun _ => 0)))] H := hP
  have hD : va_D A [(h0, .inr (5, [.null, .ref q1, .null, .null])), (q1, .inl (cA2, 30, .inl (fun _ => 0)))] := hD
  refine lv_aload_n hx hb dX4_init_12 rfl (lv_at hl 0 rfl) ?_
  refine lv_bipush (v := 30) hx hb dX4_init_13 (by decide) ?_
  refine va_newa (atype := .int) (N' := 30) (a0 := (30, .inl (fun _ => 0))) hx hb (hts _ e3) rfl hK hP hD hS hA (fun _ => rfl) (by decide) (by decide) (Nat.le_of_ble_eq_true rfl) (Nat.le_of_ble_eq_true rfl) (Nat.le_of_ble_eq_true rfl) dX4_init_15 (fun q3 cA4 H hK hP hD hS => ?_)
  have hP : va_P (dC, dI) pcl [(h0, .inr (5, [.null, .ref q1, .null, .null])), (q1, .inl (cA2, 30, .inl (fun _ => 0))), (q3, .inl (cA4, 30, .inl (fun _ => 0)))] H := hP
  have hD : va_D A [(h0, .inr (5, [.null, .ref q1, .null, .null])), (q1, .inl (cA2, 30, .inl (fun _ => 0))), (q3, .inl (cA4, 30, .inl (fun _ => 0)))] := hD
  have hK : va_K (dC, dI) pcl [(cA2, .int), (cA4, .int)] s := hK
  refine W.widen (k := 2) (n := 60) (Nat.le_of_ble_eq_true rfl) (Nat.le_of_ble_eq_true rfl) ?_
  refine va_putF (D := (dC, dI)) (ci := 5) (v := .ref q3) (ty := .array .int) (C := RX4) (T := TX4) (N := 4) hx hb hts pinX4 tyX4 tyX4_ok nmX4 hown hK hP hD hS 0 rfl rfl 2 (by decide) (hts _ e47) (fun _ h9 => h9) rfl hin rfl (by decide +kernel) rfl rfl (Nat.le_of_ble_eq_true rfl) dX4_init_17 (fun H locs hP hD hS => ?_)
  have hP : va_P (dC, dI) pcl [(h0, .inr (5, [.null, .ref q1, .ref q3, .null])), (q1, .inl (cA2, 30, .inl (fun _ => 0))), (q3, .inl (cA4, 30, .inl (fun _ => 0)))] H := hP
  have hD : va_D A [(h0, .inr (5, [.null, .ref q1, .ref q3, .null])), (q1, .inl (cA2, 30, .inl (fun _ => 0))), (q3, .inl (cA4, 30, .inl (fun _ => 0)))] := hD
  refine lv_aload_n hx hb dX4_init_20 rfl (lv_at hl 0 rfl) ?_
  refine lv_bipush (v := 31) hx hb dX4_init_21 (by decide) ?_
  refine va_newa (atype := .boolean) (N' := 31) (a0 := (31, .inl (fun _ => 0))) hx hb (hts _ e9) rfl hK hP hD hS hA (fun _ => rfl) (by decide) (by decide) (Nat.le_of_ble_eq_true rfl) (Nat.le_of_ble_eq_true rfl) (Nat.le_of_ble_eq_true rfl) dX4_init_23 (fun q5 cA6 H hK hP hD hS => ?_)
  have hP : va_P (dC, dI) pcl [(h0, .inr (5, [.null, .ref q1, .ref q3, .null])), (q1, .inl (cA2, 30, .inl (fun _ => 0))), (q3, .inl (cA4, 30, .inl (fun _ => 0))), (q5, .inl (cA6, 31, .inl (fun _ => 0)))] H := hP
  have hD : va_D A [(h0, .inr (5, [.null, .ref q1, .ref q3, .null])), (q1, .inl (cA2, 30, .inl (fun _ => 0))), (q3, .inl (cA4, 30, .inl (fun _ => 0))), (q5, .inl (cA6, 31, .inl (fun _ => 0)))] := hD
  have hK : va_K (dC, dI) pcl [(cA2, .int), (cA4, .int), (cA6, .boolean)] s := hK
  refine W.widen (k := 3) (n := 91) (Nat.le_of_ble_eq_true rfl) (Nat.le_of_ble_eq_true rfl) ?_
  refine va_putF (D := (dC, dI)) (ci := 5) (v := .ref q5) (ty := .array (.boolean)) (C := RX4) (T := TX4) (N := 4) hx hb hts pinX4 tyX4 tyX4_ok nmX4 hown hK hP hD hS 0 rfl rfl 3 (by decide) (hts _ e48) (fun _ h9 => h9) rfl hin rfl (by decide +kernel) rfl rfl (Nat.le_of_ble_eq_true rfl) dX4_init_25 (fun H locs hP hD hS => ?_)
  have hP : va_P (dC, dI) pcl [(h0, .inr (5, [.null, .ref q1, .ref q3, .ref q5])), (q1, .inl (cA2, 30, .inl (fun _ => 0))), (q3, .inl (cA4, 30, .inl (fun _ => 0))), (q5, .inl (cA6, 31, .inl (fun _ => 0)))] H := hP
  have hD : va_D A [(h0, .inr (5, [.null, .ref q1, .ref q3, .ref q5])), (q1, .inl (cA2, 30, .inl (fun _ => 0))), (q3, .inl (cA4, 30, .inl (fun _ => 0))), (q5, .inl (cA6, 31, .inl (fun _ => 0)))] := hD
  refine lv_aload_n hx hb dX4_init_28 rfl (lv_at hl 0 rfl) ?_
  refine lv_aload_n hx hb dX4_init_29 rfl (lv_at hl 1 rfl) ?_
  refine va_putF (D := (dC, dI)) (ci := 5) (v := .ref m0) (ty := .object "WordFoundry$Machine") (C := RX4) (T := TX4) (N := 4) hx hb hts pinX4 tyX4 tyX4_ok nmX4 hown hK hP hD hS 0 rfl rfl 0 (by decide) (hts _ e49) (fun _ h9 => h9) rfl hin rfl (by decide +kernel) rfl rfl (Nat.le_of_ble_eq_true rfl) dX4_init_30 (fun H locs hP hD hS => ?_)
  have hP : va_P (dC, dI) pcl [(h0, .inr (5, [.ref m0, .ref q1, .ref q3, .ref q5])), (q1, .inl (cA2, 30, .inl (fun _ => 0))), (q3, .inl (cA4, 30, .inl (fun _ => 0))), (q5, .inl (cA6, 31, .inl (fun _ => 0)))] H := hP
  have hD : va_D A [(h0, .inr (5, [.ref m0, .ref q1, .ref q3, .ref q5])), (q1, .inl (cA2, 30, .inl (fun _ => 0))), (q3, .inl (cA4, 30, .inl (fun _ => 0))), (q5, .inl (cA6, 31, .inl (fun _ => 0)))] := hD
  have hP9 := hP.sub (ws' := [(h0, .inr (5, [.ref m0, .ref q1, .ref q3, .ref q5]))]) [0] rfl
  have hD9 := hD.sub (ws' := [(h0, .inr (5, [.ref m0, .ref q1, .ref q3, .ref q5]))]) [0] (by decide) rfl
  have hK9 := hK.sub (tys' := []) [] rfl
  refine W.widen (k := 3) (n := 91) (Nat.le_of_ble_eq_true rfl) (Nat.le_of_ble_eq_true rfl) ?_
  exact W.vret hx hb hr (fun t ht hW => ⟨⟨(), rfl, trivial, q1, q3, q5, by rw [ht]; exact hP9, va_K.moved hW.alike hK9, hD9⟩, hS.F ht⟩) hS.2.2 dX4_init_33
set_option maxHeartbeats 4000000 in
set_option maxRecDepth 100000 in
theorem c_X8_init (l : Launch) (dC : Nat → ClassId) (dI : Nat → Nat → Nat) (z : pG) (h0 : Nat) (m0 : Nat) (sz : Nat) : Met l yX8_init (ws_ yX8_init cX8_init 2 none) ({ frames := 1, cells := 0, slots := 0, locals := 12 }) (va_Pc [.ref h0, .ref m0] (pPre z dC dI [(h0, .inr (9, [.null]))] [] sz)) (va_Qv (fun (_ : Unit) => True) (fun _ t => pPost dC dI (va_A [(h0, .inr (9, [.null]))] sz) [(h0, .inr (9, [.ref m0]))] [] t) (va_A [(h0, .inr (9, [.null]))] sz)) 0 0 (va_A [(h0, .inr (9, [.null]))] sz) := by
  refine Met.ofW (cc := cX8_init) (maxL := 2) (ret := none) (by decide) rfl ?_
  intro p e s m args below meth c s₁ B hml hv
  obtain ⟨rfl, hsz, hP, hK, hD0, hE⟩ := hv
  have hx := B.exec
  have hb := B.bytes
  have hr := B.returns
  have hts0 := atoms_spec (ws := ws_ yX8_init cX8_init 2 none) B.pre
  have hts := fun (w : Cond) (h : w ∈ pw) => hts0 w (List.mem_cons_of_mem _ h)
  have hown : s.vm.findClass RX8 = some m.cls := findClass_of_methodNamed B.named
  have hlocks := B.notSynchronized
  have hin : meth.name = "<init>" := (name_of_methodNamed B.named B.method).1
  subst hsz
  have hD := hD0.self (sz := s.heap.size)
  generalize hAe : va_A [(h0, .inr (9, [.null]))] s.heap.size = A at hD hE ⊢
  have hA : ∀ q : Nat, s.heap.size ≤ q → A q := fun q h => by rw [← hAe]; exact Or.inr h
  have hS : va_S A s.heap s.heap [] := va_S.rf
  have hN := hE.1
  have hP : va_P (dC, dI) pcl [(h0, .inr (9, [.null]))] s.heap := hP
  have hl := lv_entry ([.ref h0, .ref m0]) (n := 2) (Nat.le_of_ble_eq_true rfl)
  rw [lg_entry_eq]
  generalize (lg_sl ([.ref h0, .ref m0]) ++ List.replicate (2 - (lg_sl ([.ref h0, .ref m0])).length) Slot.unset).toArray = ls at hl ⊢
  have hl : lv_has ls 2 [(0, .ref h0), (1, .ref m0)] := hl
  obtain ⟨H, hH0⟩ : ∃ H, H = s.heap := ⟨_, rfl⟩
  rw [← hH0] at hP ⊢
  have hS : va_S A s.heap H [] := by rw [hH0]; exact hS
  refine lv_aload_n hx hb dX8_init_0 rfl (lv_at hl 0 rfl) ?_
  refine W.objInit hx hb hown (hts _ e92) (hts _ e1) (hts _ e2) rfl (by rw [hml]; exact hl.1) rfl dX8_init_1 (Nat.le_of_ble_eq_true rfl) (Nat.le_of_ble_eq_true rfl) ?_
  refine W.eq (g2 := F0 m 4 ls []) rfl ?_
  refine lv_aload_n hx hb dX8_init_4 rfl (lv_at hl 0 rfl) ?_
  refine lv_aload_n hx hb dX8_init_5 rfl (lv_at hl 1 rfl) ?_
  refine va_putF (D := (dC, dI)) (ci := 9) (v := .ref m0) (ty := .object "WordFoundry$Machine") (C := RX8) (T := TX8) (N := 1) hx hb hts pinX8 tyX8 tyX8_ok nmX8 hown hK hP hD hS 0 rfl rfl 0 (by decide) (hts _ e93) (fun _ h9 => h9) rfl hin rfl (by decide +kernel) rfl rfl (Nat.le_of_ble_eq_true rfl) dX8_init_6 (fun H locs hP hD hS => ?_)
  have hP : va_P (dC, dI) pcl [(h0, .inr (9, [.ref m0]))] H := hP
  have hD : va_D A [(h0, .inr (9, [.ref m0]))] := hD
  have hP9 := hP.sub (ws' := [(h0, .inr (9, [.ref m0]))]) [0] rfl
  have hD9 := hD.sub (ws' := [(h0, .inr (9, [.ref m0]))]) [0] (by decide) rfl
  have hK9 := hK.sub (tys' := []) [] rfl
  refine W.widen (k := 0) (n := 0) (Nat.le_of_ble_eq_true rfl) (Nat.le_of_ble_eq_true rfl) ?_
  exact W.vret hx hb hr (fun t ht hW => ⟨⟨(), rfl, trivial, by rw [ht]; exact hP9, va_K.moved hW.alike hK9, hD9⟩, hS.F ht⟩) hS.2.2 dX8_init_9
