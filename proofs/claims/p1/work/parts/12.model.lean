set_option maxHeartbeats 4000000 in
set_option maxRecDepth 100000 in
theorem c_X17_init (l : Launch) (dC : Nat → ClassId) (dI : Nat → Nat → Nat) (z : pG) (h0 : Nat) (sz : Nat) : Met l yX17_init (ws_ yX17_init cX17_init 1 none) ({ frames := 4, cells := 15, slots := 299, locals := 72 }) (va_Pc [.ref h0] (pPre z dC dI [(h0, .inr (14, [.null, .null, .null, .null, .null, .null, .null, .null, .null, .null, .null, .int 0, .int 0, .int 0, .int 0, .int 0, .int 0, .int 0, .int 0, .int 0, .int 0, .int 0, .int 0, .long 0, .null, .null, .null, .null, .null, .int 0, .int 0]))] [] sz)) (va_Qv (fun (_ : Unit) => True) (fun _ t => ∃ (l1 : Nat) (l2 : Nat) (l3 : Nat) (l4 : Nat) (l5 : Nat) (l6 : Nat) (l7 : Nat) (l8 : Nat) (l9 : Nat) (ce : Nat) (y1 : Nat) (y2 : Nat) (y3 : Nat) (y4 : Nat) (y5 : Nat) (cB : ClassId), pPost dC dI (va_A [(h0, .inr (14, [.null, .null, .null, .null, .null, .null, .null, .null, .null, .null, .null, .int 0, .int 0, .int 0, .int 0, .int 0, .int 0, .int 0, .int 0, .int 0, .int 0, .int 0, .int 0, .long 0, .null, .null, .null, .null, .null, .int 0, .int 0]))] sz) [(h0, .inr (14, [.ref l1, .ref l2, .ref l3, .ref l4, .ref l5, .ref l6, .ref l7, .ref l8, .ref l9, .ref ce, .null, .int 0, .int 0, .int 0, .int 0, .int 0, .int 0, .int 0, .int 0, .int 0, .int 0, .int 0, .int 0, .long 0, .ref y1, .ref y2, .ref y3, .ref y4, .ref y5, .int 0, .int 0])), (l1, .inr (0, [.int 0, .ref z.1, .int 0])), (l2, .inr (0, [.int 0, .ref z.1, .int 0])), (l3, .inr (0, [.int 0, .ref z.1, .int 0])), (l4, .inr (0, [.int 0, .ref z.1, .int 0])), (l5, .inr (0, [.int 0, .ref z.1, .int 0])), (l6, .inr (0, [.int 0, .ref z.1, .int 0])), (l7, .inr (0, [.int 0, .ref z.1, .int 0])), (l8, .inr (0, [.int 0, .ref z.1, .int 0])), (l9, .inr (0, [.int 0, .ref z.1, .int 0])), (ce, .inl (cB, 100, .inl (fun _ => 0)))] [(cB, .int)] t) (va_A [(h0, .inr (14, [.null, .null, .null, .null, .null, .null, .null, .null, .null, .null, .null, .int 0, .int 0, .int 0, .int 0, .int 0, .int 0, .int 0, .int 0, .int 0, .int 0, .int 0, .int 0, .long 0, .null, .null, .null, .null, .null, .int 0, .int 0]))] sz)) 15 299 (va_A [(h0, .inr (14, [.null, .null, .null, .null, .null, .null, .null, .null, .null, .null, .null, .int 0, .int 0, .int 0, .int 0, .int 0, .int 0, .int 0, .int 0, .int 0, .int 0, .int 0, .int 0, .long 0, .null, .null, .null, .null, .null, .int 0, .int 0]))] sz) := by
  refine Met.ofW (cc := cX17_init) (maxL := 1) (ret := none) (by decide) rfl ?_
  intro p e s m args below meth c s₁ B hml hv
  obtain ⟨rfl, hsz, hP, hK, hD0, hE⟩ := hv
  have hx := B.exec
  have hb := B.bytes
  have hr := B.returns
  have hts0 := atoms_spec (ws := ws_ yX17_init cX17_init 1 none) B.pre
  have hts := fun (w : Cond) (h : w ∈ pw) => hts0 w (List.mem_cons_of_mem _ h)
  have hown : s.vm.findClass RX17 = some m.cls := findClass_of_methodNamed B.named
  have hlocks := B.notSynchronized
  have hin : meth.name = "<init>" := (name_of_methodNamed B.named B.method).1
  subst hsz
  have hD := hD0.self (sz := s.heap.size)
  generalize hAe : va_A [(h0, .inr (14, [.null, .null, .null, .null, .null, .null, .null, .null, .null, .null, .null, .int 0, .int 0, .int 0, .int 0, .int 0, .int 0, .int 0, .int 0, .int 0, .int 0, .int 0, .int 0, .long 0, .null, .null, .null, .null, .null, .int 0, .int 0]))] s.heap.size = A at hD hE ⊢
  have hA : ∀ q : Nat, s.heap.size ≤ q → A q := fun q h => by rw [← hAe]; exact Or.inr h
  have hS : va_S A s.heap s.heap [] := va_S.rf
  have hN := hE.1
  have hP : va_P (dC, dI) pcl [(h0, .inr (14, [.null, .null, .null, .null, .null, .null, .null, .null, .null, .null, .null, .int 0, .int 0, .int 0, .int 0, .int 0, .int 0, .int 0, .int 0, .int 0, .int 0, .int 0, .int 0, .long 0, .null, .null, .null, .null, .null, .int 0, .int 0]))] s.heap := hP
  have hl := lv_entry ([.ref h0]) (n := 1) (Nat.le_of_ble_eq_true rfl)
  rw [lg_entry_eq]
  generalize (lg_sl ([.ref h0]) ++ List.replicate (1 - (lg_sl ([.ref h0])).length) Slot.unset).toArray = ls at hl ⊢
  have hl : lv_has ls 1 [(0, .ref h0)] := hl
  obtain ⟨H, hH0⟩ : ∃ H, H = s.heap := ⟨_, rfl⟩
  rw [← hH0] at hP ⊢
  have hS : va_S A s.heap H [] := by rw [hH0]; exact hS
  refine lv_aload_n hx hb dX17_init_0 rfl (lv_at hl 0 rfl) ?_
  refine W.objInit hx hb hown (hts _ e182) (hts _ e1) (hts _ e2) rfl (by rw [hml]; exact hl.1) rfl dX17_init_1 (Nat.le_of_ble_eq_true rfl) (Nat.le_of_ble_eq_true rfl) ?_
  refine W.eq (g2 := F0 m 4 ls []) rfl ?_
  refine lv_aload_n hx hb dX17_init_4 rfl (lv_at hl 0 rfl) ?_
  refine va_new (ci := 0) (fs := [.int 0, .null, .int 0]) (C := RJx4a65c) (T := TJx4a65c) (N := 3) hx hb hts pinJx4a65c tyJx4a65c tyJx4a65c_ok hown (hts _ e183) (hts _ e184) (hts _ e185) hK hP hD hS hA rfl (fun j hj => by rcases (show j = 0 ∨ j = 1 ∨ j = 2 by omega) with rfl | rfl | rfl <;> rfl) (Nat.le_of_ble_eq_true rfl) (Nat.le_of_ble_eq_true rfl) dX17_init_5 (fun q1 H hP hD hS => ?_)
  have hP : va_P (dC, dI) pcl [(h0, .inr (14, [.null, .null, .null, .null, .null, .null, .null, .null, .null, .null, .null, .int 0, .int 0, .int 0, .int 0, .int 0, .int 0, .int 0, .int 0, .int 0, .int 0, .int 0, .int 0, .long 0, .null, .null, .null, .null, .null, .int 0, .int 0])), (q1, .inr (0, [.int 0, .null, .int 0]))] H := hP
  have hD : va_D A [(h0, .inr (14, [.null, .null, .null, .null, .null, .null, .null, .null, .null, .null, .null, .int 0, .int 0, .int 0, .int 0, .int 0, .int 0, .int 0, .int 0, .int 0, .int 0, .int 0, .int 0, .long 0, .null, .null, .null, .null, .null, .int 0, .int 0])), (q1, .inr (0, [.int 0, .null, .int 0]))] := hD
  refine W.widen (k := 1) (n := 3) (Nat.le_of_ble_eq_true rfl) (Nat.le_of_ble_eq_true rfl) ?_
  refine lv_dup hx hb dX17_init_8 rfl ?_
  have hPc := hP.sub (ws' := [(q1, .inr (0, [.int 0, .null, .int 0]))]) [1] rfl
  have hDc := hD.sub (ws' := [(q1, .inr (0, [.int 0, .null, .int 0]))]) [1] (by decide) rfl
  have hKc := hK.sub (tys' := []) [] rfl
  have hFc := va_free (wc := [(q1, .inr (0, [.int 0, .null, .int 0]))]) hD hS hA [1] rfl
  refine va_callv (va_runI (As := []) (rest := [.ref q1, .ref h0]) ⟨hx, hb, hml, hown, hts⟩ (c_Jx4a65c_init_da8c8 l dC dI z q1 H.size) (cwI 0 hts (ws_good e188) rfl rfl rfl (hts _ e185) (hts _ e186) (hts _ e187) rfl ⟨by decide +kernel, by decide +kernel, by decide +kernel⟩ ⟨Nat.le_of_ble_eq_true rfl, Nat.le_of_ble_eq_true rfl⟩) ⟨pPre_blind, fun U hU hW => ⟨rfl, pPre_at hPc hKc hDc hE hS hFc U hU hW⟩⟩ rfl rfl hl.1 rfl (lv_room (Nat.le_of_ble_eq_true rfl)) dX17_init_9 ⟨Nat.le_of_ble_eq_true rfl, Nat.le_of_ble_eq_true rfl⟩) hS (fun q _ h => hFc q h) hFc (fun u3 t H1 locs ht hvm hw hB hz1 hk1 hS => ?_)
  obtain ⟨hP1, hK1, hD1⟩ := hB
  rw [ht] at hP1
  have hK1 := va_K.moved hvm.symm hK1
  obtain ⟨hP, hD⟩ := va_join (wr := [(h0, .inr (14, [.null, .null, .null, .null, .null, .null, .null, .null, .null, .null, .null, .int 0, .int 0, .int 0, .int 0, .int 0, .int 0, .int 0, .int 0, .int 0, .int 0, .int 0, .int 0, .long 0, .null, .null, .null, .null, .null, .int 0, .int 0]))]) (w1 := [(q1, .inr (0, [.int 0, .ref z.1, .int 0]))]) hP hD [1] [0] rfl rfl (by decide) (by decide) hk1 hFc hP1 hD1
  have hK := hK.app hK1
  generalize H1 = H at hP hS ⊢
  have hP : va_P (dC, dI) pcl [(h0, .inr (14, [.null, .null, .null, .null, .null, .null, .null, .null, .null, .null, .null, .int 0, .int 0, .int 0, .int 0, .int 0, .int 0, .int 0, .int 0, .int 0, .int 0, .int 0, .int 0, .long 0, .null, .null, .null, .null, .null, .int 0, .int 0])), (q1, .inr (0, [.int 0, .ref z.1, .int 0]))] H := hP
  have hD : va_D A [(h0, .inr (14, [.null, .null, .null, .null, .null, .null, .null, .null, .null, .null, .null, .int 0, .int 0, .int 0, .int 0, .int 0, .int 0, .int 0, .int 0, .int 0, .int 0, .int 0, .int 0, .long 0, .null, .null, .null, .null, .null, .int 0, .int 0])), (q1, .inr (0, [.int 0, .ref z.1, .int 0]))] := hD
  have hK : va_K (dC, dI) pcl [] s := hK
  refine va_putF (D := (dC, dI)) (ci := 14) (v := .ref q1) (ty := .object "java/util/ArrayList") (C := RX17) (T := TX17) (N := 31) hx hb hts pinX17 tyX17 tyX17_ok nmX17 hown hK hP hD hS 0 rfl rfl 0 (by decide) (hts _ e189) (fun _ h9 => h9) rfl hin rfl (by decide +kernel) rfl rfl (Nat.le_of_ble_eq_true rfl) dX17_init_12 (fun H locs hP hD hS => ?_)
  have hP : va_P (dC, dI) pcl [(h0, .inr (14, [.ref q1, .null, .null, .null, .null, .null, .null, .null, .null, .null, .null, .int 0, .int 0, .int 0, .int 0, .int 0, .int 0, .int 0, .int 0, .int 0, .int 0, .int 0, .int 0, .long 0, .null, .null, .null, .null, .null, .int 0, .int 0])), (q1, .inr (0, [.int 0, .ref z.1, .int 0]))] H := hP
  have hD : va_D A [(h0, .inr (14, [.ref q1, .null, .null, .null, .null, .null, .null, .null, .null, .null, .null, .int 0, .int 0, .int 0, .int 0, .int 0, .int 0, .int 0, .int 0, .int 0, .int 0, .int 0, .int 0, .long 0, .null, .null, .null, .null, .null, .int 0, .int 0])), (q1, .inr (0, [.int 0, .ref z.1, .int 0]))] := hD
  refine lv_aload_n hx hb dX17_init_15 rfl (lv_at hl 0 rfl) ?_
  refine va_new (ci := 0) (fs := [.int 0, .null, .int 0]) (C := RJx4a65c) (T := TJx4a65c) (N := 3) hx hb hts pinJx4a65c tyJx4a65c tyJx4a65c_ok hown (hts _ e183) (hts _ e184) (hts _ e185) hK hP hD hS hA rfl (fun j hj => by rcases (show j = 0 ∨ j = 1 ∨ j = 2 by omega) with rfl | rfl | rfl <;> rfl) (Nat.le_of_ble_eq_true rfl) (Nat.le_of_ble_eq_true rfl) dX17_init_16 (fun q4 H hP hD hS => ?_)
  have hP : va_P (dC, dI) pcl [(h0, .inr (14, [.ref q1, .null, .null, .null, .null, .null, .null, .null, .null, .null, .null, .int 0, .int 0, .int 0, .int 0, .int 0, .int 0, .int 0, .int 0, .int 0, .int 0, .int 0, .int 0, .long 0, .null, .null, .null, .null, .null, .int 0, .int 0])), (q1, .inr (0, [.int 0, .ref z.1, .int 0])), (q4, .inr (0, [.int 0, .null, .int 0]))] H := hP
  have hD : va_D A [(h0, .inr (14, [.ref q1, .null, .null, .null, .null, .null, .null, .null, .null, .null, .null, .int 0, .int 0, .int 0, .int 0, .int 0, .int 0, .int 0, .int 0, .int 0, .int 0, .int 0, .int 0, .long 0, .null, .null, .null, .null, .null, .int 0, .int 0])), (q1, .inr (0, [.int 0, .ref z.1, .int 0])), (q4, .inr (0, [.int 0, .null, .int 0]))] := hD
  refine W.widen (k := 2) (n := 6) (Nat.le_of_ble_eq_true rfl) (Nat.le_of_ble_eq_true rfl) ?_
  refine lv_dup hx hb dX17_init_19 rfl ?_
  have hPc := hP.sub (ws' := [(q4, .inr (0, [.int 0, .null, .int 0]))]) [2] rfl
  have hDc := hD.sub (ws' := [(q4, .inr (0, [.int 0, .null, .int 0]))]) [2] (by decide) rfl
  have hKc := hK.sub (tys' := []) [] rfl
  have hFc := va_free (wc := [(q4, .inr (0, [.int 0, .null, .int 0]))]) hD hS hA [2] rfl
  refine va_callv (va_runI (As := []) (rest := [.ref q4, .ref h0]) ⟨hx, hb, hml, hown, hts⟩ (c_Jx4a65c_init_da8c8 l dC dI z q4 H.size) (cwI 0 hts (ws_good e188) rfl rfl rfl (hts _ e185) (hts _ e186) (hts _ e187) rfl ⟨by decide +kernel, by decide +kernel, by decide +kernel⟩ ⟨Nat.le_of_ble_eq_true rfl, Nat.le_of_ble_eq_true rfl⟩) ⟨pPre_blind, fun U hU hW => ⟨rfl, pPre_at hPc hKc hDc hE hS hFc U hU hW⟩⟩ rfl rfl hl.1 rfl (lv_room (Nat.le_of_ble_eq_true rfl)) dX17_init_20 ⟨Nat.le_of_ble_eq_true rfl, Nat.le_of_ble_eq_true rfl⟩) hS (fun q _ h => hFc q h) hFc (fun u6 t H1 locs ht hvm hw hB hz1 hk1 hS => ?_)
  obtain ⟨hP1, hK1, hD1⟩ := hB
  rw [ht] at hP1
  have hK1 := va_K.moved hvm.symm hK1
  obtain ⟨hP, hD⟩ := va_join (wr := [(h0, .inr (14, [.ref q1, .null, .null, .null, .null, .null, .null, .null, .null, .null, .null, .int 0, .int 0, .int 0, .int 0, .int 0, .int 0, .int 0, .int 0, .int 0, .int 0, .int 0, .int 0, .long 0, .null, .null, .null, .null, .null, .int 0, .int 0])), (q1, .inr (0, [.int 0, .ref z.1, .int 0]))]) (w1 := [(q4, .inr (0, [.int 0, .ref z.1, .int 0]))]) hP hD [2] [0, 1] rfl rfl (by decide) (by decide) hk1 hFc hP1 hD1
  have hK := hK.app hK1
  generalize H1 = H at hP hS ⊢
  have hP : va_P (dC, dI) pcl [(h0, .inr (14, [.ref q1, .null, .null, .null, .null, .null, .null, .null, .null, .null, .null, .int 0, .int 0, .int 0, .int 0, .int 0, .int 0, .int 0, .int 0, .int 0, .int 0, .int 0, .int 0, .long 0, .null, .null, .null, .null, .null, .int 0, .int 0])), (q1, .inr (0, [.int 0, .ref z.1, .int 0])), (q4, .inr (0, [.int 0, .ref z.1, .int 0]))] H := hP
  have hD : va_D A [(h0, .inr (14, [.ref q1, .null, .null, .null, .null, .null, .null, .null, .null, .null, .null, .int 0, .int 0, .int 0, .int 0, .int 0, .int 0, .int 0, .int 0, .int 0, .int 0, .int 0, .int 0, .long 0, .null, .null, .null, .null, .null, .int 0, .int 0])), (q1, .inr (0, [.int 0, .ref z.1, .int 0])), (q4, .inr (0, [.int 0, .ref z.1, .int 0]))] := hD
  have hK : va_K (dC, dI) pcl [] s := hK
  refine va_putF (D := (dC, dI)) (ci := 14) (v := .ref q4) (ty := .object "java/util/ArrayList") (C := RX17) (T := TX17) (N := 31) hx hb hts pinX17 tyX17 tyX17_ok nmX17 hown hK hP hD hS 0 rfl rfl 1 (by decide) (hts _ e190) (fun _ h9 => h9) rfl hin rfl (by decide +kernel) rfl rfl (Nat.le_of_ble_eq_true rfl) dX17_init_23 (fun H locs hP hD hS => ?_)
  have hP : va_P (dC, dI) pcl [(h0, .inr (14, [.ref q1, .ref q4, .null, .null, .null, .null, .null, .null, .null, .null, .null, .int 0, .int 0, .int 0, .int 0, .int 0, .int 0, .int 0, .int 0, .int 0, .int 0, .int 0, .int 0, .long 0, .null, .null, .null, .null, .null, .int 0, .int 0])), (q1, .inr (0, [.int 0, .ref z.1, .int 0])), (q4, .inr (0, [.int 0, .ref z.1, .int 0]))] H := hP
  have hD : va_D A [(h0, .inr (14, [.ref q1, .ref q4, .null, .null, .null, .null, .null, .null, .null, .null, .null, .int 0, .int 0, .int 0, .int 0, .int 0, .int 0, .int 0, .int 0, .int 0, .int 0, .int 0, .int 0, .long 0, .null, .null, .null, .null, .null, .int 0, .int 0])), (q1, .inr (0, [.int 0, .ref z.1, .int 0])), (q4, .inr (0, [.int 0, .ref z.1, .int 0]))] := hD
  refine lv_aload_n hx hb dX17_init_26 rfl (lv_at hl 0 rfl) ?_
  refine va_new (ci := 0) (fs := [.int 0, .null, .int 0]) (C := RJx4a65c) (T := TJx4a65c) (N := 3) hx hb hts pinJx4a65c tyJx4a65c tyJx4a65c_ok hown (hts _ e183) (hts _ e184) (hts _ e185) hK hP hD hS hA rfl (fun j hj => by rcases (show j = 0 ∨ j = 1 ∨ j = 2 by omega) with rfl | rfl | rfl <;> rfl) (Nat.le_of_ble_eq_true rfl) (Nat.le_of_ble_eq_true rfl) dX17_init_27 (fun q7 H hP hD hS => ?_)
  have hP : va_P (dC, dI) pcl [(h0, .inr (14, [.ref q1, .ref q4, .null, .null, .null, .null, .null, .null, .null, .null, .null, .int 0, .int 0, .int 0, .int 0, .int 0, .int 0, .int 0, .int 0, .int 0, .int 0, .int 0, .int 0, .long 0, .null, .null, .null, .null, .null, .int 0, .int 0])), (q1, .inr (0, [.int 0, .ref z.1, .int 0])), (q4, .inr (0, [.int 0, .ref z.1, .int 0])), (q7, .inr (0, [.int 0, .null, .int 0]))] H := hP
  have hD : va_D A [(h0, .inr (14, [.ref q1, .ref q4, .null, .null, .null, .null, .null, .null, .null, .null, .null, .int 0, .int 0, .int 0, .int 0, .int 0, .int 0, .int 0, .int 0, .int 0, .int 0, .int 0, .int 0, .long 0, .null, .null, .null, .null, .null, .int 0, .int 0])), (q1, .inr (0, [.int 0, .ref z.1, .int 0])), (q4, .inr (0, [.int 0, .ref z.1, .int 0])), (q7, .inr (0, [.int 0, .null, .int 0]))] := hD
  refine W.widen (k := 3) (n := 9) (Nat.le_of_ble_eq_true rfl) (Nat.le_of_ble_eq_true rfl) ?_
  refine lv_dup hx hb dX17_init_30 rfl ?_
  have hPc := hP.sub (ws' := [(q7, .inr (0, [.int 0, .null, .int 0]))]) [3] rfl
  have hDc := hD.sub (ws' := [(q7, .inr (0, [.int 0, .null, .int 0]))]) [3] (by decide) rfl
  have hKc := hK.sub (tys' := []) [] rfl
  have hFc := va_free (wc := [(q7, .inr (0, [.int 0, .null, .int 0]))]) hD hS hA [3] rfl
  refine va_callv (va_runI (As := []) (rest := [.ref q7, .ref h0]) ⟨hx, hb, hml, hown, hts⟩ (c_Jx4a65c_init_da8c8 l dC dI z q7 H.size) (cwI 0 hts (ws_good e188) rfl rfl rfl (hts _ e185) (hts _ e186) (hts _ e187) rfl ⟨by decide +kernel, by decide +kernel, by decide +kernel⟩ ⟨Nat.le_of_ble_eq_true rfl, Nat.le_of_ble_eq_true rfl⟩) ⟨pPre_blind, fun U hU hW => ⟨rfl, pPre_at hPc hKc hDc hE hS hFc U hU hW⟩⟩ rfl rfl hl.1 rfl (lv_room (Nat.le_of_ble_eq_true rfl)) dX17_init_31 ⟨Nat.le_of_ble_eq_true rfl, Nat.le_of_ble_eq_true rfl⟩) hS (fun q _ h => hFc q h) hFc (fun u9 t H1 locs ht hvm hw hB hz1 hk1 hS => ?_)
  obtain ⟨hP1, hK1, hD1⟩ := hB
  rw [ht] at hP1
  have hK1 := va_K.moved hvm.symm hK1
  obtain ⟨hP, hD⟩ := va_join (wr := [(h0, .inr (14, [.ref q1, .ref q4, .null, .null, .null, .null, .null, .null, .null, .null, .null, .int 0, .int 0, .int 0, .int 0, .int 0, .int 0, .int 0, .int 0, .int 0, .int 0, .int 0, .int 0, .long 0, .null, .null, .null, .null, .null, .int 0, .int 0])), (q1, .inr (0, [.int 0, .ref z.1, .int 0])), (q4, .inr (0, [.int 0, .ref z.1, .int 0]))]) (w1 := [(q7, .inr (0, [.int 0, .ref z.1, .int 0]))]) hP hD [3] [0, 1, 2] rfl rfl (by decide) (by decide) hk1 hFc hP1 hD1
  have hK := hK.app hK1
  generalize H1 = H at hP hS ⊢
  have hP : va_P (dC, dI) pcl [(h0, .inr (14, [.ref q1, .ref q4, .null, .null, .null, .null, .null, .null, .null, .null, .null, .int 0, .int 0, .int 0, .int 0, .int 0, .int 0, .int 0, .int 0, .int 0, .int 0, .int 0, .int 0, .long 0, .null, .null, .null, .null, .null, .int 0, .int 0])), (q1, .inr (0, [.int 0, .ref z.1, .int 0])), (q4, .inr (0, [.int 0, .ref z.1, .int 0])), (q7, .inr (0, [.int 0, .ref z.1, .int 0]))] H := hP
  have hD : va_D A [(h0, .inr (14, [.ref q1, .ref q4, .null, .null, .null, .null, .null, .null, .null, .null, .null, .int 0, .int 0, .int 0, .int 0, .int 0, .int 0, .int 0, .int 0, .int 0, .int 0, .int 0, .int 0, .long 0, .null, .null, .null, .null, .null, .int 0, .int 0])), (q1, .inr (0, [.int 0, .ref z.1, .int 0])), (q4, .inr (0, [.int 0, .ref z.1, .int 0])), (q7, .inr (0, [.int 0, .ref z.1, .int 0]))] := hD
  have hK : va_K (dC, dI) pcl [] s := hK
  refine va_putF (D := (dC, dI)) (ci := 14) (v := .ref q7) (ty := .object "java/util/ArrayList") (C := RX17) (T := TX17) (N := 31) hx hb hts pinX17 tyX17 tyX17_ok nmX17 hown hK hP hD hS 0 rfl rfl 2 (by decide) (hts _ e191) (fun _ h9 => h9) rfl hin rfl (by decide +kernel) rfl rfl (Nat.le_of_ble_eq_true rfl) dX17_init_34 (fun H locs hP hD hS => ?_)
  have hP : va_P (dC, dI) pcl [(h0, .inr (14, [.ref q1, .ref q4, .ref q7, .null, .null, .null, .null, .null, .null, .null, .null, .int 0, .int 0, .int 0, .int 0, .int 0, .int 0, .int 0, .int 0, .int 0, .int 0, .int 0, .int 0, .long 0, .null, .null, .null, .null, .null, .int 0, .int 0])), (q1, .inr (0, [.int 0, .ref z.1, .int 0])), (q4, .inr (0, [.int 0, .ref z.1, .int 0])), (q7, .inr (0, [.int 0, .ref z.1, .int 0]))] H := hP
  have hD : va_D A [(h0, .inr (14, [.ref q1, .ref q4, .ref q7, .null, .null, .null, .null, .null, .null, .null, .null, .int 0, .int 0, .int 0, .int 0, .int 0, .int 0, .int 0, .int 0, .int 0, .int 0, .int 0, .int 0, .long 0, .null, .null, .null, .null, .null, .int 0, .int 0])), (q1, .inr (0, [.int 0, .ref z.1, .int 0])), (q4, .inr (0, [.int 0, .ref z.1, .int 0])), (q7, .inr (0, [.int 0, .ref z.1, .int 0]))] := hD
  refine lv_aload_n hx hb dX17_init_37 rfl (lv_at hl 0 rfl) ?_
  refine va_new (ci := 0) (fs := [.int 0, .null, .int 0]) (C := RJx4a65c) (T := TJx4a65c) (N := 3) hx hb hts pinJx4a65c tyJx4a65c tyJx4a65c_ok hown (hts _ e183) (hts _ e184) (hts _ e185) hK hP hD hS hA rfl (fun j hj => by rcases (show j = 0 ∨ j = 1 ∨ j = 2 by omega) with rfl | rfl | rfl <;> rfl) (Nat.le_of_ble_eq_true rfl) (Nat.le_of_ble_eq_true rfl) dX17_init_38 (fun q10 H hP hD hS => ?_)
  have hP : va_P (dC, dI) pcl [(h0, .inr (14, [.ref q1, .ref q4, .ref q7, .null, .null, .null, .null, .null, .null, .null, .null, .int 0, .int 0, .int 0, .int 0, .int 0, .int 0, .int 0, .int 0, .int 0, .int 0, .int 0, .int 0, .long 0, .null, .null, .null, .null, .null, .int 0, .int 0])), (q1, .inr (0, [.int 0, .ref z.1, .int 0])), (q4, .inr (0, [.int 0, .ref z.1, .int 0])), (q7, .inr (0, [.int 0, .ref z.1, .int 0])), (q10, .inr (0, [.int 0, .null, .int 0]))] H := hP
  have hD : va_D A [(h0, .inr (14, [.ref q1, .ref q4, .ref q7, .null, .null, .null, .null, .null, .null, .null, .null, .int 0, .int 0, .int 0, .int 0, .int 0, .int 0, .int 0, .int 0, .int 0, .int 0, .int 0, .int 0, .long 0, .null, .null, .null, .null, .null, .int 0, .int 0])), (q1, .inr (0, [.int 0, .ref z.1, .int 0])), (q4, .inr (0, [.int 0, .ref z.1, .int 0])), (q7, .inr (0, [.int 0, .ref z.1, .int 0])), (q10, .inr (0, [.int 0, .null, .int 0]))] := hD
  refine W.widen (k := 4) (n := 12) (Nat.le_of_ble_eq_true rfl) (Nat.le_of_ble_eq_true rfl) ?_
  refine lv_dup hx hb dX17_init_41 rfl ?_
  have hPc := hP.sub (ws' := [(q10, .inr (0, [.int 0, .null, .int 0]))]) [4] rfl
  have hDc := hD.sub (ws' := [(q10, .inr (0, [.int 0, .null, .int 0]))]) [4] (by decide) rfl
  have hKc := hK.sub (tys' := []) [] rfl
  have hFc := va_free (wc := [(q10, .inr (0, [.int 0, .null, .int 0]))]) hD hS hA [4] rfl
  refine va_callv (va_runI (As := []) (rest := [.ref q10, .ref h0]) ⟨hx, hb, hml, hown, hts⟩ (c_Jx4a65c_init_da8c8 l dC dI z q10 H.size) (cwI 0 hts (ws_good e188) rfl rfl rfl (hts _ e185) (hts _ e186) (hts _ e187) rfl ⟨by decide +kernel, by decide +kernel, by decide +kernel⟩ ⟨Nat.le_of_ble_eq_true rfl, Nat.le_of_ble_eq_true rfl⟩) ⟨pPre_blind, fun U hU hW => ⟨rfl, pPre_at hPc hKc hDc hE hS hFc U hU hW⟩⟩ rfl rfl hl.1 rfl (lv_room (Nat.le_of_ble_eq_true rfl)) dX17_init_42 ⟨Nat.le_of_ble_eq_true rfl, Nat.le_of_ble_eq_true rfl⟩) hS (fun q _ h => hFc q h) hFc (fun u12 t H1 locs ht hvm hw hB hz1 hk1 hS => ?_)
  obtain ⟨hP1, hK1, hD1⟩ := hB
  rw [ht] at hP1
  have hK1 := va_K.moved hvm.symm hK1
  obtain ⟨hP, hD⟩ := va_join (wr := [(h0, .inr (14, [.ref q1, .ref q4, .ref q7, .null, .null, .null, .null, .null, .null, .null, .null, .int 0, .int 0, .int 0, .int 0, .int 0, .int 0, .int 0, .int 0, .int 0, .int 0, .int 0, .int 0, .long 0, .null, .null, .null, .null, .null, .int 0, .int 0])), (q1, .inr (0, [.int 0, .ref z.1, .int 0])), (q4, .inr (0, [.int 0, .ref z.1, .int 0])), (q7, .inr (0, [.int 0, .ref z.1, .int 0]))]) (w1 := [(q10, .inr (0, [.int 0, .ref z.1, .int 0]))]) hP hD [4] [0, 1, 2, 3] rfl rfl (by decide) (by decide) hk1 hFc hP1 hD1
  have hK := hK.app hK1
  generalize H1 = H at hP hS ⊢
  have hP : va_P (dC, dI) pcl [(h0, .inr (14, [.ref q1, .ref q4, .ref q7, .null, .null, .null, .null, .null, .null, .null, .null, .int 0, .int 0, .int 0, .int 0, .int 0, .int 0, .int 0, .int 0, .int 0, .int 0, .int 0, .int 0, .long 0, .null, .null, .null, .null, .null, .int 0, .int 0])), (q1, .inr (0, [.int 0, .ref z.1, .int 0])), (q4, .inr (0, [.int 0, .ref z.1, .int 0])), (q7, .inr (0, [.int 0, .ref z.1, .int 0])), (q10, .inr (0, [.int 0, .ref z.1, .int 0]))] H := hP
  have hD : va_D A [(h0, .inr (14, [.ref q1, .ref q4, .ref q7, .null, .null, .null, .null, .null, .null, .null, .null, .int 0, .int 0, .int 0, .int 0, .int 0, .int 0, .int 0, .int 0, .int 0, .int 0, .int 0, .int 0, .long 0, .null, .null, .null, .null, .null, .int 0, .int 0])), (q1, .inr (0, [.int 0, .ref z.1, .int 0])), (q4, .inr (0, [.int 0, .ref z.1, .int 0])), (q7, .inr (0, [.int 0, .ref z.1, .int 0])), (q10, .inr (0, [.int 0, .ref z.1, .int 0]))] := hD
  have hK : va_K (dC, dI) pcl [] s := hK
  refine va_putF (D := (dC, dI)) (ci := 14) (v := .ref q10) (ty := .object "java/util/ArrayList") (C := RX17) (T := TX17) (N := 31) hx hb hts pinX17 tyX17 tyX17_ok nmX17 hown hK hP hD hS 0 rfl rfl 3 (by decide) (hts _ e192) (fun _ h9 => h9) rfl hin rfl (by decide +kernel) rfl rfl (Nat.le_of_ble_eq_true rfl) dX17_init_45 (fun H locs hP hD hS => ?_)
  have hP : va_P (dC, dI) pcl [(h0, .inr (14, [.ref q1, .ref q4, .ref q7, .ref q10, .null, .null, .null, .null, .null, .null, .null, .int 0, .int 0, .int 0, .int 0, .int 0, .int 0, .int 0, .int 0, .int 0, .int 0, .int 0, .int 0, .long 0, .null, .null, .null, .null, .null, .int 0, .int 0])), (q1, .inr (0, [.int 0, .ref z.1, .int 0])), (q4, .inr (0, [.int 0, .ref z.1, .int 0])), (q7, .inr (0, [.int 0, .ref z.1, .int 0])), (q10, .inr (0, [.int 0, .ref z.1, .int 0]))] H := hP
  have hD : va_D A [(h0, .inr (14, [.ref q1, .ref q4, .ref q7, .ref q10, .null, .null, .null, .null, .null, .null, .null, .int 0, .int 0, .int 0, .int 0, .int 0, .int 0, .int 0, .int 0, .int 0, .int 0, .int 0, .int 0, .long 0, .null, .null, .null, .null, .null, .int 0, .int 0])), (q1, .inr (0, [.int 0, .ref z.1, .int 0])), (q4, .inr (0, [.int 0, .ref z.1, .int 0])), (q7, .inr (0, [.int 0, .ref z.1, .int 0])), (q10, .inr (0, [.int 0, .ref z.1, .int 0]))] := hD
  refine lv_aload_n hx hb dX17_init_48 rfl (lv_at hl 0 rfl) ?_
  refine va_new (ci := 0) (fs := [.int 0, .null, .int 0]) (C := RJx4a65c) (T := TJx4a65c) (N := 3) hx hb hts pinJx4a65c tyJx4a65c tyJx4a65c_ok hown (hts _ e183) (hts _ e184) (hts _ e185) hK hP hD hS hA rfl (fun j hj => by rcases (show j = 0 ∨ j = 1 ∨ j = 2 by omega) with rfl | rfl | rfl <;> rfl) (Nat.le_of_ble_eq_true rfl) (Nat.le_of_ble_eq_true rfl) dX17_init_49 (fun q13 H hP hD hS => ?_)
  have hP : va_P (dC, dI) pcl [(h0, .inr (14, [.ref q1, .ref q4, .ref q7, .ref q10, .null, .null, .null, .null, .null, .null, .null, .int 0, .int 0, .int 0, .int 0, .int 0, .int 0, .int 0, .int 0, .int 0, .int 0, .int 0, .int 0, .long 0, .null, .null, .null, .null, .null, .int 0, .int 0])), (q1, .inr (0, [.int 0, .ref z.1, .int 0])), (q4, .inr (0, [.int 0, .ref z.1, .int 0])), (q7, .inr (0, [.int 0, .ref z.1, .int 0])), (q10, .inr (0, [.int 0, .ref z.1, .int 0])), (q13, .inr (0, [.int 0, .null, .int 0]))] H := hP
  have hD : va_D A [(h0, .inr (14, [.ref q1, .ref q4, .ref q7, .ref q10, .null, .null, .null, .null, .null, .null, .null, .int 0, .int 0, .int 0, .int 0, .int 0, .int 0, .int 0, .int 0, .int 0, .int 0, .int 0, .int 0, .long 0, .null, .null, .null, .null, .null, .int 0, .int 0])), (q1, .inr (0, [.int 0, .ref z.1, .int 0])), (q4, .inr (0, [.int 0, .ref z.1, .int 0])), (q7, .inr (0, [.int 0, .ref z.1, .int 0])), (q10, .inr (0, [.int 0, .ref z.1, .int 0])), (q13, .inr (0, [.int 0, .null, .int 0]))] := hD
  refine W.widen (k := 5) (n := 15) (Nat.le_of_ble_eq_true rfl) (Nat.le_of_ble_eq_true rfl) ?_
  refine lv_dup hx hb dX17_init_52 rfl ?_
  have hPc := hP.sub (ws' := [(q13, .inr (0, [.int 0, .null, .int 0]))]) [5] rfl
  have hDc := hD.sub (ws' := [(q13, .inr (0, [.int 0, .null, .int 0]))]) [5] (by decide) rfl
  have hKc := hK.sub (tys' := []) [] rfl
  have hFc := va_free (wc := [(q13, .inr (0, [.int 0, .null, .int 0]))]) hD hS hA [5] rfl
  refine va_callv (va_runI (As := []) (rest := [.ref q13, .ref h0]) ⟨hx, hb, hml, hown, hts⟩ (c_Jx4a65c_init_da8c8 l dC dI z q13 H.size) (cwI 0 hts (ws_good e188) rfl rfl rfl (hts _ e185) (hts _ e186) (hts _ e187) rfl ⟨by decide +kernel, by decide +kernel, by decide +kernel⟩ ⟨Nat.le_of_ble_eq_true rfl, Nat.le_of_ble_eq_true rfl⟩) ⟨pPre_blind, fun U hU hW => ⟨rfl, pPre_at hPc hKc hDc hE hS hFc U hU hW⟩⟩ rfl rfl hl.1 rfl (lv_room (Nat.le_of_ble_eq_true rfl)) dX17_init_53 ⟨Nat.le_of_ble_eq_true rfl, Nat.le_of_ble_eq_true rfl⟩) hS (fun q _ h => hFc q h) hFc (fun u15 t H1 locs ht hvm hw hB hz1 hk1 hS => ?_)
  obtain ⟨hP1, hK1, hD1⟩ := hB
  rw [ht] at hP1
  have hK1 := va_K.moved hvm.symm hK1
  obtain ⟨hP, hD⟩ := va_join (wr := [(h0, .inr (14, [.ref q1, .ref q4, .ref q7, .ref q10, .null, .null, .null, .null, .null, .null, .null, .int 0, .int 0, .int 0, .int 0, .int 0, .int 0, .int 0, .int 0, .int 0, .int 0, .int 0, .int 0, .long 0, .null, .null, .null, .null, .null, .int 0, .int 0])), (q1, .inr (0, [.int 0, .ref z.1, .int 0])), (q4, .inr (0, [.int 0, .ref z.1, .int 0])), (q7, .inr (0, [.int 0, .ref z.1, .int 0])), (q10, .inr (0, [.int 0, .ref z.1, .int 0]))]) (w1 := [(q13, .inr (0, [.int 0, .ref z.1, .int 0]))]) hP hD [5] [0, 1, 2, 3, 4] rfl rfl (by decide) (by decide) hk1 hFc hP1 hD1
  have hK := hK.app hK1
  generalize H1 = H at hP hS ⊢
  have hP : va_P (dC, dI) pcl [(h0, .inr (14, [.ref q1, .ref q4, .ref q7, .ref q10, .null, .null, .null, .null, .null, .null, .null, .int 0, .int 0, .int 0, .int 0, .int 0, .int 0, .int 0, .int 0, .int 0, .int 0, .int 0, .int 0, .long 0, .null, .null, .null, .null, .null, .int 0, .int 0])), (q1, .inr (0, [.int 0, .ref z.1, .int 0])), (q4, .inr (0, [.int 0, .ref z.1, .int 0])), (q7, .inr (0, [.int 0, .ref z.1, .int 0])), (q10, .inr (0, [.int 0, .ref z.1, .int 0])), (q13, .inr (0, [.int 0, .ref z.1, .int 0]))] H := hP
  have hD : va_D A [(h0, .inr (14, [.ref q1, .ref q4, .ref q7, .ref q10, .null, .null, .null, .null, .null, .null, .null, .int 0, .int 0, .int 0, .int 0, .int 0, .int 0, .int 0, .int 0, .int 0, .int 0, .int 0, .int 0, .long 0, .null, .null, .null, .null, .null, .int 0, .int 0])), (q1, .inr (0, [.int 0, .ref z.1, .int 0])), (q4, .inr (0, [.int 0, .ref z.1, .int 0])), (q7, .inr (0, [.int 0, .ref z.1, .int 0])), (q10, .inr (0, [.int 0, .ref z.1, .int 0])), (q13, .inr (0, [.int 0, .ref z.1, .int 0]))] := hD
  have hK : va_K (dC, dI) pcl [] s := hK
  refine va_putF (D := (dC, dI)) (ci := 14) (v := .ref q13) (ty := .object "java/util/ArrayList") (C := RX17) (T := TX17) (N := 31) hx hb hts pinX17 tyX17 tyX17_ok nmX17 hown hK hP hD hS 0 rfl rfl 4 (by decide) (hts _ e193) (fun _ h9 => h9) rfl hin rfl (by decide +kernel) rfl rfl (Nat.le_of_ble_eq_true rfl) dX17_init_56 (fun H locs hP hD hS => ?_)
  have hP : va_P (dC, dI) pcl [(h0, .inr (14, [.ref q1, .ref q4, .ref q7, .ref q10, .ref q13, .null, .null, .null, .null, .null, .null, .int 0, .int 0, .int 0, .int 0, .int 0, .int 0, .int 0, .int 0, .int 0, .int 0, .int 0, .int 0, .long 0, .null, .null, .null, .null, .null, .int 0, .int 0])), (q1, .inr (0, [.int 0, .ref z.1, .int 0])), (q4, .inr (0, [.int 0, .ref z.1, .int 0])), (q7, .inr (0, [.int 0, .ref z.1, .int 0])), (q10, .inr (0, [.int 0, .ref z.1, .int 0])), (q13, .inr (0, [.int 0, .ref z.1, .int 0]))] H := hP
  have hD : va_D A [(h0, .inr (14, [.ref q1, .ref q4, .ref q7, .ref q10, .ref q13, .null, .null, .null, .null, .null, .null, .int 0, .int 0, .int 0, .int 0, .int 0, .int 0, .int 0, .int 0, .int 0, .int 0, .int 0, .int 0, .long 0, .null, .null, .null, .null, .null, .int 0, .int 0])), (q1, .inr (0, [.int 0, .ref z.1, .int 0])), (q4, .inr (0, [.int 0, .ref z.1, .int 0])), (q7, .inr (0, [.int 0, .ref z.1, .int 0])), (q10, .inr (0, [.int 0, .ref z.1, .int 0])), (q13, .inr (0, [.int 0, .ref z.1, .int 0]))] := hD
  refine lv_aload_n hx hb dX17_init_59 rfl (lv_at hl 0 rfl) ?_
  refine va_new (ci := 0) (fs := [.int 0, .null, .int 0]) (C := RJx4a65c) (T := TJx4a65c) (N := 3) hx hb hts pinJx4a65c tyJx4a65c tyJx4a65c_ok hown (hts _ e183) (hts _ e184) (hts _ e185) hK hP hD hS hA rfl (fun j hj => by rcases (show j = 0 ∨ j = 1 ∨ j = 2 by omega) with rfl | rfl | rfl <;> rfl) (Nat.le_of_ble_eq_true rfl) (Nat.le_of_ble_eq_true rfl) dX17_init_60 (fun q16 H hP hD hS => ?_)
  have hP : va_P (dC, dI) pcl [(h0, .inr (14, [.ref q1, .ref q4, .ref q7, .ref q10, .ref q13, .null, .null, .null, .null, .null, .null, .int 0, .int 0, .int 0, .int 0, .int 0, .int 0, .int 0, .int 0, .int 0, .int 0, .int 0, .int 0, .long 0, .null, .null, .null, .null, .null, .int 0, .int 0])), (q1, .inr (0, [.int 0, .ref z.1, .int 0])), (q4, .inr (0, [.int 0, .ref z.1, .int 0])), (q7, .inr (0, [.int 0, .ref z.1, .int 0])), (q10, .inr (0, [.int 0, .ref z.1, .int 0])), (q13, .inr (0, [.int 0, .ref z.1, .int 0])), (q16, .inr (0, [.int 0, .null, .int 0]))] H := hP
  have hD : va_D A [(h0, .inr (14, [.ref q1, .ref q4, .ref q7, .ref q10, .ref q13, .null, .null, .null, .null, .null, .null, .int 0, .int 0, .int 0, .int 0, .int 0, .int 0, .int 0, .int 0, .int 0, .int 0, .int 0, .int 0, .long 0, .null, .null, .null, .null, .null, .int 0, .int 0])), (q1, .inr (0, [.int 0, .ref z.1, .int 0])), (q4, .inr (0, [.int 0, .ref z.1, .int 0])), (q7, .inr (0, [.int 0, .ref z.1, .int 0])), (q10, .inr (0, [.int 0, .ref z.1, .int 0])), (q13, .inr (0, [.int 0, .ref z.1, .int 0])), (q16, .inr (0, [.int 0, .null, .int 0]))] := hD
  refine W.widen (k := 6) (n := 18) (Nat.le_of_ble_eq_true rfl) (Nat.le_of_ble_eq_true rfl) ?_
  refine lv_dup hx hb dX17_init_63 rfl ?_
  have hPc := hP.sub (ws' := [(q16, .inr (0, [.int 0, .null, .int 0]))]) [6] rfl
  have hDc := hD.sub (ws' := [(q16, .inr (0, [.int 0, .null, .int 0]))]) [6] (by decide) rfl
  have hKc := hK.sub (tys' := []) [] rfl
  have hFc := va_free (wc := [(q16, .inr (0, [.int 0, .null, .int 0]))]) hD hS hA [6] rfl
  refine va_callv (va_runI (As := []) (rest := [.ref q16, .ref h0]) ⟨hx, hb, hml, hown, hts⟩ (c_Jx4a65c_init_da8c8 l dC dI z q16 H.size) (cwI 0 hts (ws_good e188) rfl rfl rfl (hts _ e185) (hts _ e186) (hts _ e187) rfl ⟨by decide +kernel, by decide +kernel, by decide +kernel⟩ ⟨Nat.le_of_ble_eq_true rfl, Nat.le_of_ble_eq_true rfl⟩) ⟨pPre_blind, fun U hU hW => ⟨rfl, pPre_at hPc hKc hDc hE hS hFc U hU hW⟩⟩ rfl rfl hl.1 rfl (lv_room (Nat.le_of_ble_eq_true rfl)) dX17_init_64 ⟨Nat.le_of_ble_eq_true rfl, Nat.le_of_ble_eq_true rfl⟩) hS (fun q _ h => hFc q h) hFc (fun u18 t H1 locs ht hvm hw hB hz1 hk1 hS => ?_)
  obtain ⟨hP1, hK1, hD1⟩ := hB
  rw [ht] at hP1
  have hK1 := va_K.moved hvm.symm hK1
  obtain ⟨hP, hD⟩ := va_join (wr := [(h0, .inr (14, [.ref q1, .ref q4, .ref q7, .ref q10, .ref q13, .null, .null, .null, .null, .null, .null, .int 0, .int 0, .int 0, .int 0, .int 0, .int 0, .int 0, .int 0, .int 0, .int 0, .int 0, .int 0, .long 0, .null, .null, .null, .null, .null, .int 0, .int 0])), (q1, .inr (0, [.int 0, .ref z.1, .int 0])), (q4, .inr (0, [.int 0, .ref z.1, .int 0])), (q7, .inr (0, [.int 0, .ref z.1, .int 0])), (q10, .inr (0, [.int 0, .ref z.1, .int 0])), (q13, .inr (0, [.int 0, .ref z.1, .int 0]))]) (w1 := [(q16, .inr (0, [.int 0, .ref z.1, .int 0]))]) hP hD [6] [0, 1, 2, 3, 4, 5] rfl rfl (by decide) (by decide) hk1 hFc hP1 hD1
  have hK := hK.app hK1
  generalize H1 = H at hP hS ⊢
  have hP : va_P (dC, dI) pcl [(h0, .inr (14, [.ref q1, .ref q4, .ref q7, .ref q10, .ref q13, .null, .null, .null, .null, .null, .null, .int 0, .int 0, .int 0, .int 0, .int 0, .int 0, .int 0, .int 0, .int 0, .int 0, .int 0, .int 0, .long 0, .null, .null, .null, .null, .null, .int 0, .int 0])), (q1, .inr (0, [.int 0, .ref z.1, .int 0])), (q4, .inr (0, [.int 0, .ref z.1, .int 0])), (q7, .inr (0, [.int 0, .ref z.1, .int 0])), (q10, .inr (0, [.int 0, .ref z.1, .int 0])), (q13, .inr (0, [.int 0, .ref z.1, .int 0])), (q16, .inr (0, [.int 0, .ref z.1, .int 0]))] H := hP
  have hD : va_D A [(h0, .inr (14, [.ref q1, .ref q4, .ref q7, .ref q10, .ref q13, .null, .null, .null, .null, .null, .null, .int 0, .int 0, .int 0, .int 0, .int 0, .int 0, .int 0, .int 0, .int 0, .int 0, .int 0, .int 0, .long 0, .null, .null, .null, .null, .null, .int 0, .int 0])), (q1, .inr (0, [.int 0, .ref z.1, .int 0])), (q4, .inr (0, [.int 0, .ref z.1, .int 0])), (q7, .inr (0, [.int 0, .ref z.1, .int 0])), (q10, .inr (0, [.int 0, .ref z.1, .int 0])), (q13, .inr (0, [.int 0, .ref z.1, .int 0])), (q16, .inr (0, [.int 0, .ref z.1, .int 0]))] := hD
  have hK : va_K (dC, dI) pcl [] s := hK
  refine va_putF (D := (dC, dI)) (ci := 14) (v := .ref q16) (ty := .object "java/util/ArrayList") (C := RX17) (T := TX17) (N := 31) hx hb hts pinX17 tyX17 tyX17_ok nmX17 hown hK hP hD hS 0 rfl rfl 5 (by decide) (hts _ e194) (fun _ h9 => h9) rfl hin rfl (by decide +kernel) rfl rfl (Nat.le_of_ble_eq_true rfl) dX17_init_67 (fun H locs hP hD hS => ?_)
  have hP : va_P (dC, dI) pcl [(h0, .inr (14, [.ref q1, .ref q4, .ref q7, .ref q10, .ref q13, .ref q16, .null, .null, .null, .null, .null, .int 0, .int 0, .int 0, .int 0, .int 0, .int 0, .int 0, .int 0, .int 0, .int 0, .int 0, .int 0, .long 0, .null, .null, .null, .null, .null, .int 0, .int 0])), (q1, .inr (0, [.int 0, .ref z.1, .int 0])), (q4, .inr (0, [.int 0, .ref z.1, .int 0])), (q7, .inr (0, [.int 0, .ref z.1, .int 0])), (q10, .inr (0, [.int 0, .ref z.1, .int 0])), (q13, .inr (0, [.int 0, .ref z.1, .int 0])), (q16, .inr (0, [.int 0, .ref z.1, .int 0]))] H := hP
  have hD : va_D A [(h0, .inr (14, [.ref q1, .ref q4, .ref q7, .ref q10, .ref q13, .ref q16, .null, .null, .null, .null, .null, .int 0, .int 0, .int 0, .int 0, .int 0, .int 0, .int 0, .int 0, .int 0, .int 0, .int 0, .int 0, .long 0, .null, .null, .null, .null, .null, .int 0, .int 0])), (q1, .inr (0, [.int 0, .ref z.1, .int 0])), (q4, .inr (0, [.int 0, .ref z.1, .int 0])), (q7, .inr (0, [.int 0, .ref z.1, .int 0])), (q10, .inr (0, [.int 0, .ref z.1, .int 0])), (q13, .inr (0, [.int 0, .ref z.1, .int 0])), (q16, .inr (0, [.int 0, .ref z.1, .int 0]))] := hD
  refine lv_aload_n hx hb dX17_init_70 rfl (lv_at hl 0 rfl) ?_
  refine va_new (ci := 0) (fs := [.int 0, .null, .int 0]) (C := RJx4a65c) (T := TJx4a65c) (N := 3) hx hb hts pinJx4a65c tyJx4a65c tyJx4a65c_ok hown (hts _ e183) (hts _ e184) (hts _ e185) hK hP hD hS hA rfl (fun j hj => by rcases (show j = 0 ∨ j = 1 ∨ j = 2 by omega) with rfl | rfl | rfl <;> rfl) (Nat.le_of_ble_eq_true rfl) (Nat.le_of_ble_eq_true rfl) dX17_init_71 (fun q19 H hP hD hS => ?_)
  have hP : va_P (dC, dI) pcl [(h0, .inr (14, [.ref q1, .ref q4, .ref q7, .ref q10, .ref q13, .ref q16, .null, .null, .null, .null, .null, .int 0, .int 0, .int 0, .int 0, .int 0, .int 0, .int 0, .int 0, .int 0, .int 0, .int 0, .int 0, .long 0, .null, .null, .null, .null, .null, .int 0, .int 0])), (q1, .inr (0, [.int 0, .ref z.1, .int 0])), (q4, .inr (0, [.int 0, .ref z.1, .int 0])), (q7, .inr (0, [.int 0, .ref z.1, .int 0])), (q10, .inr (0, [.int 0, .ref z.1, .int 0])), (q13, .inr (0, [.int 0, .ref z.1, .int 0])), (q16, .inr (0, [.int 0, .ref z.1, .int 0])), (q19, .inr (0, [.int 0, .null, .int 0]))] H := hP
  have hD : va_D A [(h0, .inr (14, [.ref q1, .ref q4, .ref q7, .ref q10, .ref q13, .ref q16, .null, .null, .null, .null, .null, .int 0, .int 0, .int 0, .int 0, .int 0, .int 0, .int 0, .int 0, .int 0, .int 0, .int 0, .int 0, .long 0, .null, .null, .null, .null, .null, .int 0, .int 0])), (q1, .inr (0, [.int 0, .ref z.1, .int 0])), (q4, .inr (0, [.int 0, .ref z.1, .int 0])), (q7, .inr (0, [.int 0, .ref z.1, .int 0])), (q10, .inr (0, [.int 0, .ref z.1, .int 0])), (q13, .inr (0, [.int 0, .ref z.1, .int 0])), (q16, .inr (0, [.int 0, .ref z.1, .int 0])), (q19, .inr (0, [.int 0, .null, .int 0]))] := hD
  refine W.widen (k := 7) (n := 21) (Nat.le_of_ble_eq_true rfl) (Nat.le_of_ble_eq_true rfl) ?_
  refine lv_dup hx hb dX17_init_74 rfl ?_
  have hPc := hP.sub (ws' := [(q19, .inr (0, [.int 0, .null, .int 0]))]) [7] rfl
  have hDc := hD.sub (ws' := [(q19, .inr (0, [.int 0, .null, .int 0]))]) [7] (by decide) rfl
  have hKc := hK.sub (tys' := []) [] rfl
  have hFc := va_free (wc := [(q19, .inr (0, [.int 0, .null, .int 0]))]) hD hS hA [7] rfl
  refine va_callv (va_runI (As := []) (rest := [.ref q19, .ref h0]) ⟨hx, hb, hml, hown, hts⟩ (c_Jx4a65c_init_da8c8 l dC dI z q19 H.size) (cwI 0 hts (ws_good e188) rfl rfl rfl (hts _ e185) (hts _ e186) (hts _ e187) rfl ⟨by decide +kernel, by decide +kernel, by decide +kernel⟩ ⟨Nat.le_of_ble_eq_true rfl, Nat.le_of_ble_eq_true rfl⟩) ⟨pPre_blind, fun U hU hW => ⟨rfl, pPre_at hPc hKc hDc hE hS hFc U hU hW⟩⟩ rfl rfl hl.1 rfl (lv_room (Nat.le_of_ble_eq_true rfl)) dX17_init_75 ⟨Nat.le_of_ble_eq_true rfl, Nat.le_of_ble_eq_true rfl⟩) hS (fun q _ h => hFc q h) hFc (fun u21 t H1 locs ht hvm hw hB hz1 hk1 hS => ?_)
  obtain ⟨hP1, hK1, hD1⟩ := hB
  rw [ht] at hP1
  have hK1 := va_K.moved hvm.symm hK1
  obtain ⟨hP, hD⟩ := va_join (wr := [(h0, .inr (14, [.ref q1, .ref q4, .ref q7, .ref q10, .ref q13, .ref q16, .null, .null, .null, .null, .null, .int 0, .int 0, .int 0, .int 0, .int 0, .int 0, .int 0, .int 0, .int 0, .int 0, .int 0, .int 0, .long 0, .null, .null, .null, .null, .null, .int 0, .int 0])), (q1, .inr (0, [.int 0, .ref z.1, .int 0])), (q4, .inr (0, [.int 0, .ref z.1, .int 0])), (q7, .inr (0, [.int 0, .ref z.1, .int 0])), (q10, .inr (0, [.int 0, .ref z.1, .int 0])), (q13, .inr (0, [.int 0, .ref z.1, .int 0])), (q16, .inr (0, [.int 0, .ref z.1, .int 0]))]) (w1 := [(q19, .inr (0, [.int 0, .ref z.1, .int 0]))]) hP hD [7] [0, 1, 2, 3, 4, 5, 6] rfl rfl (by decide) (by decide) hk1 hFc hP1 hD1
  have hK := hK.app hK1
  generalize H1 = H at hP hS ⊢
  have hP : va_P (dC, dI) pcl [(h0, .inr (14, [.ref q1, .ref q4, .ref q7, .ref q10, .ref q13, .ref q16, .null, .null, .null, .null, .null, .int 0, .int 0, .int 0, .int 0, .int 0, .int 0, .int 0, .int 0, .int 0, .int 0, .int 0, .int 0, .long 0, .null, .null, .null, .null, .null, .int 0, .int 0])), (q1, .inr (0, [.int 0, .ref z.1, .int 0])), (q4, .inr (0, [.int 0, .ref z.1, .int 0])), (q7, .inr (0, [.int 0, .ref z.1, .int 0])), (q10, .inr (0, [.int 0, .ref z.1, .int 0])), (q13, .inr (0, [.int 0, .ref z.1, .int 0])), (q16, .inr (0, [.int 0, .ref z.1, .int 0])), (q19, .inr (0, [.int 0, .ref z.1, .int 0]))] H := hP
  have hD : va_D A [(h0, .inr (14, [.ref q1, .ref q4, .ref q7, .ref q10, .ref q13, .ref q16, .null, .null, .null, .null, .null, .int 0, .int 0, .int 0, .int 0, .int 0, .int 0, .int 0, .int 0, .int 0, .int 0, .int 0, .int 0, .long 0, .null, .null, .null, .null, .null, .int 0, .int 0])), (q1, .inr (0, [.int 0, .ref z.1, .int 0])), (q4, .inr (0, [.int 0, .ref z.1, .int 0])), (q7, .inr (0, [.int 0, .ref z.1, .int 0])), (q10, .inr (0, [.int 0, .ref z.1, .int 0])), (q13, .inr (0, [.int 0, .ref z.1, .int 0])), (q16, .inr (0, [.int 0, .ref z.1, .int 0])), (q19, .inr (0, [.int 0, .ref z.1, .int 0]))] := hD
  have hK : va_K (dC, dI) pcl [] s := hK
  refine va_putF (D := (dC, dI)) (ci := 14) (v := .ref q19) (ty := .object "java/util/ArrayList") (C := RX17) (T := TX17) (N := 31) hx hb hts pinX17 tyX17 tyX17_ok nmX17 hown hK hP hD hS 0 rfl rfl 6 (by decide) (hts _ e195) (fun _ h9 => h9) rfl hin rfl (by decide +kernel) rfl rfl (Nat.le_of_ble_eq_true rfl) dX17_init_78 (fun H locs hP hD hS => ?_)
  have hP : va_P (dC, dI) pcl [(h0, .inr (14, [.ref q1, .ref q4, .ref q7, .ref q10, .ref q13, .ref q16, .ref q19, .null, .null, .null, .null, .int 0, .int 0, .int 0, .int 0, .int 0, .int 0, .int 0, .int 0, .int 0, .int 0, .int 0, .int 0, .long 0, .null, .null, .null, .null, .null, .int 0, .int 0])), (q1, .inr (0, [.int 0, .ref z.1, .int 0])), (q4, .inr (0, [.int 0, .ref z.1, .int 0])), (q7, .inr (0, [.int 0, .ref z.1, .int 0])), (q10, .inr (0, [.int 0, .ref z.1, .int 0])), (q13, .inr (0, [.int 0, .ref z.1, .int 0])), (q16, .inr (0, [.int 0, .ref z.1, .int 0])), (q19, .inr (0, [.int 0, .ref z.1, .int 0]))] H := hP
  have hD : va_D A [(h0, .inr (14, [.ref q1, .ref q4, .ref q7, .ref q10, .ref q13, .ref q16, .ref q19, .null, .null, .null, .null, .int 0, .int 0, .int 0, .int 0, .int 0, .int 0, .int 0, .int 0, .int 0, .int 0, .int 0, .int 0, .long 0, .null, .null, .null, .null, .null, .int 0, .int 0])), (q1, .inr (0, [.int 0, .ref z.1, .int 0])), (q4, .inr (0, [.int 0, .ref z.1, .int 0])), (q7, .inr (0, [.int 0, .ref z.1, .int 0])), (q10, .inr (0, [.int 0, .ref z.1, .int 0])), (q13, .inr (0, [.int 0, .ref z.1, .int 0])), (q16, .inr (0, [.int 0, .ref z.1, .int 0])), (q19, .inr (0, [.int 0, .ref z.1, .int 0]))] := hD
  refine lv_aload_n hx hb dX17_init_81 rfl (lv_at hl 0 rfl) ?_
  refine va_new (ci := 0) (fs := [.int 0, .null, .int 0]) (C := RJx4a65c) (T := TJx4a65c) (N := 3) hx hb hts pinJx4a65c tyJx4a65c tyJx4a65c_ok hown (hts _ e183) (hts _ e184) (hts _ e185) hK hP hD hS hA rfl (fun j hj => by rcases (show j = 0 ∨ j = 1 ∨ j = 2 by omega) with rfl | rfl | rfl <;> rfl) (Nat.le_of_ble_eq_true rfl) (Nat.le_of_ble_eq_true rfl) dX17_init_82 (fun q22 H hP hD hS => ?_)
  have hP : va_P (dC, dI) pcl [(h0, .inr (14, [.ref q1, .ref q4, .ref q7, .ref q10, .ref q13, .ref q16, .ref q19, .null, .null, .null, .null, .int 0, .int 0, .int 0, .int 0, .int 0, .int 0, .int 0, .int 0, .int 0, .int 0, .int 0, .int 0, .long 0, .null, .null, .null, .null, .null, .int 0, .int 0])), (q1, .inr (0, [.int 0, .ref z.1, .int 0])), (q4, .inr (0, [.int 0, .ref z.1, .int 0])), (q7, .inr (0, [.int 0, .ref z.1, .int 0])), (q10, .inr (0, [.int 0, .ref z.1, .int 0])), (q13, .inr (0, [.int 0, .ref z.1, .int 0])), (q16, .inr (0, [.int 0, .ref z.1, .int 0])), (q19, .inr (0, [.int 0, .ref z.1, .int 0])), (q22, .inr (0, [.int 0, .null, .int 0]))] H := hP
  have hD : va_D A [(h0, .inr (14, [.ref q1, .ref q4, .ref q7, .ref q10, .ref q13, .ref q16, .ref q19, .null, .null, .null, .null, .int 0, .int 0, .int 0, .int 0, .int 0, .int 0, .int 0, .int 0, .int 0, .int 0, .int 0, .int 0, .long 0, .null, .null, .null, .null, .null, .int 0, .int 0])), (q1, .inr (0, [.int 0, .ref z.1, .int 0])), (q4, .inr (0, [.int 0, .ref z.1, .int 0])), (q7, .inr (0, [.int 0, .ref z.1, .int 0])), (q10, .inr (0, [.int 0, .ref z.1, .int 0])), (q13, .inr (0, [.int 0, .ref z.1, .int 0])), (q16, .inr (0, [.int 0, .ref z.1, .int 0])), (q19, .inr (0, [.int 0, .ref z.1, .int 0])), (q22, .inr (0, [.int 0, .null, .int 0]))] := hD
  refine W.widen (k := 8) (n := 24) (Nat.le_of_ble_eq_true rfl) (Nat.le_of_ble_eq_true rfl) ?_
  refine lv_dup hx hb dX17_init_85 rfl ?_
  have hPc := hP.sub (ws' := [(q22, .inr (0, [.int 0, .null, .int 0]))]) [8] rfl
  have hDc := hD.sub (ws' := [(q22, .inr (0, [.int 0, .null, .int 0]))]) [8] (by decide) rfl
  have hKc := hK.sub (tys' := []) [] rfl
  have hFc := va_free (wc := [(q22, .inr (0, [.int 0, .null, .int 0]))]) hD hS hA [8] rfl
  refine va_callv (va_runI (As := []) (rest := [.ref q22, .ref h0]) ⟨hx, hb, hml, hown, hts⟩ (c_Jx4a65c_init_da8c8 l dC dI z q22 H.size) (cwI 0 hts (ws_good e188) rfl rfl rfl (hts _ e185) (hts _ e186) (hts _ e187) rfl ⟨by decide +kernel, by decide +kernel, by decide +kernel⟩ ⟨Nat.le_of_ble_eq_true rfl, Nat.le_of_ble_eq_true rfl⟩) ⟨pPre_blind, fun U hU hW => ⟨rfl, pPre_at hPc hKc hDc hE hS hFc U hU hW⟩⟩ rfl rfl hl.1 rfl (lv_room (Nat.le_of_ble_eq_true rfl)) dX17_init_86 ⟨Nat.le_of_ble_eq_true rfl, Nat.le_of_ble_eq_true rfl⟩) hS (fun q _ h => hFc q h) hFc (fun u24 t H1 locs ht hvm hw hB hz1 hk1 hS => ?_)
  obtain ⟨hP1, hK1, hD1⟩ := hB
  rw [ht] at hP1
  have hK1 := va_K.moved hvm.symm hK1
  obtain ⟨hP, hD⟩ := va_join (wr := [(h0, .inr (14, [.ref q1, .ref q4, .ref q7, .ref q10, .ref q13, .ref q16, .ref q19, .null, .null, .null, .null, .int 0, .int 0, .int 0, .int 0, .int 0, .int 0, .int 0, .int 0, .int 0, .int 0, .int 0, .int 0, .long 0, .null, .null, .null, .null, .null, .int 0, .int 0])), (q1, .inr (0, [.int 0, .ref z.1, .int 0])), (q4, .inr (0, [.int 0, .ref z.1, .int 0])), (q7, .inr (0, [.int 0, .ref z.1, .int 0])), (q10, .inr (0, [.int 0, .ref z.1, .int 0])), (q13, .inr (0, [.int 0, .ref z.1, .int 0])), (q16, .inr (0, [.int 0, .ref z.1, .int 0])), (q19, .inr (0, [.int 0, .ref z.1, .int 0]))]) (w1 := [(q22, .inr (0, [.int 0, .ref z.1, .int 0]))]) hP hD [8] [0, 1, 2, 3, 4, 5, 6, 7] rfl rfl (by decide) (by decide) hk1 hFc hP1 hD1
  have hK := hK.app hK1
  generalize H1 = H at hP hS ⊢
  have hP : va_P (dC, dI) pcl [(h0, .inr (14, [.ref q1, .ref q4, .ref q7, .ref q10, .ref q13, .ref q16, .ref q19, .null, .null, .null, .null, .int 0, .int 0, .int 0, .int 0, .int 0, .int 0, .int 0, .int 0, .int 0, .int 0, .int 0, .int 0, .long 0, .null, .null, .null, .null, .null, .int 0, .int 0])), (q1, .inr (0, [.int 0, .ref z.1, .int 0])), (q4, .inr (0, [.int 0, .ref z.1, .int 0])), (q7, .inr (0, [.int 0, .ref z.1, .int 0])), (q10, .inr (0, [.int 0, .ref z.1, .int 0])), (q13, .inr (0, [.int 0, .ref z.1, .int 0])), (q16, .inr (0, [.int 0, .ref z.1, .int 0])), (q19, .inr (0, [.int 0, .ref z.1, .int 0])), (q22, .inr (0, [.int 0, .ref z.1, .int 0]))] H := hP
  have hD : va_D A [(h0, .inr (14, [.ref q1, .ref q4, .ref q7, .ref q10, .ref q13, .ref q16, .ref q19, .null, .null, .null, .null, .int 0, .int 0, .int 0, .int 0, .int 0, .int 0, .int 0, .int 0, .int 0, .int 0, .int 0, .int 0, .long 0, .null, .null, .null, .null, .null, .int 0, .int 0])), (q1, .inr (0, [.int 0, .ref z.1, .int 0])), (q4, .inr (0, [.int 0, .ref z.1, .int 0])), (q7, .inr (0, [.int 0, .ref z.1, .int 0])), (q10, .inr (0, [.int 0, .ref z.1, .int 0])), (q13, .inr (0, [.int 0, .ref z.1, .int 0])), (q16, .inr (0, [.int 0, .ref z.1, .int 0])), (q19, .inr (0, [.int 0, .ref z.1, .int 0])), (q22, .inr (0, [.int 0, .ref z.1, .int 0]))] := hD
  have hK : va_K (dC, dI) pcl [] s := hK
  refine va_putF (D := (dC, dI)) (ci := 14) (v := .ref q22) (ty := .object "java/util/ArrayList") (C := RX17) (T := TX17) (N := 31) hx hb hts pinX17 tyX17 tyX17_ok nmX17 hown hK hP hD hS 0 rfl rfl 7 (by decide) (hts _ e196) (fun _ h9 => h9) rfl hin rfl (by decide +kernel) rfl rfl (Nat.le_of_ble_eq_true rfl) dX17_init_89 (fun H locs hP hD hS => ?_)
  have hP : va_P (dC, dI) pcl [(h0, .inr (14, [.ref q1, .ref q4, .ref q7, .ref q10, .ref q13, .ref q16, .ref q19, .ref q22, .null, .null, .null, .int 0, .int 0, .int 0, .int 0, .int 0, .int 0, .int 0, .int 0, .int 0, .int 0, .int 0, .int 0, .long 0, .null, .null, .null, .null, .null, .int 0, .int 0])), (q1, .inr (0, [.int 0, .ref z.1, .int 0])), (q4, .inr (0, [.int 0, .ref z.1, .int 0])), (q7, .inr (0, [.int 0, .ref z.1, .int 0])), (q10, .inr (0, [.int 0, .ref z.1, .int 0])), (q13, .inr (0, [.int 0, .ref z.1, .int 0])), (q16, .inr (0, [.int 0, .ref z.1, .int 0])), (q19, .inr (0, [.int 0, .ref z.1, .int 0])), (q22, .inr (0, [.int 0, .ref z.1, .int 0]))] H := hP
  have hD : va_D A [(h0, .inr (14, [.ref q1, .ref q4, .ref q7, .ref q10, .ref q13, .ref q16, .ref q19, .ref q22, .null, .null, .null, .int 0, .int 0, .int 0, .int 0, .int 0, .int 0, .int 0, .int 0, .int 0, .int 0, .int 0, .int 0, .long 0, .null, .null, .null, .null, .null, .int 0, .int 0])), (q1, .inr (0, [.int 0, .ref z.1, .int 0])), (q4, .inr (0, [.int 0, .ref z.1, .int 0])), (q7, .inr (0, [.int 0, .ref z.1, .int 0])), (q10, .inr (0, [.int 0, .ref z.1, .int 0])), (q13, .inr (0, [.int 0, .ref z.1, .int 0])), (q16, .inr (0, [.int 0, .ref z.1, .int 0])), (q19, .inr (0, [.int 0, .ref z.1, .int 0])), (q22, .inr (0, [.int 0, .ref z.1, .int 0]))] := hD
  refine lv_aload_n hx hb dX17_init_92 rfl (lv_at hl 0 rfl) ?_
  refine va_new (ci := 0) (fs := [.int 0, .null, .int 0]) (C := RJx4a65c) (T := TJx4a65c) (N := 3) hx hb hts pinJx4a65c tyJx4a65c tyJx4a65c_ok hown (hts _ e183) (hts _ e184) (hts _ e185) hK hP hD hS hA rfl (fun j hj => by rcases (show j = 0 ∨ j = 1 ∨ j = 2 by omega) with rfl | rfl | rfl <;> rfl) (Nat.le_of_ble_eq_true rfl) (Nat.le_of_ble_eq_true rfl) dX17_init_93 (fun q25 H hP hD hS => ?_)
  have hP : va_P (dC, dI) pcl [(h0, .inr (14, [.ref q1, .ref q4, .ref q7, .ref q10, .ref q13, .ref q16, .ref q19, .ref q22, .null, .null, .null, .int 0, .int 0, .int 0, .int 0, .int 0, .int 0, .int 0, .int 0, .int 0, .int 0, .int 0, .int 0, .long 0, .null, .null, .null, .null, .null, .int 0, .int 0])), (q1, .inr (0, [.int 0, .ref z.1, .int 0])), (q4, .inr (0, [.int 0, .ref z.1, .int 0])), (q7, .inr (0, [.int 0, .ref z.1, .int 0])), (q10, .inr (0, [.int 0, .ref z.1, .int 0])), (q13, .inr (0, [.int 0, .ref z.1, .int 0])), (q16, .inr (0, [.int 0, .ref z.1, .int 0])), (q19, .inr (0, [.int 0, .ref z.1, .int 0])), (q22, .inr (0, [.int 0, .ref z.1, .int 0])), (q25, .inr (0, [.int 0, .null, .int 0]))] H := hP
  have hD : va_D A [(h0, .inr (14, [.ref q1, .ref q4, .ref q7, .ref q10, .ref q13, .ref q16, .ref q19, .ref q22, .null, .null, .null, .int 0, .int 0, .int 0, .int 0, .int 0, .int 0, .int 0, .int 0, .int 0, .int 0, .int 0, .int 0, .long 0, .null, .null, .null, .null, .null, .int 0, .int 0])), (q1, .inr (0, [.int 0, .ref z.1, .int 0])), (q4, .inr (0, [.int 0, .ref z.1, .int 0])), (q7, .inr (0, [.int 0, .ref z.1, .int 0])), (q10, .inr (0, [.int 0, .ref z.1, .int 0])), (q13, .inr (0, [.int 0, .ref z.1, .int 0])), (q16, .inr (0, [.int 0, .ref z.1, .int 0])), (q19, .inr (0, [.int 0, .ref z.1, .int 0])), (q22, .inr (0, [.int 0, .ref z.1, .int 0])), (q25, .inr (0, [.int 0, .null, .int 0]))] := hD
  refine W.widen (k := 9) (n := 27) (Nat.le_of_ble_eq_true rfl) (Nat.le_of_ble_eq_true rfl) ?_
  refine lv_dup hx hb dX17_init_96 rfl ?_
  have hPc := hP.sub (ws' := [(q25, .inr (0, [.int 0, .null, .int 0]))]) [9] rfl
  have hDc := hD.sub (ws' := [(q25, .inr (0, [.int 0, .null, .int 0]))]) [9] (by decide) rfl
  have hKc := hK.sub (tys' := []) [] rfl
  have hFc := va_free (wc := [(q25, .inr (0, [.int 0, .null, .int 0]))]) hD hS hA [9] rfl
  refine va_callv (va_runI (As := []) (rest := [.ref q25, .ref h0]) ⟨hx, hb, hml, hown, hts⟩ (c_Jx4a65c_init_da8c8 l dC dI z q25 H.size) (cwI 0 hts (ws_good e188) rfl rfl rfl (hts _ e185) (hts _ e186) (hts _ e187) rfl ⟨by decide +kernel, by decide +kernel, by decide +kernel⟩ ⟨Nat.le_of_ble_eq_true rfl, Nat.le_of_ble_eq_true rfl⟩) ⟨pPre_blind, fun U hU hW => ⟨rfl, pPre_at hPc hKc hDc hE hS hFc U hU hW⟩⟩ rfl rfl hl.1 rfl (lv_room (Nat.le_of_ble_eq_true rfl)) dX17_init_97 ⟨Nat.le_of_ble_eq_true rfl, Nat.le_of_ble_eq_true rfl⟩) hS (fun q _ h => hFc q h) hFc (fun u27 t H1 locs ht hvm hw hB hz1 hk1 hS => ?_)
  obtain ⟨hP1, hK1, hD1⟩ := hB
  rw [ht] at hP1
  have hK1 := va_K.moved hvm.symm hK1
  obtain ⟨hP, hD⟩ := va_join (wr := [(h0, .inr (14, [.ref q1, .ref q4, .ref q7, .ref q10, .ref q13, .ref q16, .ref q19, .ref q22, .null, .null, .null, .int 0, .int 0, .int 0, .int 0, .int 0, .int 0, .int 0, .int 0, .int 0, .int 0, .int 0, .int 0, .long 0, .null, .null, .null, .null, .null, .int 0, .int 0])), (q1, .inr (0, [.int 0, .ref z.1, .int 0])), (q4, .inr (0, [.int 0, .ref z.1, .int 0])), (q7, .inr (0, [.int 0, .ref z.1, .int 0])), (q10, .inr (0, [.int 0, .ref z.1, .int 0])), (q13, .inr (0, [.int 0, .ref z.1, .int 0])), (q16, .inr (0, [.int 0, .ref z.1, .int 0])), (q19, .inr (0, [.int 0, .ref z.1, .int 0])), (q22, .inr (0, [.int 0, .ref z.1, .int 0]))]) (w1 := [(q25, .inr (0, [.int 0, .ref z.1, .int 0]))]) hP hD [9] [0, 1, 2, 3, 4, 5, 6, 7, 8] rfl rfl (by decide) (by decide) hk1 hFc hP1 hD1
  have hK := hK.app hK1
  generalize H1 = H at hP hS ⊢
  have hP : va_P (dC, dI) pcl [(h0, .inr (14, [.ref q1, .ref q4, .ref q7, .ref q10, .ref q13, .ref q16, .ref q19, .ref q22, .null, .null, .null, .int 0, .int 0, .int 0, .int 0, .int 0, .int 0, .int 0, .int 0, .int 0, .int 0, .int 0, .int 0, .long 0, .null, .null, .null, .null, .null, .int 0, .int 0])), (q1, .inr (0, [.int 0, .ref z.1, .int 0])), (q4, .inr (0, [.int 0, .ref z.1, .int 0])), (q7, .inr (0, [.int 0, .ref z.1, .int 0])), (q10, .inr (0, [.int 0, .ref z.1, .int 0])), (q13, .inr (0, [.int 0, .ref z.1, .int 0])), (q16, .inr (0, [.int 0, .ref z.1, .int 0])), (q19, .inr (0, [.int 0, .ref z.1, .int 0])), (q22, .inr (0, [.int 0, .ref z.1, .int 0])), (q25, .inr (0, [.int 0, .ref z.1, .int 0]))] H := hP
  have hD : va_D A [(h0, .inr (14, [.ref q1, .ref q4, .ref q7, .ref q10, .ref q13, .ref q16, .ref q19, .ref q22, .null, .null, .null, .int 0, .int 0, .int 0, .int 0, .int 0, .int 0, .int 0, .int 0, .int 0, .int 0, .int 0, .int 0, .long 0, .null, .null, .null, .null, .null, .int 0, .int 0])), (q1, .inr (0, [.int 0, .ref z.1, .int 0])), (q4, .inr (0, [.int 0, .ref z.1, .int 0])), (q7, .inr (0, [.int 0, .ref z.1, .int 0])), (q10, .inr (0, [.int 0, .ref z.1, .int 0])), (q13, .inr (0, [.int 0, .ref z.1, .int 0])), (q16, .inr (0, [.int 0, .ref z.1, .int 0])), (q19, .inr (0, [.int 0, .ref z.1, .int 0])), (q22, .inr (0, [.int 0, .ref z.1, .int 0])), (q25, .inr (0, [.int 0, .ref z.1, .int 0]))] := hD
  have hK : va_K (dC, dI) pcl [] s := hK
  refine va_putF (D := (dC, dI)) (ci := 14) (v := .ref q25) (ty := .object "java/util/ArrayList") (C := RX17) (T := TX17) (N := 31) hx hb hts pinX17 tyX17 tyX17_ok nmX17 hown hK hP hD hS 0 rfl rfl 8 (by decide) (hts _ e197) (fun _ h9 => h9) rfl hin rfl (by decide +kernel) rfl rfl (Nat.le_of_ble_eq_true rfl) dX17_init_100 (fun H locs hP hD hS => ?_)
  have hP : va_P (dC, dI) pcl [(h0, .inr (14, [.ref q1, .ref q4, .ref q7, .ref q10, .ref q13, .ref q16, .ref q19, .ref q22, .ref q25, .null, .null, .int 0, .int 0, .int 0, .int 0, .int 0, .int 0, .int 0, .int 0, .int 0, .int 0, .int 0, .int 0, .long 0, .null, .null, .null, .null, .null, .int 0, .int 0])), (q1, .inr (0, [.int 0, .ref z.1, .int 0])), (q4, .inr (0, [.int 0, .ref z.1, .int 0])), (q7, .inr (0, [.int 0, .ref z.1, .int 0])), (q10, .inr (0, [.int 0, .ref z.1, .int 0])), (q13, .inr (0, [.int 0, .ref z.1, .int 0])), (q16, .inr (0, [.int 0, .ref z.1, .int 0])), (q19, .inr (0, [.int 0, .ref z.1, .int 0])), (q22, .inr (0, [.int 0, .ref z.1, .int 0])), (q25, .inr (0, [.int 0, .ref z.1, .int 0]))] H := hP
  have hD : va_D A [(h0, .inr (14, [.ref q1, .ref q4, .ref q7, .ref q10, .ref q13, .ref q16, .ref q19, .ref q22, .ref q25, .null, .null, .int 0, .int 0, .int 0, .int 0, .int 0, .int 0, .int 0, .int 0, .int 0, .int 0, .int 0, .int 0, .long 0, .null, .null, .null, .null, .null, .int 0, .int 0])), (q1, .inr (0, [.int 0, .ref z.1, .int 0])), (q4, .inr (0, [.int 0, .ref z.1, .int 0])), (q7, .inr (0, [.int 0, .ref z.1, .int 0])), (q10, .inr (0, [.int 0, .ref z.1, .int 0])), (q13, .inr (0, [.int 0, .ref z.1, .int 0])), (q16, .inr (0, [.int 0, .ref z.1, .int 0])), (q19, .inr (0, [.int 0, .ref z.1, .int 0])), (q22, .inr (0, [.int 0, .ref z.1, .int 0])), (q25, .inr (0, [.int 0, .ref z.1, .int 0]))] := hD
  refine lv_aload_n hx hb dX17_init_103 rfl (lv_at hl 0 rfl) ?_
  refine lv_bipush (v := 100) hx hb dX17_init_104 (by decide) ?_
  refine va_newa (atype := .int) (N' := 100) (a0 := (100, .inl (fun _ => 0))) hx hb (hts _ e3) rfl hK hP hD hS hA (fun _ => rfl) (by decide) (by decide) (Nat.le_of_ble_eq_true rfl) (Nat.le_of_ble_eq_true rfl) (Nat.le_of_ble_eq_true rfl) dX17_init_106 (fun q28 cA29 H hK hP hD hS => ?_)
  have hP : va_P (dC, dI) pcl [(h0, .inr (14, [.ref q1, .ref q4, .ref q7, .ref q10, .ref q13, .ref q16, .ref q19, .ref q22, .ref q25, .null, .null, .int 0, .int 0, .int 0, .int 0, .int 0, .int 0, .int 0, .int 0, .int 0, .int 0, .int 0, .int 0, .long 0, .null, .null, .null, .null, .null, .int 0, .int 0])), (q1, .inr (0, [.int 0, .ref z.1, .int 0])), (q4, .inr (0, [.int 0, .ref z.1, .int 0])), (q7, .inr (0, [.int 0, .ref z.1, .int 0])), (q10, .inr (0, [.int 0, .ref z.1, .int 0])), (q13, .inr (0, [.int 0, .ref z.1, .int 0])), (q16, .inr (0, [.int 0, .ref z.1, .int 0])), (q19, .inr (0, [.int 0, .ref z.1, .int 0])), (q22, .inr (0, [.int 0, .ref z.1, .int 0])), (q25, .inr (0, [.int 0, .ref z.1, .int 0])), (q28, .inl (cA29, 100, .inl (fun _ => 0)))] H := hP
  have hD : va_D A [(h0, .inr (14, [.ref q1, .ref q4, .ref q7, .ref q10, .ref q13, .ref q16, .ref q19, .ref q22, .ref q25, .null, .null, .int 0, .int 0, .int 0, .int 0, .int 0, .int 0, .int 0, .int 0, .int 0, .int 0, .int 0, .int 0, .long 0, .null, .null, .null, .null, .null, .int 0, .int 0])), (q1, .inr (0, [.int 0, .ref z.1, .int 0])), (q4, .inr (0, [.int 0, .ref z.1, .int 0])), (q7, .inr (0, [.int 0, .ref z.1, .int 0])), (q10, .inr (0, [.int 0, .ref z.1, .int 0])), (q13, .inr (0, [.int 0, .ref z.1, .int 0])), (q16, .inr (0, [.int 0, .ref z.1, .int 0])), (q19, .inr (0, [.int 0, .ref z.1, .int 0])), (q22, .inr (0, [.int 0, .ref z.1, .int 0])), (q25, .inr (0, [.int 0, .ref z.1, .int 0])), (q28, .inl (cA29, 100, .inl (fun _ => 0)))] := hD
  have hK : va_K (dC, dI) pcl [(cA29, .int)] s := hK
  refine W.widen (k := 10) (n := 127) (Nat.le_of_ble_eq_true rfl) (Nat.le_of_ble_eq_true rfl) ?_
  refine va_putF (D := (dC, dI)) (ci := 14) (v := .ref q28) (ty := .array .int) (C := RX17) (T := TX17) (N := 31) hx hb hts pinX17 tyX17 tyX17_ok nmX17 hown hK hP hD hS 0 rfl rfl 9 (by decide) (hts _ e198) (fun _ h9 => h9) rfl hin rfl (by decide +kernel) rfl rfl (Nat.le_of_ble_eq_true rfl) dX17_init_108 (fun H locs hP hD hS => ?_)
  have hP : va_P (dC, dI) pcl [(h0, .inr (14, [.ref q1, .ref q4, .ref q7, .ref q10, .ref q13, .ref q16, .ref q19, .ref q22, .ref q25, .ref q28, .null, .int 0, .int 0, .int 0, .int 0, .int 0, .int 0, .int 0, .int 0, .int 0, .int 0, .int 0, .int 0, .long 0, .null, .null, .null, .null, .null, .int 0, .int 0])), (q1, .inr (0, [.int 0, .ref z.1, .int 0])), (q4, .inr (0, [.int 0, .ref z.1, .int 0])), (q7, .inr (0, [.int 0, .ref z.1, .int 0])), (q10, .inr (0, [.int 0, .ref z.1, .int 0])), (q13, .inr (0, [.int 0, .ref z.1, .int 0])), (q16, .inr (0, [.int 0, .ref z.1, .int 0])), (q19, .inr (0, [.int 0, .ref z.1, .int 0])), (q22, .inr (0, [.int 0, .ref z.1, .int 0])), (q25, .inr (0, [.int 0, .ref z.1, .int 0])), (q28, .inl (cA29, 100, .inl (fun _ => 0)))] H := hP
  have hD : va_D A [(h0, .inr (14, [.ref q1, .ref q4, .ref q7, .ref q10, .ref q13, .ref q16, .ref q19, .ref q22, .ref q25, .ref q28, .null, .int 0, .int 0, .int 0, .int 0, .int 0, .int 0, .int 0, .int 0, .int 0, .int 0, .int 0, .int 0, .long 0, .null, .null, .null, .null, .null, .int 0, .int 0])), (q1, .inr (0, [.int 0, .ref z.1, .int 0])), (q4, .inr (0, [.int 0, .ref z.1, .int 0])), (q7, .inr (0, [.int 0, .ref z.1, .int 0])), (q10, .inr (0, [.int 0, .ref z.1, .int 0])), (q13, .inr (0, [.int 0, .ref z.1, .int 0])), (q16, .inr (0, [.int 0, .ref z.1, .int 0])), (q19, .inr (0, [.int 0, .ref z.1, .int 0])), (q22, .inr (0, [.int 0, .ref z.1, .int 0])), (q25, .inr (0, [.int 0, .ref z.1, .int 0])), (q28, .inl (cA29, 100, .inl (fun _ => 0)))] := hD
  refine lv_aload_n hx hb dX17_init_111 rfl (lv_at hl 0 rfl) ?_
  refine lv_bipush (v := 30) hx hb dX17_init_112 (by decide) ?_
  refine va_newa (atype := .int) (N' := 30) (a0 := (30, .inl (fun _ => 0))) hx hb (hts _ e3) rfl hK hP hD hS hA (fun _ => rfl) (by decide) (by decide) (Nat.le_of_ble_eq_true rfl) (Nat.le_of_ble_eq_true rfl) (Nat.le_of_ble_eq_true rfl) dX17_init_114 (fun q30 cA31 H hK hP hD hS => ?_)
  have hP : va_P (dC, dI) pcl [(h0, .inr (14, [.ref q1, .ref q4, .ref q7, .ref q10, .ref q13, .ref q16, .ref q19, .ref q22, .ref q25, .ref q28, .null, .int 0, .int 0, .int 0, .int 0, .int 0, .int 0, .int 0, .int 0, .int 0, .int 0, .int 0, .int 0, .long 0, .null, .null, .null, .null, .null, .int 0, .int 0])), (q1, .inr (0, [.int 0, .ref z.1, .int 0])), (q4, .inr (0, [.int 0, .ref z.1, .int 0])), (q7, .inr (0, [.int 0, .ref z.1, .int 0])), (q10, .inr (0, [.int 0, .ref z.1, .int 0])), (q13, .inr (0, [.int 0, .ref z.1, .int 0])), (q16, .inr (0, [.int 0, .ref z.1, .int 0])), (q19, .inr (0, [.int 0, .ref z.1, .int 0])), (q22, .inr (0, [.int 0, .ref z.1, .int 0])), (q25, .inr (0, [.int 0, .ref z.1, .int 0])), (q28, .inl (cA29, 100, .inl (fun _ => 0))), (q30, .inl (cA31, 30, .inl (fun _ => 0)))] H := hP
  have hD : va_D A [(h0, .inr (14, [.ref q1, .ref q4, .ref q7, .ref q10, .ref q13, .ref q16, .ref q19, .ref q22, .ref q25, .ref q28, .null, .int 0, .int 0, .int 0, .int 0, .int 0, .int 0, .int 0, .int 0, .int 0, .int 0, .int 0, .int 0, .long 0, .null, .null, .null, .null, .null, .int 0, .int 0])), (q1, .inr (0, [.int 0, .ref z.1, .int 0])), (q4, .inr (0, [.int 0, .ref z.1, .int 0])), (q7, .inr (0, [.int 0, .ref z.1, .int 0])), (q10, .inr (0, [.int 0, .ref z.1, .int 0])), (q13, .inr (0, [.int 0, .ref z.1, .int 0])), (q16, .inr (0, [.int 0, .ref z.1, .int 0])), (q19, .inr (0, [.int 0, .ref z.1, .int 0])), (q22, .inr (0, [.int 0, .ref z.1, .int 0])), (q25, .inr (0, [.int 0, .ref z.1, .int 0])), (q28, .inl (cA29, 100, .inl (fun _ => 0))), (q30, .inl (cA31, 30, .inl (fun _ => 0)))] := hD
  have hK : va_K (dC, dI) pcl [(cA29, .int), (cA31, .int)] s := hK
  refine W.widen (k := 11) (n := 157) (Nat.le_of_ble_eq_true rfl) (Nat.le_of_ble_eq_true rfl) ?_
  refine va_putF (D := (dC, dI)) (ci := 14) (v := .ref q30) (ty := .array .int) (C := RX17) (T := TX17) (N := 31) hx hb hts pinX17 tyX17 tyX17_ok nmX17 hown hK hP hD hS 0 rfl rfl 24 (by decide) (hts _ e199) (fun _ h9 => h9) rfl hin rfl (by decide +kernel) rfl rfl (Nat.le_of_ble_eq_true rfl) dX17_init_116 (fun H locs hP hD hS => ?_)
  have hP : va_P (dC, dI) pcl [(h0, .inr (14, [.ref q1, .ref q4, .ref q7, .ref q10, .ref q13, .ref q16, .ref q19, .ref q22, .ref q25, .ref q28, .null, .int 0, .int 0, .int 0, .int 0, .int 0, .int 0, .int 0, .int 0, .int 0, .int 0, .int 0, .int 0, .long 0, .ref q30, .null, .null, .null, .null, .int 0, .int 0])), (q1, .inr (0, [.int 0, .ref z.1, .int 0])), (q4, .inr (0, [.int 0, .ref z.1, .int 0])), (q7, .inr (0, [.int 0, .ref z.1, .int 0])), (q10, .inr (0, [.int 0, .ref z.1, .int 0])), (q13, .inr (0, [.int 0, .ref z.1, .int 0])), (q16, .inr (0, [.int 0, .ref z.1, .int 0])), (q19, .inr (0, [.int 0, .ref z.1, .int 0])), (q22, .inr (0, [.int 0, .ref z.1, .int 0])), (q25, .inr (0, [.int 0, .ref z.1, .int 0])), (q28, .inl (cA29, 100, .inl (fun _ => 0))), (q30, .inl (cA31, 30, .inl (fun _ => 0)))] H := hP
  have hD : va_D A [(h0, .inr (14, [.ref q1, .ref q4, .ref q7, .ref q10, .ref q13, .ref q16, .ref q19, .ref q22, .ref q25, .ref q28, .null, .int 0, .int 0, .int 0, .int 0, .int 0, .int 0, .int 0, .int 0, .int 0, .int 0, .int 0, .int 0, .long 0, .ref q30, .null, .null, .null, .null, .int 0, .int 0])), (q1, .inr (0, [.int 0, .ref z.1, .int 0])), (q4, .inr (0, [.int 0, .ref z.1, .int 0])), (q7, .inr (0, [.int 0, .ref z.1, .int 0])), (q10, .inr (0, [.int 0, .ref z.1, .int 0])), (q13, .inr (0, [.int 0, .ref z.1, .int 0])), (q16, .inr (0, [.int 0, .ref z.1, .int 0])), (q19, .inr (0, [.int 0, .ref z.1, .int 0])), (q22, .inr (0, [.int 0, .ref z.1, .int 0])), (q25, .inr (0, [.int 0, .ref z.1, .int 0])), (q28, .inl (cA29, 100, .inl (fun _ => 0))), (q30, .inl (cA31, 30, .inl (fun _ => 0)))] := hD
  refine lv_aload_n hx hb dX17_init_119 rfl (lv_at hl 0 rfl) ?_
  refine lv_bipush (v := 30) hx hb dX17_init_120 (by decide) ?_
  refine va_newa (atype := .int) (N' := 30) (a0 := (30, .inl (fun _ => 0))) hx hb (hts _ e3) rfl hK hP hD hS hA (fun _ => rfl) (by decide) (by decide) (Nat.le_of_ble_eq_true rfl) (Nat.le_of_ble_eq_true rfl) (Nat.le_of_ble_eq_true rfl) dX17_init_122 (fun q32 cA33 H hK hP hD hS => ?_)
  have hP : va_P (dC, dI) pcl [(h0, .inr (14, [.ref q1, .ref q4, .ref q7, .ref q10, .ref q13, .ref q16, .ref q19, .ref q22, .ref q25, .ref q28, .null, .int 0, .int 0, .int 0, .int 0, .int 0, .int 0, .int 0, .int 0, .int 0, .int 0, .int 0, .int 0, .long 0, .ref q30, .null, .null, .null, .null, .int 0, .int 0])), (q1, .inr (0, [.int 0, .ref z.1, .int 0])), (q4, .inr (0, [.int 0, .ref z.1, .int 0])), (q7, .inr (0, [.int 0, .ref z.1, .int 0])), (q10, .inr (0, [.int 0, .ref z.1, .int 0])), (q13, .inr (0, [.int 0, .ref z.1, .int 0])), (q16, .inr (0, [.int 0, .ref z.1, .int 0])), (q19, .inr (0, [.int 0, .ref z.1, .int 0])), (q22, .inr (0, [.int 0, .ref z.1, .int 0])), (q25, .inr (0, [.int 0, .ref z.1, .int 0])), (q28, .inl (cA29, 100, .inl (fun _ => 0))), (q30, .inl (cA31, 30, .inl (fun _ => 0))), (q32, .inl (cA33, 30, .inl (fun _ => 0)))] H := hP
  have hD : va_D A [(h0, .inr (14, [.ref q1, .ref q4, .ref q7, .ref q10, .ref q13, .ref q16, .ref q19, .ref q22, .ref q25, .ref q28, .null, .int 0, .int 0, .int 0, .int 0, .int 0, .int 0, .int 0, .int 0, .int 0, .int 0, .int 0, .int 0, .long 0, .ref q30, .null, .null, .null, .null, .int 0, .int 0])), (q1, .inr (0, [.int 0, .ref z.1, .int 0])), (q4, .inr (0, [.int 0, .ref z.1, .int 0])), (q7, .inr (0, [.int 0, .ref z.1, .int 0])), (q10, .inr (0, [.int 0, .ref z.1, .int 0])), (q13, .inr (0, [.int 0, .ref z.1, .int 0])), (q16, .inr (0, [.int 0, .ref z.1, .int 0])), (q19, .inr (0, [.int 0, .ref z.1, .int 0])), (q22, .inr (0, [.int 0, .ref z.1, .int 0])), (q25, .inr (0, [.int 0, .ref z.1, .int 0])), (q28, .inl (cA29, 100, .inl (fun _ => 0))), (q30, .inl (cA31, 30, .inl (fun _ => 0))), (q32, .inl (cA33, 30, .inl (fun _ => 0)))] := hD
  have hK : va_K (dC, dI) pcl [(cA29, .int), (cA31, .int), (cA33, .int)] s := hK
  refine W.widen (k := 12) (n := 187) (Nat.le_of_ble_eq_true rfl) (Nat.le_of_ble_eq_true rfl) ?_
  refine va_putF (D := (dC, dI)) (ci := 14) (v := .ref q32) (ty := .array .int) (C := RX17) (T := TX17) (N := 31) hx hb hts pinX17 tyX17 tyX17_ok nmX17 hown hK hP hD hS 0 rfl rfl 25 (by decide) (hts _ e200) (fun _ h9 => h9) rfl hin rfl (by decide +kernel) rfl rfl (Nat.le_of_ble_eq_true rfl) dX17_init_124 (fun H locs hP hD hS => ?_)
  have hP : va_P (dC, dI) pcl [(h0, .inr (14, [.ref q1, .ref q4, .ref q7, .ref q10, .ref q13, .ref q16, .ref q19, .ref q22, .ref q25, .ref q28, .null, .int 0, .int 0, .int 0, .int 0, .int 0, .int 0, .int 0, .int 0, .int 0, .int 0, .int 0, .int 0, .long 0, .ref q30, .ref q32, .null, .null, .null, .int 0, .int 0])), (q1, .inr (0, [.int 0, .ref z.1, .int 0])), (q4, .inr (0, [.int 0, .ref z.1, .int 0])), (q7, .inr (0, [.int 0, .ref z.1, .int 0])), (q10, .inr (0, [.int 0, .ref z.1, .int 0])), (q13, .inr (0, [.int 0, .ref z.1, .int 0])), (q16, .inr (0, [.int 0, .ref z.1, .int 0])), (q19, .inr (0, [.int 0, .ref z.1, .int 0])), (q22, .inr (0, [.int 0, .ref z.1, .int 0])), (q25, .inr (0, [.int 0, .ref z.1, .int 0])), (q28, .inl (cA29, 100, .inl (fun _ => 0))), (q30, .inl (cA31, 30, .inl (fun _ => 0))), (q32, .inl (cA33, 30, .inl (fun _ => 0)))] H := hP
  have hD : va_D A [(h0, .inr (14, [.ref q1, .ref q4, .ref q7, .ref q10, .ref q13, .ref q16, .ref q19, .ref q22, .ref q25, .ref q28, .null, .int 0, .int 0, .int 0, .int 0, .int 0, .int 0, .int 0, .int 0, .int 0, .int 0, .int 0, .int 0, .long 0, .ref q30, .ref q32, .null, .null, .null, .int 0, .int 0])), (q1, .inr (0, [.int 0, .ref z.1, .int 0])), (q4, .inr (0, [.int 0, .ref z.1, .int 0])), (q7, .inr (0, [.int 0, .ref z.1, .int 0])), (q10, .inr (0, [.int 0, .ref z.1, .int 0])), (q13, .inr (0, [.int 0, .ref z.1, .int 0])), (q16, .inr (0, [.int 0, .ref z.1, .int 0])), (q19, .inr (0, [.int 0, .ref z.1, .int 0])), (q22, .inr (0, [.int 0, .ref z.1, .int 0])), (q25, .inr (0, [.int 0, .ref z.1, .int 0])), (q28, .inl (cA29, 100, .inl (fun _ => 0))), (q30, .inl (cA31, 30, .inl (fun _ => 0))), (q32, .inl (cA33, 30, .inl (fun _ => 0)))] := hD
  refine lv_aload_n hx hb dX17_init_127 rfl (lv_at hl 0 rfl) ?_
  refine lv_bipush (v := 41) hx hb dX17_init_128 (by decide) ?_
  refine va_newa (atype := .int) (N' := 41) (a0 := (41, .inl (fun _ => 0))) hx hb (hts _ e3) rfl hK hP hD hS hA (fun _ => rfl) (by decide) (by decide) (Nat.le_of_ble_eq_true rfl) (Nat.le_of_ble_eq_true rfl) (Nat.le_of_ble_eq_true rfl) dX17_init_130 (fun q34 cA35 H hK hP hD hS => ?_)
  have hP : va_P (dC, dI) pcl [(h0, .inr (14, [.ref q1, .ref q4, .ref q7, .ref q10, .ref q13, .ref q16, .ref q19, .ref q22, .ref q25, .ref q28, .null, .int 0, .int 0, .int 0, .int 0, .int 0, .int 0, .int 0, .int 0, .int 0, .int 0, .int 0, .int 0, .long 0, .ref q30, .ref q32, .null, .null, .null, .int 0, .int 0])), (q1, .inr (0, [.int 0, .ref z.1, .int 0])), (q4, .inr (0, [.int 0, .ref z.1, .int 0])), (q7, .inr (0, [.int 0, .ref z.1, .int 0])), (q10, .inr (0, [.int 0, .ref z.1, .int 0])), (q13, .inr (0, [.int 0, .ref z.1, .int 0])), (q16, .inr (0, [.int 0, .ref z.1, .int 0])), (q19, .inr (0, [.int 0, .ref z.1, .int 0])), (q22, .inr (0, [.int 0, .ref z.1, .int 0])), (q25, .inr (0, [.int 0, .ref z.1, .int 0])), (q28, .inl (cA29, 100, .inl (fun _ => 0))), (q30, .inl (cA31, 30, .inl (fun _ => 0))), (q32, .inl (cA33, 30, .inl (fun _ => 0))), (q34, .inl (cA35, 41, .inl (fun _ => 0)))] H := hP
  have hD : va_D A [(h0, .inr (14, [.ref q1, .ref q4, .ref q7, .ref q10, .ref q13, .ref q16, .ref q19, .ref q22, .ref q25, .ref q28, .null, .int 0, .int 0, .int 0, .int 0, .int 0, .int 0, .int 0, .int 0, .int 0, .int 0, .int 0, .int 0, .long 0, .ref q30, .ref q32, .null, .null, .null, .int 0, .int 0])), (q1, .inr (0, [.int 0, .ref z.1, .int 0])), (q4, .inr (0, [.int 0, .ref z.1, .int 0])), (q7, .inr (0, [.int 0, .ref z.1, .int 0])), (q10, .inr (0, [.int 0, .ref z.1, .int 0])), (q13, .inr (0, [.int 0, .ref z.1, .int 0])), (q16, .inr (0, [.int 0, .ref z.1, .int 0])), (q19, .inr (0, [.int 0, .ref z.1, .int 0])), (q22, .inr (0, [.int 0, .ref z.1, .int 0])), (q25, .inr (0, [.int 0, .ref z.1, .int 0])), (q28, .inl (cA29, 100, .inl (fun _ => 0))), (q30, .inl (cA31, 30, .inl (fun _ => 0))), (q32, .inl (cA33, 30, .inl (fun _ => 0))), (q34, .inl (cA35, 41, .inl (fun _ => 0)))] := hD
  have hK : va_K (dC, dI) pcl [(cA29, .int), (cA31, .int), (cA33, .int), (cA35, .int)] s := hK
  refine W.widen (k := 13) (n := 228) (Nat.le_of_ble_eq_true rfl) (Nat.le_of_ble_eq_true rfl) ?_
  refine va_putF (D := (dC, dI)) (ci := 14) (v := .ref q34) (ty := .array .int) (C := RX17) (T := TX17) (N := 31) hx hb hts pinX17 tyX17 tyX17_ok nmX17 hown hK hP hD hS 0 rfl rfl 26 (by decide) (hts _ e201) (fun _ h9 => h9) rfl hin rfl (by decide +kernel) rfl rfl (Nat.le_of_ble_eq_true rfl) dX17_init_132 (fun H locs hP hD hS => ?_)
  have hP : va_P (dC, dI) pcl [(h0, .inr (14, [.ref q1, .ref q4, .ref q7, .ref q10, .ref q13, .ref q16, .ref q19, .ref q22, .ref q25, .ref q28, .null, .int 0, .int 0, .int 0, .int 0, .int 0, .int 0, .int 0, .int 0, .int 0, .int 0, .int 0, .int 0, .long 0, .ref q30, .ref q32, .ref q34, .null, .null, .int 0, .int 0])), (q1, .inr (0, [.int 0, .ref z.1, .int 0])), (q4, .inr (0, [.int 0, .ref z.1, .int 0])), (q7, .inr (0, [.int 0, .ref z.1, .int 0])), (q10, .inr (0, [.int 0, .ref z.1, .int 0])), (q13, .inr (0, [.int 0, .ref z.1, .int 0])), (q16, .inr (0, [.int 0, .ref z.1, .int 0])), (q19, .inr (0, [.int 0, .ref z.1, .int 0])), (q22, .inr (0, [.int 0, .ref z.1, .int 0])), (q25, .inr (0, [.int 0, .ref z.1, .int 0])), (q28, .inl (cA29, 100, .inl (fun _ => 0))), (q30, .inl (cA31, 30, .inl (fun _ => 0))), (q32, .inl (cA33, 30, .inl (fun _ => 0))), (q34, .inl (cA35, 41, .inl (fun _ => 0)))] H := hP
  have hD : va_D A [(h0, .inr (14, [.ref q1, .ref q4, .ref q7, .ref q10, .ref q13, .ref q16, .ref q19, .ref q22, .ref q25, .ref q28, .null, .int 0, .int 0, .int 0, .int 0, .int 0, .int 0, .int 0, .int 0, .int 0, .int 0, .int 0, .int 0, .long 0, .ref q30, .ref q32, .ref q34, .null, .null, .int 0, .int 0])), (q1, .inr (0, [.int 0, .ref z.1, .int 0])), (q4, .inr (0, [.int 0, .ref z.1, .int 0])), (q7, .inr (0, [.int 0, .ref z.1, .int 0])), (q10, .inr (0, [.int 0, .ref z.1, .int 0])), (q13, .inr (0, [.int 0, .ref z.1, .int 0])), (q16, .inr (0, [.int 0, .ref z.1, .int 0])), (q19, .inr (0, [.int 0, .ref z.1, .int 0])), (q22, .inr (0, [.int 0, .ref z.1, .int 0])), (q25, .inr (0, [.int 0, .ref z.1, .int 0])), (q28, .inl (cA29, 100, .inl (fun _ => 0))), (q30, .inl (cA31, 30, .inl (fun _ => 0))), (q32, .inl (cA33, 30, .inl (fun _ => 0))), (q34, .inl (cA35, 41, .inl (fun _ => 0)))] := hD
  refine lv_aload_n hx hb dX17_init_135 rfl (lv_at hl 0 rfl) ?_
  refine lv_bipush (v := 30) hx hb dX17_init_136 (by decide) ?_
  refine va_newa (atype := .boolean) (N' := 30) (a0 := (30, .inl (fun _ => 0))) hx hb (hts _ e9) rfl hK hP hD hS hA (fun _ => rfl) (by decide) (by decide) (Nat.le_of_ble_eq_true rfl) (Nat.le_of_ble_eq_true rfl) (Nat.le_of_ble_eq_true rfl) dX17_init_138 (fun q36 cA37 H hK hP hD hS => ?_)
  have hP : va_P (dC, dI) pcl [(h0, .inr (14, [.ref q1, .ref q4, .ref q7, .ref q10, .ref q13, .ref q16, .ref q19, .ref q22, .ref q25, .ref q28, .null, .int 0, .int 0, .int 0, .int 0, .int 0, .int 0, .int 0, .int 0, .int 0, .int 0, .int 0, .int 0, .long 0, .ref q30, .ref q32, .ref q34, .null, .null, .int 0, .int 0])), (q1, .inr (0, [.int 0, .ref z.1, .int 0])), (q4, .inr (0, [.int 0, .ref z.1, .int 0])), (q7, .inr (0, [.int 0, .ref z.1, .int 0])), (q10, .inr (0, [.int 0, .ref z.1, .int 0])), (q13, .inr (0, [.int 0, .ref z.1, .int 0])), (q16, .inr (0, [.int 0, .ref z.1, .int 0])), (q19, .inr (0, [.int 0, .ref z.1, .int 0])), (q22, .inr (0, [.int 0, .ref z.1, .int 0])), (q25, .inr (0, [.int 0, .ref z.1, .int 0])), (q28, .inl (cA29, 100, .inl (fun _ => 0))), (q30, .inl (cA31, 30, .inl (fun _ => 0))), (q32, .inl (cA33, 30, .inl (fun _ => 0))), (q34, .inl (cA35, 41, .inl (fun _ => 0))), (q36, .inl (cA37, 30, .inl (fun _ => 0)))] H := hP
  have hD : va_D A [(h0, .inr (14, [.ref q1, .ref q4, .ref q7, .ref q10, .ref q13, .ref q16, .ref q19, .ref q22, .ref q25, .ref q28, .null, .int 0, .int 0, .int 0, .int 0, .int 0, .int 0, .int 0, .int 0, .int 0, .int 0, .int 0, .int 0, .long 0, .ref q30, .ref q32, .ref q34, .null, .null, .int 0, .int 0])), (q1, .inr (0, [.int 0, .ref z.1, .int 0])), (q4, .inr (0, [.int 0, .ref z.1, .int 0])), (q7, .inr (0, [.int 0, .ref z.1, .int 0])), (q10, .inr (0, [.int 0, .ref z.1, .int 0])), (q13, .inr (0, [.int 0, .ref z.1, .int 0])), (q16, .inr (0, [.int 0, .ref z.1, .int 0])), (q19, .inr (0, [.int 0, .ref z.1, .int 0])), (q22, .inr (0, [.int 0, .ref z.1, .int 0])), (q25, .inr (0, [.int 0, .ref z.1, .int 0])), (q28, .inl (cA29, 100, .inl (fun _ => 0))), (q30, .inl (cA31, 30, .inl (fun _ => 0))), (q32, .inl (cA33, 30, .inl (fun _ => 0))), (q34, .inl (cA35, 41, .inl (fun _ => 0))), (q36, .inl (cA37, 30, .inl (fun _ => 0)))] := hD
  have hK : va_K (dC, dI) pcl [(cA29, .int), (cA31, .int), (cA33, .int), (cA35, .int), (cA37, .boolean)] s := hK
  refine W.widen (k := 14) (n := 258) (Nat.le_of_ble_eq_true rfl) (Nat.le_of_ble_eq_true rfl) ?_
  refine va_putF (D := (dC, dI)) (ci := 14) (v := .ref q36) (ty := .array (.boolean)) (C := RX17) (T := TX17) (N := 31) hx hb hts pinX17 tyX17 tyX17_ok nmX17 hown hK hP hD hS 0 rfl rfl 27 (by decide) (hts _ e202) (fun _ h9 => h9) rfl hin rfl (by decide +kernel) rfl rfl (Nat.le_of_ble_eq_true rfl) dX17_init_140 (fun H locs hP hD hS => ?_)
  have hP : va_P (dC, dI) pcl [(h0, .inr (14, [.ref q1, .ref q4, .ref q7, .ref q10, .ref q13, .ref q16, .ref q19, .ref q22, .ref q25, .ref q28, .null, .int 0, .int 0, .int 0, .int 0, .int 0, .int 0, .int 0, .int 0, .int 0, .int 0, .int 0, .int 0, .long 0, .ref q30, .ref q32, .ref q34, .ref q36, .null, .int 0, .int 0])), (q1, .inr (0, [.int 0, .ref z.1, .int 0])), (q4, .inr (0, [.int 0, .ref z.1, .int 0])), (q7, .inr (0, [.int 0, .ref z.1, .int 0])), (q10, .inr (0, [.int 0, .ref z.1, .int 0])), (q13, .inr (0, [.int 0, .ref z.1, .int 0])), (q16, .inr (0, [.int 0, .ref z.1, .int 0])), (q19, .inr (0, [.int 0, .ref z.1, .int 0])), (q22, .inr (0, [.int 0, .ref z.1, .int 0])), (q25, .inr (0, [.int 0, .ref z.1, .int 0])), (q28, .inl (cA29, 100, .inl (fun _ => 0))), (q30, .inl (cA31, 30, .inl (fun _ => 0))), (q32, .inl (cA33, 30, .inl (fun _ => 0))), (q34, .inl (cA35, 41, .inl (fun _ => 0))), (q36, .inl (cA37, 30, .inl (fun _ => 0)))] H := hP
  have hD : va_D A [(h0, .inr (14, [.ref q1, .ref q4, .ref q7, .ref q10, .ref q13, .ref q16, .ref q19, .ref q22, .ref q25, .ref q28, .null, .int 0, .int 0, .int 0, .int 0, .int 0, .int 0, .int 0, .int 0, .int 0, .int 0, .int 0, .int 0, .long 0, .ref q30, .ref q32, .ref q34, .ref q36, .null, .int 0, .int 0])), (q1, .inr (0, [.int 0, .ref z.1, .int 0])), (q4, .inr (0, [.int 0, .ref z.1, .int 0])), (q7, .inr (0, [.int 0, .ref z.1, .int 0])), (q10, .inr (0, [.int 0, .ref z.1, .int 0])), (q13, .inr (0, [.int 0, .ref z.1, .int 0])), (q16, .inr (0, [.int 0, .ref z.1, .int 0])), (q19, .inr (0, [.int 0, .ref z.1, .int 0])), (q22, .inr (0, [.int 0, .ref z.1, .int 0])), (q25, .inr (0, [.int 0, .ref z.1, .int 0])), (q28, .inl (cA29, 100, .inl (fun _ => 0))), (q30, .inl (cA31, 30, .inl (fun _ => 0))), (q32, .inl (cA33, 30, .inl (fun _ => 0))), (q34, .inl (cA35, 41, .inl (fun _ => 0))), (q36, .inl (cA37, 30, .inl (fun _ => 0)))] := hD
  refine lv_aload_n hx hb dX17_init_143 rfl (lv_at hl 0 rfl) ?_
  refine lv_bipush (v := 41) hx hb dX17_init_144 (by decide) ?_
  refine va_newa (atype := .boolean) (N' := 41) (a0 := (41, .inl (fun _ => 0))) hx hb (hts _ e9) rfl hK hP hD hS hA (fun _ => rfl) (by decide) (by decide) (Nat.le_of_ble_eq_true rfl) (Nat.le_of_ble_eq_true rfl) (Nat.le_of_ble_eq_true rfl) dX17_init_146 (fun q38 cA39 H hK hP hD hS => ?_)
  have hP : va_P (dC, dI) pcl [(h0, .inr (14, [.ref q1, .ref q4, .ref q7, .ref q10, .ref q13, .ref q16, .ref q19, .ref q22, .ref q25, .ref q28, .null, .int 0, .int 0, .int 0, .int 0, .int 0, .int 0, .int 0, .int 0, .int 0, .int 0, .int 0, .int 0, .long 0, .ref q30, .ref q32, .ref q34, .ref q36, .null, .int 0, .int 0])), (q1, .inr (0, [.int 0, .ref z.1, .int 0])), (q4, .inr (0, [.int 0, .ref z.1, .int 0])), (q7, .inr (0, [.int 0, .ref z.1, .int 0])), (q10, .inr (0, [.int 0, .ref z.1, .int 0])), (q13, .inr (0, [.int 0, .ref z.1, .int 0])), (q16, .inr (0, [.int 0, .ref z.1, .int 0])), (q19, .inr (0, [.int 0, .ref z.1, .int 0])), (q22, .inr (0, [.int 0, .ref z.1, .int 0])), (q25, .inr (0, [.int 0, .ref z.1, .int 0])), (q28, .inl (cA29, 100, .inl (fun _ => 0))), (q30, .inl (cA31, 30, .inl (fun _ => 0))), (q32, .inl (cA33, 30, .inl (fun _ => 0))), (q34, .inl (cA35, 41, .inl (fun _ => 0))), (q36, .inl (cA37, 30, .inl (fun _ => 0))), (q38, .inl (cA39, 41, .inl (fun _ => 0)))] H := hP
  have hD : va_D A [(h0, .inr (14, [.ref q1, .ref q4, .ref q7, .ref q10, .ref q13, .ref q16, .ref q19, .ref q22, .ref q25, .ref q28, .null, .int 0, .int 0, .int 0, .int 0, .int 0, .int 0, .int 0, .int 0, .int 0, .int 0, .int 0, .int 0, .long 0, .ref q30, .ref q32, .ref q34, .ref q36, .null, .int 0, .int 0])), (q1, .inr (0, [.int 0, .ref z.1, .int 0])), (q4, .inr (0, [.int 0, .ref z.1, .int 0])), (q7, .inr (0, [.int 0, .ref z.1, .int 0])), (q10, .inr (0, [.int 0, .ref z.1, .int 0])), (q13, .inr (0, [.int 0, .ref z.1, .int 0])), (q16, .inr (0, [.int 0, .ref z.1, .int 0])), (q19, .inr (0, [.int 0, .ref z.1, .int 0])), (q22, .inr (0, [.int 0, .ref z.1, .int 0])), (q25, .inr (0, [.int 0, .ref z.1, .int 0])), (q28, .inl (cA29, 100, .inl (fun _ => 0))), (q30, .inl (cA31, 30, .inl (fun _ => 0))), (q32, .inl (cA33, 30, .inl (fun _ => 0))), (q34, .inl (cA35, 41, .inl (fun _ => 0))), (q36, .inl (cA37, 30, .inl (fun _ => 0))), (q38, .inl (cA39, 41, .inl (fun _ => 0)))] := hD
  have hK : va_K (dC, dI) pcl [(cA29, .int), (cA31, .int), (cA33, .int), (cA35, .int), (cA37, .boolean), (cA39, .boolean)] s := hK
  refine W.widen (k := 15) (n := 299) (Nat.le_of_ble_eq_true rfl) (Nat.le_of_ble_eq_true rfl) ?_
  refine va_putF (D := (dC, dI)) (ci := 14) (v := .ref q38) (ty := .array (.boolean)) (C := RX17) (T := TX17) (N := 31) hx hb hts pinX17 tyX17 tyX17_ok nmX17 hown hK hP hD hS 0 rfl rfl 28 (by decide) (hts _ e203) (fun _ h9 => h9) rfl hin rfl (by decide +kernel) rfl rfl (Nat.le_of_ble_eq_true rfl) dX17_init_148 (fun H locs hP hD hS => ?_)
  have hP : va_P (dC, dI) pcl [(h0, .inr (14, [.ref q1, .ref q4, .ref q7, .ref q10, .ref q13, .ref q16, .ref q19, .ref q22, .ref q25, .ref q28, .null, .int 0, .int 0, .int 0, .int 0, .int 0, .int 0, .int 0, .int 0, .int 0, .int 0, .int 0, .int 0, .long 0, .ref q30, .ref q32, .ref q34, .ref q36, .ref q38, .int 0, .int 0])), (q1, .inr (0, [.int 0, .ref z.1, .int 0])), (q4, .inr (0, [.int 0, .ref z.1, .int 0])), (q7, .inr (0, [.int 0, .ref z.1, .int 0])), (q10, .inr (0, [.int 0, .ref z.1, .int 0])), (q13, .inr (0, [.int 0, .ref z.1, .int 0])), (q16, .inr (0, [.int 0, .ref z.1, .int 0])), (q19, .inr (0, [.int 0, .ref z.1, .int 0])), (q22, .inr (0, [.int 0, .ref z.1, .int 0])), (q25, .inr (0, [.int 0, .ref z.1, .int 0])), (q28, .inl (cA29, 100, .inl (fun _ => 0))), (q30, .inl (cA31, 30, .inl (fun _ => 0))), (q32, .inl (cA33, 30, .inl (fun _ => 0))), (q34, .inl (cA35, 41, .inl (fun _ => 0))), (q36, .inl (cA37, 30, .inl (fun _ => 0))), (q38, .inl (cA39, 41, .inl (fun _ => 0)))] H := hP
  have hD : va_D A [(h0, .inr (14, [.ref q1, .ref q4, .ref q7, .ref q10, .ref q13, .ref q16, .ref q19, .ref q22, .ref q25, .ref q28, .null, .int 0, .int 0, .int 0, .int 0, .int 0, .int 0, .int 0, .int 0, .int 0, .int 0, .int 0, .int 0, .long 0, .ref q30, .ref q32, .ref q34, .ref q36, .ref q38, .int 0, .int 0])), (q1, .inr (0, [.int 0, .ref z.1, .int 0])), (q4, .inr (0, [.int 0, .ref z.1, .int 0])), (q7, .inr (0, [.int 0, .ref z.1, .int 0])), (q10, .inr (0, [.int 0, .ref z.1, .int 0])), (q13, .inr (0, [.int 0, .ref z.1, .int 0])), (q16, .inr (0, [.int 0, .ref z.1, .int 0])), (q19, .inr (0, [.int 0, .ref z.1, .int 0])), (q22, .inr (0, [.int 0, .ref z.1, .int 0])), (q25, .inr (0, [.int 0, .ref z.1, .int 0])), (q28, .inl (cA29, 100, .inl (fun _ => 0))), (q30, .inl (cA31, 30, .inl (fun _ => 0))), (q32, .inl (cA33, 30, .inl (fun _ => 0))), (q34, .inl (cA35, 41, .inl (fun _ => 0))), (q36, .inl (cA37, 30, .inl (fun _ => 0))), (q38, .inl (cA39, 41, .inl (fun _ => 0)))] := hD
  have hP9 := hP.sub (ws' := [(h0, .inr (14, [.ref q1, .ref q4, .ref q7, .ref q10, .ref q13, .ref q16, .ref q19, .ref q22, .ref q25, .ref q28, .null, .int 0, .int 0, .int 0, .int 0, .int 0, .int 0, .int 0, .int 0, .int 0, .int 0, .int 0, .int 0, .long 0, .ref q30, .ref q32, .ref q34, .ref q36, .ref q38, .int 0, .int 0])), (q1, .inr (0, [.int 0, .ref z.1, .int 0])), (q4, .inr (0, [.int 0, .ref z.1, .int 0])), (q7, .inr (0, [.int 0, .ref z.1, .int 0])), (q10, .inr (0, [.int 0, .ref z.1, .int 0])), (q13, .inr (0, [.int 0, .ref z.1, .int 0])), (q16, .inr (0, [.int 0, .ref z.1, .int 0])), (q19, .inr (0, [.int 0, .ref z.1, .int 0])), (q22, .inr (0, [.int 0, .ref z.1, .int 0])), (q25, .inr (0, [.int 0, .ref z.1, .int 0])), (q28, .inl (cA29, 100, .inl (fun _ => 0)))]) [0, 1, 2, 3, 4, 5, 6, 7, 8, 9, 10] rfl
  have hD9 := hD.sub (ws' := [(h0, .inr (14, [.ref q1, .ref q4, .ref q7, .ref q10, .ref q13, .ref q16, .ref q19, .ref q22, .ref q25, .ref q28, .null, .int 0, .int 0, .int 0, .int 0, .int 0, .int 0, .int 0, .int 0, .int 0, .int 0, .int 0, .int 0, .long 0, .ref q30, .ref q32, .ref q34, .ref q36, .ref q38, .int 0, .int 0])), (q1, .inr (0, [.int 0, .ref z.1, .int 0])), (q4, .inr (0, [.int 0, .ref z.1, .int 0])), (q7, .inr (0, [.int 0, .ref z.1, .int 0])), (q10, .inr (0, [.int 0, .ref z.1, .int 0])), (q13, .inr (0, [.int 0, .ref z.1, .int 0])), (q16, .inr (0, [.int 0, .ref z.1, .int 0])), (q19, .inr (0, [.int 0, .ref z.1, .int 0])), (q22, .inr (0, [.int 0, .ref z.1, .int 0])), (q25, .inr (0, [.int 0, .ref z.1, .int 0])), (q28, .inl (cA29, 100, .inl (fun _ => 0)))]) [0, 1, 2, 3, 4, 5, 6, 7, 8, 9, 10] (by decide) rfl
  have hK9 := hK.sub (tys' := [(cA29, .int)]) [0] rfl
  refine W.widen (k := 15) (n := 299) (Nat.le_of_ble_eq_true rfl) (Nat.le_of_ble_eq_true rfl) ?_
  exact W.vret hx hb hr (fun t ht hW => ⟨⟨(), rfl, trivial, q1, q4, q7, q10, q13, q16, q19, q22, q25, q28, q30, q32, q34, q36, q38, cA29, by rw [ht]; exact hP9, va_K.moved hW.alike hK9, hD9⟩, hS.F ht⟩) hS.2.2 dX17_init_151
set_option maxHeartbeats 4000000 in
set_option maxRecDepth 100000 in
theorem c_X17_inE (l : Launch) (dC : Nat → ClassId) (dI : Nat → Nat → Nat) (z : pG) (n : Int32) (sz : Nat) : Met l yX17_in (ws_ yX17_in cX17_in 3 (some .boolean)) ({ frames := 0, cells := 0, slots := 0, locals := 0 }) (va_Pc [.int n, .int 0, .int (-1)] (pPre z dC dI [] [] sz)) (va_Qi (fun (r : Int32) (_ : Unit) => r = 0) (fun _ t => pPost dC dI (va_A [] sz) [] [] t) (va_A [] sz)) 0 0 (va_A [] sz) := by
  refine Met.ofW (cc := cX17_in) (maxL := 3) (ret := (some .boolean)) (by decide) rfl ?_
  intro p e s m args below meth c s₁ B hml hv
  obtain ⟨rfl, hsz, hP, hK, hD0, hE⟩ := hv
  have hx := B.exec
  have hb := B.bytes
  have hr := B.returns
  have hts0 := atoms_spec (ws := ws_ yX17_in cX17_in 3 (some .boolean)) B.pre
  have hts := fun (w : Cond) (h : w ∈ pw) => hts0 w (List.mem_cons_of_mem _ h)
  have hown : s.vm.findClass RX17 = some m.cls := findClass_of_methodNamed B.named
  have hlocks := B.notSynchronized
  subst hsz
  have hD := hD0.self (sz := s.heap.size)
  generalize hAe : va_A [] s.heap.size = A at hD hE ⊢
  have hA : ∀ q : Nat, s.heap.size ≤ q → A q := fun q h => by rw [← hAe]; exact Or.inr h
  have hS : va_S A s.heap s.heap [] := va_S.rf
  have hN := hE.1
  have hP : va_P (dC, dI) pcl [] s.heap := hP
  have hl := lv_entry ([.int n, .int 0, .int (-1)]) (n := 3) (Nat.le_of_ble_eq_true rfl)
  rw [lg_entry_eq]
  generalize (lg_sl ([.int n, .int 0, .int (-1)]) ++ List.replicate (3 - (lg_sl ([.int n, .int 0, .int (-1)])).length) Slot.unset).toArray = ls at hl ⊢
  have hl : lv_has ls 3 [(0, .int n), (1, .int 0), (2, .int (-1))] := hl
  obtain ⟨H, hH0⟩ : ∃ H, H = s.heap := ⟨_, rfl⟩
  rw [← hH0] at hP ⊢
  have hS : va_S A s.heap H [] := by rw [hH0]; exact hS
  refine lv_iload_n hx hb dX17_in_0 rfl (lv_at hl 0 rfl) ?_
  refine lv_iload_n hx hb dX17_in_1 rfl (lv_at hl 1 rfl) ?_
  refine lv_icmp_lt (tgt := 14) hx hb dX17_in_2 (by decide) (fun k1 => ?_) (fun k1 => ?_)
  · refine lv_iconst (v := 0) hx hb dX17_in_14 (by decide) ?_
    have hP9 := hP.sub (ws' := []) [] rfl
    have hD9 := hD.sub (ws' := []) [] (by decide) rfl
    have hK9 := hK.sub (tys' := []) [] rfl
    refine W.widen (k := 0) (n := 0) (Nat.le_of_ble_eq_true rfl) (Nat.le_of_ble_eq_true rfl) ?_
    exact W.zret (v := 0) hx hb hr rfl (fun t ht hW => ⟨⟨0, (), rfl, rfl, by rw [ht]; exact hP9, va_K.moved hW.alike hK9, hD9⟩, hS.F ht⟩) hS.2.2 dX17_in_15
  · refine lv_iload_n hx hb dX17_in_5 rfl (lv_at hl 0 rfl) ?_
    refine lv_iload_n hx hb dX17_in_6 rfl (lv_at hl 2 rfl) ?_
    refine lv_icmp_gt (tgt := 14) hx hb dX17_in_7 (by decide) (fun _ => ?_) (fun h9 => absurd (p_m1 k1) h9)
    refine lv_iconst (v := 0) hx hb dX17_in_14 (by decide) ?_
    have hP9 := hP.sub (ws' := []) [] rfl
    have hD9 := hD.sub (ws' := []) [] (by decide) rfl
    have hK9 := hK.sub (tys' := []) [] rfl
    refine W.widen (k := 0) (n := 0) (Nat.le_of_ble_eq_true rfl) (Nat.le_of_ble_eq_true rfl) ?_
    exact W.zret (v := 0) hx hb hr rfl (fun t ht hW => ⟨⟨0, (), rfl, rfl, by rw [ht]; exact hP9, va_K.moved hW.alike hK9, hD9⟩, hS.F ht⟩) hS.2.2 dX17_in_15
set_option maxHeartbeats 4000000 in
set_option maxRecDepth 100000 in
theorem c_X17_in_16 (l : Launch) (dC : Nat → ClassId) (dI : Nat → Nat → Nat) (z : pG) (n : Int32) (sz : Nat) : Met l yX17_in (ws_ yX17_in cX17_in 3 (some .boolean)) ({ frames := 0, cells := 0, slots := 0, locals := 0 }) (va_Pc [.int n, .int 0, .int 15] (pPre z dC dI [] [] sz)) (va_Qi (fun (r : Int32) (_ : Unit) => (r = 1 ∧ ¬ n < 0 ∧ n < 16) ∨ (r = 0 ∧ (n < 0 ∨ ¬ n < 16))) (fun _ t => pPost dC dI (va_A [] sz) [] [] t) (va_A [] sz)) 0 0 (va_A [] sz) := by
  refine Met.ofW (cc := cX17_in) (maxL := 3) (ret := (some .boolean)) (by decide) rfl ?_
  intro p e s m args below meth c s₁ B hml hv
  obtain ⟨rfl, hsz, hP, hK, hD0, hE⟩ := hv
  have hx := B.exec
  have hb := B.bytes
  have hr := B.returns
  have hts0 := atoms_spec (ws := ws_ yX17_in cX17_in 3 (some .boolean)) B.pre
  have hts := fun (w : Cond) (h : w ∈ pw) => hts0 w (List.mem_cons_of_mem _ h)
  have hown : s.vm.findClass RX17 = some m.cls := findClass_of_methodNamed B.named
  have hlocks := B.notSynchronized
  subst hsz
  have hD := hD0.self (sz := s.heap.size)
  generalize hAe : va_A [] s.heap.size = A at hD hE ⊢
  have hA : ∀ q : Nat, s.heap.size ≤ q → A q := fun q h => by rw [← hAe]; exact Or.inr h
  have hS : va_S A s.heap s.heap [] := va_S.rf
  have hN := hE.1
  have hP : va_P (dC, dI) pcl [] s.heap := hP
  have hl := lv_entry ([.int n, .int 0, .int 15]) (n := 3) (Nat.le_of_ble_eq_true rfl)
  rw [lg_entry_eq]
  generalize (lg_sl ([.int n, .int 0, .int 15]) ++ List.replicate (3 - (lg_sl ([.int n, .int 0, .int 15])).length) Slot.unset).toArray = ls at hl ⊢
  have hl : lv_has ls 3 [(0, .int n), (1, .int 0), (2, .int 15)] := hl
  obtain ⟨H, hH0⟩ : ∃ H, H = s.heap := ⟨_, rfl⟩
  rw [← hH0] at hP ⊢
  have hS : va_S A s.heap H [] := by rw [hH0]; exact hS
  refine lv_iload_n hx hb dX17_in_0 rfl (lv_at hl 0 rfl) ?_
  refine lv_iload_n hx hb dX17_in_1 rfl (lv_at hl 1 rfl) ?_
  refine lv_icmp_lt (tgt := 14) hx hb dX17_in_2 (by decide) (fun k1 => ?_) (fun k1 => ?_)
  · refine lv_iconst (v := 0) hx hb dX17_in_14 (by decide) ?_
    have hP9 := hP.sub (ws' := []) [] rfl
    have hD9 := hD.sub (ws' := []) [] (by decide) rfl
    have hK9 := hK.sub (tys' := []) [] rfl
    refine W.widen (k := 0) (n := 0) (Nat.le_of_ble_eq_true rfl) (Nat.le_of_ble_eq_true rfl) ?_
    exact W.zret (v := 0) hx hb hr rfl (fun t ht hW => ⟨⟨0, (), rfl, (Or.inr (⟨rfl, Or.inl k1⟩)), by rw [ht]; exact hP9, va_K.moved hW.alike hK9, hD9⟩, hS.F ht⟩) hS.2.2 dX17_in_15
  · refine lv_iload_n hx hb dX17_in_5 rfl (lv_at hl 0 rfl) ?_
    refine lv_iload_n hx hb dX17_in_6 rfl (lv_at hl 2 rfl) ?_
    refine lv_icmp_gt (tgt := 14) hx hb dX17_in_7 (by decide) (fun k2 => ?_) (fun k2 => ?_)
    · refine lv_iconst (v := 0) hx hb dX17_in_14 (by decide) ?_
      have hP9 := hP.sub (ws' := []) [] rfl
      have hD9 := hD.sub (ws' := []) [] (by decide) rfl
      have hK9 := hK.sub (tys' := []) [] rfl
      refine W.widen (k := 0) (n := 0) (Nat.le_of_ble_eq_true rfl) (Nat.le_of_ble_eq_true rfl) ?_
      exact W.zret (v := 0) hx hb hr rfl (fun t ht hW => ⟨⟨0, (), rfl, (Or.inr (⟨rfl, Or.inr (p_ge16 k2)⟩)), by rw [ht]; exact hP9, va_K.moved hW.alike hK9, hD9⟩, hS.F ht⟩) hS.2.2 dX17_in_15
    · refine lv_iconst (v := 1) hx hb dX17_in_10 (by decide) ?_
      refine lv_goto (tgt := 15) hx hb dX17_in_11 (by decide) ?_
      have hP9 := hP.sub (ws' := []) [] rfl
      have hD9 := hD.sub (ws' := []) [] (by decide) rfl
      have hK9 := hK.sub (tys' := []) [] rfl
      refine W.widen (k := 0) (n := 0) (Nat.le_of_ble_eq_true rfl) (Nat.le_of_ble_eq_true rfl) ?_
      exact W.zret (v := 1) hx hb hr rfl (fun t ht hW => ⟨⟨1, (), rfl, (Or.inl ⟨rfl, ⟨k1, p_lt16 k2⟩⟩), by rw [ht]; exact hP9, va_K.moved hW.alike hK9, hD9⟩, hS.F ht⟩) hS.2.2 dX17_in_15
set_option maxHeartbeats 4000000 in
set_option maxRecDepth 100000 in
theorem c_X17_in_100 (l : Launch) (dC : Nat → ClassId) (dI : Nat → Nat → Nat) (z : pG) (n : Int32) (sz : Nat) : Met l yX17_in (ws_ yX17_in cX17_in 3 (some .boolean)) ({ frames := 0, cells := 0, slots := 0, locals := 0 }) (va_Pc [.int n, .int 0, .int 99] (pPre z dC dI [] [] sz)) (va_Qi (fun (r : Int32) (_ : Unit) => (r = 1 ∧ ¬ n < 0 ∧ n < 100) ∨ (r = 0 ∧ (n < 0 ∨ ¬ n < 100))) (fun _ t => pPost dC dI (va_A [] sz) [] [] t) (va_A [] sz)) 0 0 (va_A [] sz) := by
  refine Met.ofW (cc := cX17_in) (maxL := 3) (ret := (some .boolean)) (by decide) rfl ?_
  intro p e s m args below meth c s₁ B hml hv
  obtain ⟨rfl, hsz, hP, hK, hD0, hE⟩ := hv
  have hx := B.exec
  have hb := B.bytes
  have hr := B.returns
  have hts0 := atoms_spec (ws := ws_ yX17_in cX17_in 3 (some .boolean)) B.pre
  have hts := fun (w : Cond) (h : w ∈ pw) => hts0 w (List.mem_cons_of_mem _ h)
  have hown : s.vm.findClass RX17 = some m.cls := findClass_of_methodNamed B.named
  have hlocks := B.notSynchronized
  subst hsz
  have hD := hD0.self (sz := s.heap.size)
  generalize hAe : va_A [] s.heap.size = A at hD hE ⊢
  have hA : ∀ q : Nat, s.heap.size ≤ q → A q := fun q h => by rw [← hAe]; exact Or.inr h
  have hS : va_S A s.heap s.heap [] := va_S.rf
  have hN := hE.1
  have hP : va_P (dC, dI) pcl [] s.heap := hP
  have hl := lv_entry ([.int n, .int 0, .int 99]) (n := 3) (Nat.le_of_ble_eq_true rfl)
  rw [lg_entry_eq]
  generalize (lg_sl ([.int n, .int 0, .int 99]) ++ List.replicate (3 - (lg_sl ([.int n, .int 0, .int 99])).length) Slot.unset).toArray = ls at hl ⊢
  have hl : lv_has ls 3 [(0, .int n), (1, .int 0), (2, .int 99)] := hl
  obtain ⟨H, hH0⟩ : ∃ H, H = s.heap := ⟨_, rfl⟩
  rw [← hH0] at hP ⊢
  have hS : va_S A s.heap H [] := by rw [hH0]; exact hS
  refine lv_iload_n hx hb dX17_in_0 rfl (lv_at hl 0 rfl) ?_
  refine lv_iload_n hx hb dX17_in_1 rfl (lv_at hl 1 rfl) ?_
  refine lv_icmp_lt (tgt := 14) hx hb dX17_in_2 (by decide) (fun k1 => ?_) (fun k1 => ?_)
  · refine lv_iconst (v := 0) hx hb dX17_in_14 (by decide) ?_
    have hP9 := hP.sub (ws' := []) [] rfl
    have hD9 := hD.sub (ws' := []) [] (by decide) rfl
    have hK9 := hK.sub (tys' := []) [] rfl
    refine W.widen (k := 0) (n := 0) (Nat.le_of_ble_eq_true rfl) (Nat.le_of_ble_eq_true rfl) ?_
    exact W.zret (v := 0) hx hb hr rfl (fun t ht hW => ⟨⟨0, (), rfl, (Or.inr (⟨rfl, Or.inl k1⟩)), by rw [ht]; exact hP9, va_K.moved hW.alike hK9, hD9⟩, hS.F ht⟩) hS.2.2 dX17_in_15
  · refine lv_iload_n hx hb dX17_in_5 rfl (lv_at hl 0 rfl) ?_
    refine lv_iload_n hx hb dX17_in_6 rfl (lv_at hl 2 rfl) ?_
    refine lv_icmp_gt (tgt := 14) hx hb dX17_in_7 (by decide) (fun k2 => ?_) (fun k2 => ?_)
    · refine lv_iconst (v := 0) hx hb dX17_in_14 (by decide) ?_
      have hP9 := hP.sub (ws' := []) [] rfl
      have hD9 := hD.sub (ws' := []) [] (by decide) rfl
      have hK9 := hK.sub (tys' := []) [] rfl
      refine W.widen (k := 0) (n := 0) (Nat.le_of_ble_eq_true rfl) (Nat.le_of_ble_eq_true rfl) ?_
      exact W.zret (v := 0) hx hb hr rfl (fun t ht hW => ⟨⟨0, (), rfl, (Or.inr (⟨rfl, Or.inr (p_ge100 k2)⟩)), by rw [ht]; exact hP9, va_K.moved hW.alike hK9, hD9⟩, hS.F ht⟩) hS.2.2 dX17_in_15
    · refine lv_iconst (v := 1) hx hb dX17_in_10 (by decide) ?_
      refine lv_goto (tgt := 15) hx hb dX17_in_11 (by decide) ?_
      have hP9 := hP.sub (ws' := []) [] rfl
      have hD9 := hD.sub (ws' := []) [] (by decide) rfl
      have hK9 := hK.sub (tys' := []) [] rfl
      refine W.widen (k := 0) (n := 0) (Nat.le_of_ble_eq_true rfl) (Nat.le_of_ble_eq_true rfl) ?_
      exact W.zret (v := 1) hx hb hr rfl (fun t ht hW => ⟨⟨1, (), rfl, (Or.inl ⟨rfl, ⟨k1, p_lt100 k2⟩⟩), by rw [ht]; exact hP9, va_K.moved hW.alike hK9, hD9⟩, hS.F ht⟩) hS.2.2 dX17_in_15
set_option maxHeartbeats 4000000 in
set_option maxRecDepth 100000 in
theorem c_X17_thrown (l : Launch) (dC : Nat → ClassId) (dI : Nat → Nat → Nat) (z : pG) (h0 : Nat) (l1 : Nat) (l2 : Nat) (l3 : Nat) (l4 : Nat) (l5 : Nat) (l6 : Nat) (l7 : Nat) (l8 : Nat) (l9 : Nat) (ce : Nat) (y1 : Nat) (y2 : Nat) (y3 : Nat) (y4 : Nat) (y5 : Nat) (t9 : Int32) (sz : Nat) : Met l yX17_thrown (ws_ yX17_thrown cX17_thrown 1 (some .int)) ({ frames := 0, cells := 0, slots := 0, locals := 0 }) (va_Pc [.ref h0] (pPre z dC dI [(h0, .inr (14, [.ref l1, .ref l2, .ref l3, .ref l4, .ref l5, .ref l6, .ref l7, .ref l8, .ref l9, .ref ce, .null, .int 0, .int 0, .int t9, .int 0, .int 0, .int 0, .int 0, .int 0, .int 0, .int 0, .int 0, .int 0, .long 0, .ref y1, .ref y2, .ref y3, .ref y4, .ref y5, .int 0, .int 0]))] [] sz)) (va_Qi (fun (r : Int32) (_ : Unit) => r = t9) (fun _ t => pPost dC dI (va_A [(h0, .inr (14, [.ref l1, .ref l2, .ref l3, .ref l4, .ref l5, .ref l6, .ref l7, .ref l8, .ref l9, .ref ce, .null, .int 0, .int 0, .int t9, .int 0, .int 0, .int 0, .int 0, .int 0, .int 0, .int 0, .int 0, .int 0, .long 0, .ref y1, .ref y2, .ref y3, .ref y4, .ref y5, .int 0, .int 0]))] sz) [(h0, .inr (14, [.ref l1, .ref l2, .ref l3, .ref l4, .ref l5, .ref l6, .ref l7, .ref l8, .ref l9, .ref ce, .null, .int 0, .int 0, .int t9, .int 0, .int 0, .int 0, .int 0, .int 0, .int 0, .int 0, .int 0, .int 0, .long 0, .ref y1, .ref y2, .ref y3, .ref y4, .ref y5, .int 0, .int 0]))] [] t) (va_A [(h0, .inr (14, [.ref l1, .ref l2, .ref l3, .ref l4, .ref l5, .ref l6, .ref l7, .ref l8, .ref l9, .ref ce, .null, .int 0, .int 0, .int t9, .int 0, .int 0, .int 0, .int 0, .int 0, .int 0, .int 0, .int 0, .int 0, .long 0, .ref y1, .ref y2, .ref y3, .ref y4, .ref y5, .int 0, .int 0]))] sz)) 0 0 (va_A [(h0, .inr (14, [.ref l1, .ref l2, .ref l3, .ref l4, .ref l5, .ref l6, .ref l7, .ref l8, .ref l9, .ref ce, .null, .int 0, .int 0, .int t9, .int 0, .int 0, .int 0, .int 0, .int 0, .int 0, .int 0, .int 0, .int 0, .long 0, .ref y1, .ref y2, .ref y3, .ref y4, .ref y5, .int 0, .int 0]))] sz) := by
  refine Met.ofW (cc := cX17_thrown) (maxL := 1) (ret := (some .int)) (by decide) rfl ?_
  intro p e s m args below meth c s₁ B hml hv
  obtain ⟨rfl, hsz, hP, hK, hD0, hE⟩ := hv
  have hx := B.exec
  have hb := B.bytes
  have hr := B.returns
  have hts0 := atoms_spec (ws := ws_ yX17_thrown cX17_thrown 1 (some .int)) B.pre
  have hts := fun (w : Cond) (h : w ∈ pw) => hts0 w (List.mem_cons_of_mem _ h)
  have hown : s.vm.findClass RX17 = some m.cls := findClass_of_methodNamed B.named
  have hlocks := B.notSynchronized
  subst hsz
  have hD := hD0.self (sz := s.heap.size)
  generalize hAe : va_A [(h0, .inr (14, [.ref l1, .ref l2, .ref l3, .ref l4, .ref l5, .ref l6, .ref l7, .ref l8, .ref l9, .ref ce, .null, .int 0, .int 0, .int t9, .int 0, .int 0, .int 0, .int 0, .int 0, .int 0, .int 0, .int 0, .int 0, .long 0, .ref y1, .ref y2, .ref y3, .ref y4, .ref y5, .int 0, .int 0]))] s.heap.size = A at hD hE ⊢
  have hA : ∀ q : Nat, s.heap.size ≤ q → A q := fun q h => by rw [← hAe]; exact Or.inr h
  have hS : va_S A s.heap s.heap [] := va_S.rf
  have hN := hE.1
  have hP : va_P (dC, dI) pcl [(h0, .inr (14, [.ref l1, .ref l2, .ref l3, .ref l4, .ref l5, .ref l6, .ref l7, .ref l8, .ref l9, .ref ce, .null, .int 0, .int 0, .int t9, .int 0, .int 0, .int 0, .int 0, .int 0, .int 0, .int 0, .int 0, .int 0, .long 0, .ref y1, .ref y2, .ref y3, .ref y4, .ref y5, .int 0, .int 0]))] s.heap := hP
  have hl := lv_entry ([.ref h0]) (n := 1) (Nat.le_of_ble_eq_true rfl)
  rw [lg_entry_eq]
  generalize (lg_sl ([.ref h0]) ++ List.replicate (1 - (lg_sl ([.ref h0])).length) Slot.unset).toArray = ls at hl ⊢
  have hl : lv_has ls 1 [(0, .ref h0)] := hl
  obtain ⟨H, hH0⟩ : ∃ H, H = s.heap := ⟨_, rfl⟩
  rw [← hH0] at hP ⊢
  have hS : va_S A s.heap H [] := by rw [hH0]; exact hS
  refine lv_aload_n hx hb dX17_thrown_0 rfl (lv_at hl 0 rfl) ?_
  refine va_get (D := (dC, dI)) (ci := 14) (v := .int t9) (C := RX17) (T := TX17) (N := 31) hx hb hts pinX17 hown hK hP 0 rfl rfl 13 (by decide) (hts _ e204) (fun _ h9 => h9) rfl dX17_thrown_1 ?_
  have hP9 := hP.sub (ws' := [(h0, .inr (14, [.ref l1, .ref l2, .ref l3, .ref l4, .ref l5, .ref l6, .ref l7, .ref l8, .ref l9, .ref ce, .null, .int 0, .int 0, .int t9, .int 0, .int 0, .int 0, .int 0, .int 0, .int 0, .int 0, .int 0, .int 0, .long 0, .ref y1, .ref y2, .ref y3, .ref y4, .ref y5, .int 0, .int 0]))]) [0] rfl
  have hD9 := hD.sub (ws' := [(h0, .inr (14, [.ref l1, .ref l2, .ref l3, .ref l4, .ref l5, .ref l6, .ref l7, .ref l8, .ref l9, .ref ce, .null, .int 0, .int 0, .int t9, .int 0, .int 0, .int 0, .int 0, .int 0, .int 0, .int 0, .int 0, .int 0, .long 0, .ref y1, .ref y2, .ref y3, .ref y4, .ref y5, .int 0, .int 0]))]) [0] (by decide) rfl
  have hK9 := hK.sub (tys' := []) [] rfl
  refine W.widen (k := 0) (n := 0) (Nat.le_of_ble_eq_true rfl) (Nat.le_of_ble_eq_true rfl) ?_
  exact W.iret (v := t9) hx hb hr (fun t ht hW => ⟨⟨t9, (), rfl, rfl, by rw [ht]; exact hP9, va_K.moved hW.alike hK9, hD9⟩, hS.F ht⟩) hS.2.2 dX17_thrown_4
set_option maxHeartbeats 4000000 in
set_option maxRecDepth 100000 in
theorem c_X17_fails (l : Launch) (dC : Nat → ClassId) (dI : Nat → Nat → Nat) (z : pG) (h0 : Nat) (l1 : Nat) (l2 : Nat) (l3 : Nat) (l4 : Nat) (l5 : Nat) (l6 : Nat) (l7 : Nat) (l8 : Nat) (l9 : Nat) (ce : Nat) (y1 : Nat) (y2 : Nat) (y3 : Nat) (y4 : Nat) (y5 : Nat) (c9 : Int32) (sz : Nat) : Met l yX17_fails (ws_ yX17_fails cX17_fails 2 (some .int)) ({ frames := 0, cells := 0, slots := 0, locals := 0 }) (va_Pc [.ref h0, .int c9] (pPre z dC dI [(h0, .inr (14, [.ref l1, .ref l2, .ref l3, .ref l4, .ref l5, .ref l6, .ref l7, .ref l8, .ref l9, .ref ce, .null, .int 0, .int 0, .int 0, .int 0, .int 0, .int 0, .int 0, .int 0, .int 0, .int 0, .int 0, .int 0, .long 0, .ref y1, .ref y2, .ref y3, .ref y4, .ref y5, .int 0, .int 0]))] [] sz)) (va_Qi (fun (r : Int32) (_ : Unit) => r = 0) (fun _ t => pPost dC dI (va_A [(h0, .inr (14, [.ref l1, .ref l2, .ref l3, .ref l4, .ref l5, .ref l6, .ref l7, .ref l8, .ref l9, .ref ce, .null, .int 0, .int 0, .int 0, .int 0, .int 0, .int 0, .int 0, .int 0, .int 0, .int 0, .int 0, .int 0, .long 0, .ref y1, .ref y2, .ref y3, .ref y4, .ref y5, .int 0, .int 0]))] sz) [(h0, .inr (14, [.ref l1, .ref l2, .ref l3, .ref l4, .ref l5, .ref l6, .ref l7, .ref l8, .ref l9, .ref ce, .null, .int 0, .int 0, .int c9, .int 0, .int 0, .int 0, .int 0, .int 0, .int 0, .int 0, .int 0, .int 0, .long 0, .ref y1, .ref y2, .ref y3, .ref y4, .ref y5, .int 0, .int 0]))] [] t) (va_A [(h0, .inr (14, [.ref l1, .ref l2, .ref l3, .ref l4, .ref l5, .ref l6, .ref l7, .ref l8, .ref l9, .ref ce, .null, .int 0, .int 0, .int 0, .int 0, .int 0, .int 0, .int 0, .int 0, .int 0, .int 0, .int 0, .int 0, .long 0, .ref y1, .ref y2, .ref y3, .ref y4, .ref y5, .int 0, .int 0]))] sz)) 0 0 (va_A [(h0, .inr (14, [.ref l1, .ref l2, .ref l3, .ref l4, .ref l5, .ref l6, .ref l7, .ref l8, .ref l9, .ref ce, .null, .int 0, .int 0, .int 0, .int 0, .int 0, .int 0, .int 0, .int 0, .int 0, .int 0, .int 0, .int 0, .long 0, .ref y1, .ref y2, .ref y3, .ref y4, .ref y5, .int 0, .int 0]))] sz) := by
  refine Met.ofW (cc := cX17_fails) (maxL := 2) (ret := (some .int)) (by decide) rfl ?_
  intro p e s m args below meth c s₁ B hml hv
  obtain ⟨rfl, hsz, hP, hK, hD0, hE⟩ := hv
  have hx := B.exec
  have hb := B.bytes
  have hr := B.returns
  have hts0 := atoms_spec (ws := ws_ yX17_fails cX17_fails 2 (some .int)) B.pre
  have hts := fun (w : Cond) (h : w ∈ pw) => hts0 w (List.mem_cons_of_mem _ h)
  have hown : s.vm.findClass RX17 = some m.cls := findClass_of_methodNamed B.named
  have hlocks := B.notSynchronized
  subst hsz
  have hD := hD0.self (sz := s.heap.size)
  generalize hAe : va_A [(h0, .inr (14, [.ref l1, .ref l2, .ref l3, .ref l4, .ref l5, .ref l6, .ref l7, .ref l8, .ref l9, .ref ce, .null, .int 0, .int 0, .int 0, .int 0, .int 0, .int 0, .int 0, .int 0, .int 0, .int 0, .int 0, .int 0, .long 0, .ref y1, .ref y2, .ref y3, .ref y4, .ref y5, .int 0, .int 0]))] s.heap.size = A at hD hE ⊢
  have hA : ∀ q : Nat, s.heap.size ≤ q → A q := fun q h => by rw [← hAe]; exact Or.inr h
  have hS : va_S A s.heap s.heap [] := va_S.rf
  have hN := hE.1
  have hP : va_P (dC, dI) pcl [(h0, .inr (14, [.ref l1, .ref l2, .ref l3, .ref l4, .ref l5, .ref l6, .ref l7, .ref l8, .ref l9, .ref ce, .null, .int 0, .int 0, .int 0, .int 0, .int 0, .int 0, .int 0, .int 0, .int 0, .int 0, .int 0, .int 0, .long 0, .ref y1, .ref y2, .ref y3, .ref y4, .ref y5, .int 0, .int 0]))] s.heap := hP
  have hl := lv_entry ([.ref h0, .int c9]) (n := 2) (Nat.le_of_ble_eq_true rfl)
  rw [lg_entry_eq]
  generalize (lg_sl ([.ref h0, .int c9]) ++ List.replicate (2 - (lg_sl ([.ref h0, .int c9])).length) Slot.unset).toArray = ls at hl ⊢
  have hl : lv_has ls 2 [(0, .ref h0), (1, .int c9)] := hl
  obtain ⟨H, hH0⟩ : ∃ H, H = s.heap := ⟨_, rfl⟩
  rw [← hH0] at hP ⊢
  have hS : va_S A s.heap H [] := by rw [hH0]; exact hS
  refine lv_aload_n hx hb dX17_fails_0 rfl (lv_at hl 0 rfl) ?_
  refine lv_iload_n hx hb dX17_fails_1 rfl (lv_at hl 1 rfl) ?_
  refine va_put (D := (dC, dI)) (ci := 14) (v := .int c9) (ty := .int) (C := RX17) (T := TX17) (N := 31) hx hb hts pinX17 tyX17 tyX17_ok nmX17 hown hK hP hD hS 0 rfl rfl 13 (by decide) (hts _ e204) (fun _ h9 => h9) rfl (by decide +kernel) rfl rfl (Nat.le_of_ble_eq_true rfl) dX17_fails_2 (fun H locs hP hD hS => ?_)
  have hP : va_P (dC, dI) pcl [(h0, .inr (14, [.ref l1, .ref l2, .ref l3, .ref l4, .ref l5, .ref l6, .ref l7, .ref l8, .ref l9, .ref ce, .null, .int 0, .int 0, .int c9, .int 0, .int 0, .int 0, .int 0, .int 0, .int 0, .int 0, .int 0, .int 0, .long 0, .ref y1, .ref y2, .ref y3, .ref y4, .ref y5, .int 0, .int 0]))] H := hP
  have hD : va_D A [(h0, .inr (14, [.ref l1, .ref l2, .ref l3, .ref l4, .ref l5, .ref l6, .ref l7, .ref l8, .ref l9, .ref ce, .null, .int 0, .int 0, .int c9, .int 0, .int 0, .int 0, .int 0, .int 0, .int 0, .int 0, .int 0, .int 0, .long 0, .ref y1, .ref y2, .ref y3, .ref y4, .ref y5, .int 0, .int 0]))] := hD
  refine lv_iconst (v := 0) hx hb dX17_fails_5 (by decide) ?_
  have hP9 := hP.sub (ws' := [(h0, .inr (14, [.ref l1, .ref l2, .ref l3, .ref l4, .ref l5, .ref l6, .ref l7, .ref l8, .ref l9, .ref ce, .null, .int 0, .int 0, .int c9, .int 0, .int 0, .int 0, .int 0, .int 0, .int 0, .int 0, .int 0, .int 0, .long 0, .ref y1, .ref y2, .ref y3, .ref y4, .ref y5, .int 0, .int 0]))]) [0] rfl
  have hD9 := hD.sub (ws' := [(h0, .inr (14, [.ref l1, .ref l2, .ref l3, .ref l4, .ref l5, .ref l6, .ref l7, .ref l8, .ref l9, .ref ce, .null, .int 0, .int 0, .int c9, .int 0, .int 0, .int 0, .int 0, .int 0, .int 0, .int 0, .int 0, .int 0, .long 0, .ref y1, .ref y2, .ref y3, .ref y4, .ref y5, .int 0, .int 0]))]) [0] (by decide) rfl
  have hK9 := hK.sub (tys' := []) [] rfl
  refine W.widen (k := 0) (n := 0) (Nat.le_of_ble_eq_true rfl) (Nat.le_of_ble_eq_true rfl) ?_
  exact W.iret (v := 0) hx hb hr (fun t ht hW => ⟨⟨0, (), rfl, rfl, by rw [ht]; exact hP9, va_K.moved hW.alike hK9, hD9⟩, hS.F ht⟩) hS.2.2 dX17_fails_6
set_option maxHeartbeats 4000000 in
set_option maxRecDepth 100000 in
theorem c_X17_tell (l : Launch) (dC : Nat → ClassId) (dI : Nat → Nat → Nat) (z : pG) (h0 : Nat) (l1 : Nat) (l2 : Nat) (l3 : Nat) (l4 : Nat) (l5 : Nat) (l6 : Nat) (l7 : Nat) (l8 : Nat) (l9 : Nat) (ce : Nat) (y1 : Nat) (y2 : Nat) (y3 : Nat) (y4 : Nat) (y5 : Nat) (v9 : Int32) (sz : Nat) : Met l yX17_tell (ws_ yX17_tell cX17_tell 2 (some .int)) ({ frames := 0, cells := 0, slots := 0, locals := 0 }) (va_Pc [.ref h0, .int v9] (pPre z dC dI [(h0, .inr (14, [.ref l1, .ref l2, .ref l3, .ref l4, .ref l5, .ref l6, .ref l7, .ref l8, .ref l9, .ref ce, .null, .int 0, .int 0, .int 0, .int 0, .int 0, .int 0, .int 0, .int 0, .int 0, .int 0, .int 0, .int 0, .long 0, .ref y1, .ref y2, .ref y3, .ref y4, .ref y5, .int 0, .int 0]))] [] sz)) (va_Qi (fun (r : Int32) (_ : Unit) => r = v9) (fun _ t => pPost dC dI (va_A [(h0, .inr (14, [.ref l1, .ref l2, .ref l3, .ref l4, .ref l5, .ref l6, .ref l7, .ref l8, .ref l9, .ref ce, .null, .int 0, .int 0, .int 0, .int 0, .int 0, .int 0, .int 0, .int 0, .int 0, .int 0, .int 0, .int 0, .long 0, .ref y1, .ref y2, .ref y3, .ref y4, .ref y5, .int 0, .int 0]))] sz) [(h0, .inr (14, [.ref l1, .ref l2, .ref l3, .ref l4, .ref l5, .ref l6, .ref l7, .ref l8, .ref l9, .ref ce, .null, .int 0, .int 0, .int 0, .int 0, .int 0, .int 0, .int 0, .int 0, .int 0, .int 0, .int 0, .int 0, .long 0, .ref y1, .ref y2, .ref y3, .ref y4, .ref y5, .int 0, .int 0]))] [] t) (va_A [(h0, .inr (14, [.ref l1, .ref l2, .ref l3, .ref l4, .ref l5, .ref l6, .ref l7, .ref l8, .ref l9, .ref ce, .null, .int 0, .int 0, .int 0, .int 0, .int 0, .int 0, .int 0, .int 0, .int 0, .int 0, .int 0, .int 0, .long 0, .ref y1, .ref y2, .ref y3, .ref y4, .ref y5, .int 0, .int 0]))] sz)) 0 0 (va_A [(h0, .inr (14, [.ref l1, .ref l2, .ref l3, .ref l4, .ref l5, .ref l6, .ref l7, .ref l8, .ref l9, .ref ce, .null, .int 0, .int 0, .int 0, .int 0, .int 0, .int 0, .int 0, .int 0, .int 0, .int 0, .int 0, .int 0, .long 0, .ref y1, .ref y2, .ref y3, .ref y4, .ref y5, .int 0, .int 0]))] sz) := by
  refine Met.ofW (cc := cX17_tell) (maxL := 2) (ret := (some .int)) (by decide) rfl ?_
  intro p e s m args below meth c s₁ B hml hv
  obtain ⟨rfl, hsz, hP, hK, hD0, hE⟩ := hv
  have hx := B.exec
  have hb := B.bytes
  have hr := B.returns
  have hts0 := atoms_spec (ws := ws_ yX17_tell cX17_tell 2 (some .int)) B.pre
  have hts := fun (w : Cond) (h : w ∈ pw) => hts0 w (List.mem_cons_of_mem _ h)
  have hown : s.vm.findClass RX17 = some m.cls := findClass_of_methodNamed B.named
  have hlocks := B.notSynchronized
  subst hsz
  have hD := hD0.self (sz := s.heap.size)
  generalize hAe : va_A [(h0, .inr (14, [.ref l1, .ref l2, .ref l3, .ref l4, .ref l5, .ref l6, .ref l7, .ref l8, .ref l9, .ref ce, .null, .int 0, .int 0, .int 0, .int 0, .int 0, .int 0, .int 0, .int 0, .int 0, .int 0, .int 0, .int 0, .long 0, .ref y1, .ref y2, .ref y3, .ref y4, .ref y5, .int 0, .int 0]))] s.heap.size = A at hD hE ⊢
  have hA : ∀ q : Nat, s.heap.size ≤ q → A q := fun q h => by rw [← hAe]; exact Or.inr h
  have hS : va_S A s.heap s.heap [] := va_S.rf
  have hN := hE.1
  have hP : va_P (dC, dI) pcl [(h0, .inr (14, [.ref l1, .ref l2, .ref l3, .ref l4, .ref l5, .ref l6, .ref l7, .ref l8, .ref l9, .ref ce, .null, .int 0, .int 0, .int 0, .int 0, .int 0, .int 0, .int 0, .int 0, .int 0, .int 0, .int 0, .int 0, .long 0, .ref y1, .ref y2, .ref y3, .ref y4, .ref y5, .int 0, .int 0]))] s.heap := hP
  have hl := lv_entry ([.ref h0, .int v9]) (n := 2) (Nat.le_of_ble_eq_true rfl)
  rw [lg_entry_eq]
  generalize (lg_sl ([.ref h0, .int v9]) ++ List.replicate (2 - (lg_sl ([.ref h0, .int v9])).length) Slot.unset).toArray = ls at hl ⊢
  have hl : lv_has ls 2 [(0, .ref h0), (1, .int v9)] := hl
  obtain ⟨H, hH0⟩ : ∃ H, H = s.heap := ⟨_, rfl⟩
  rw [← hH0] at hP ⊢
  have hS : va_S A s.heap H [] := by rw [hH0]; exact hS
  refine lv_aload_n hx hb dX17_tell_0 rfl (lv_at hl 0 rfl) ?_
  refine lv_iconst (v := 0) hx hb dX17_tell_1 (by decide) ?_
  refine va_put (D := (dC, dI)) (ci := 14) (v := .int 0) (ty := .int) (C := RX17) (T := TX17) (N := 31) hx hb hts pinX17 tyX17 tyX17_ok nmX17 hown hK hP hD hS 0 rfl rfl 13 (by decide) (hts _ e204) (fun _ h9 => h9) rfl (by decide +kernel) rfl rfl (Nat.le_of_ble_eq_true rfl) dX17_tell_2 (fun H locs hP hD hS => ?_)
  have hP : va_P (dC, dI) pcl [(h0, .inr (14, [.ref l1, .ref l2, .ref l3, .ref l4, .ref l5, .ref l6, .ref l7, .ref l8, .ref l9, .ref ce, .null, .int 0, .int 0, .int 0, .int 0, .int 0, .int 0, .int 0, .int 0, .int 0, .int 0, .int 0, .int 0, .long 0, .ref y1, .ref y2, .ref y3, .ref y4, .ref y5, .int 0, .int 0]))] H := hP
  have hD : va_D A [(h0, .inr (14, [.ref l1, .ref l2, .ref l3, .ref l4, .ref l5, .ref l6, .ref l7, .ref l8, .ref l9, .ref ce, .null, .int 0, .int 0, .int 0, .int 0, .int 0, .int 0, .int 0, .int 0, .int 0, .int 0, .int 0, .int 0, .long 0, .ref y1, .ref y2, .ref y3, .ref y4, .ref y5, .int 0, .int 0]))] := hD
  refine lv_iload_n hx hb dX17_tell_5 rfl (lv_at hl 1 rfl) ?_
  have hP9 := hP.sub (ws' := [(h0, .inr (14, [.ref l1, .ref l2, .ref l3, .ref l4, .ref l5, .ref l6, .ref l7, .ref l8, .ref l9, .ref ce, .null, .int 0, .int 0, .int 0, .int 0, .int 0, .int 0, .int 0, .int 0, .int 0, .int 0, .int 0, .int 0, .long 0, .ref y1, .ref y2, .ref y3, .ref y4, .ref y5, .int 0, .int 0]))]) [0] rfl
  have hD9 := hD.sub (ws' := [(h0, .inr (14, [.ref l1, .ref l2, .ref l3, .ref l4, .ref l5, .ref l6, .ref l7, .ref l8, .ref l9, .ref ce, .null, .int 0, .int 0, .int 0, .int 0, .int 0, .int 0, .int 0, .int 0, .int 0, .int 0, .int 0, .int 0, .long 0, .ref y1, .ref y2, .ref y3, .ref y4, .ref y5, .int 0, .int 0]))]) [0] (by decide) rfl
  have hK9 := hK.sub (tys' := []) [] rfl
  refine W.widen (k := 0) (n := 0) (Nat.le_of_ble_eq_true rfl) (Nat.le_of_ble_eq_true rfl) ?_
  exact W.iret (v := v9) hx hb hr (fun t ht hW => ⟨⟨v9, (), rfl, rfl, by rw [ht]; exact hP9, va_K.moved hW.alike hK9, hD9⟩, hS.F ht⟩) hS.2.2 dX17_tell_6
set_option maxHeartbeats 4000000 in
set_option maxRecDepth 100000 in
theorem c_X17_foundIn (l : Launch) (dC : Nat → ClassId) (dI : Nat → Nat → Nat) (z : pG) (h0 : Nat) (l1 : Nat) (l2 : Nat) (l3 : Nat) (l4 : Nat) (l5 : Nat) (l6 : Nat) (l7 : Nat) (l8 : Nat) (l9 : Nat) (ce : Nat) (y1 : Nat) (y2 : Nat) (y3 : Nat) (y4 : Nat) (y5 : Nat) (n : Int32) (w9 : Int32) (sz : Nat) : Met l yX17_foundIn (ws_ yX17_foundIn cX17_foundIn 4 (some .int)) ({ frames := 1, cells := 0, slots := 0, locals := 20 }) (va_Pc [.ref h0, .int n, .int w9] (pPre z dC dI [(h0, .inr (14, [.ref l1, .ref l2, .ref l3, .ref l4, .ref l5, .ref l6, .ref l7, .ref l8, .ref l9, .ref ce, .null, .int 0, .int 0, .int 0, .int 0, .int 0, .int 0, .int 0, .int 0, .int 0, .int 0, .int 0, .int 0, .long 0, .ref y1, .ref y2, .ref y3, .ref y4, .ref y5, .int 0, .int 0])), (l2, .inr (0, [.int 0, .ref z.1, .int 0]))] [] sz)) (va_Qi (fun (r : Int32) (_ : Unit) => r = (-1)) (fun _ t => pPost dC dI (va_A [(h0, .inr (14, [.ref l1, .ref l2, .ref l3, .ref l4, .ref l5, .ref l6, .ref l7, .ref l8, .ref l9, .ref ce, .null, .int 0, .int 0, .int 0, .int 0, .int 0, .int 0, .int 0, .int 0, .int 0, .int 0, .int 0, .int 0, .long 0, .ref y1, .ref y2, .ref y3, .ref y4, .ref y5, .int 0, .int 0])), (l2, .inr (0, [.int 0, .ref z.1, .int 0]))] sz) [(h0, .inr (14, [.ref l1, .ref l2, .ref l3, .ref l4, .ref l5, .ref l6, .ref l7, .ref l8, .ref l9, .ref ce, .null, .int 0, .int 0, .int 0, .int 0, .int 0, .int 0, .int 0, .int 0, .int 0, .int 0, .int 0, .int 0, .long 0, .ref y1, .ref y2, .ref y3, .ref y4, .ref y5, .int 0, .int 0])), (l2, .inr (0, [.int 0, .ref z.1, .int 0]))] [] t) (va_A [(h0, .inr (14, [.ref l1, .ref l2, .ref l3, .ref l4, .ref l5, .ref l6, .ref l7, .ref l8, .ref l9, .ref ce, .null, .int 0, .int 0, .int 0, .int 0, .int 0, .int 0, .int 0, .int 0, .int 0, .int 0, .int 0, .int 0, .long 0, .ref y1, .ref y2, .ref y3, .ref y4, .ref y5, .int 0, .int 0])), (l2, .inr (0, [.int 0, .ref z.1, .int 0]))] sz)) 0 0 (va_A [(h0, .inr (14, [.ref l1, .ref l2, .ref l3, .ref l4, .ref l5, .ref l6, .ref l7, .ref l8, .ref l9, .ref ce, .null, .int 0, .int 0, .int 0, .int 0, .int 0, .int 0, .int 0, .int 0, .int 0, .int 0, .int 0, .int 0, .long 0, .ref y1, .ref y2, .ref y3, .ref y4, .ref y5, .int 0, .int 0])), (l2, .inr (0, [.int 0, .ref z.1, .int 0]))] sz) := by
  refine Met.ofW (cc := cX17_foundIn) (maxL := 4) (ret := (some .int)) (by decide) rfl ?_
  intro p e s m args below meth c s₁ B hml hv
  obtain ⟨rfl, hsz, hP, hK, hD0, hE⟩ := hv
  have hx := B.exec
  have hb := B.bytes
  have hr := B.returns
  have hts0 := atoms_spec (ws := ws_ yX17_foundIn cX17_foundIn 4 (some .int)) B.pre
  have hts := fun (w : Cond) (h : w ∈ pw) => hts0 w (List.mem_cons_of_mem _ h)
  have hown : s.vm.findClass RX17 = some m.cls := findClass_of_methodNamed B.named
  have hlocks := B.notSynchronized
  subst hsz
  have hD := hD0.self (sz := s.heap.size)
  generalize hAe : va_A [(h0, .inr (14, [.ref l1, .ref l2, .ref l3, .ref l4, .ref l5, .ref l6, .ref l7, .ref l8, .ref l9, .ref ce, .null, .int 0, .int 0, .int 0, .int 0, .int 0, .int 0, .int 0, .int 0, .int 0, .int 0, .int 0, .int 0, .long 0, .ref y1, .ref y2, .ref y3, .ref y4, .ref y5, .int 0, .int 0])), (l2, .inr (0, [.int 0, .ref z.1, .int 0]))] s.heap.size = A at hD hE ⊢
  have hA : ∀ q : Nat, s.heap.size ≤ q → A q := fun q h => by rw [← hAe]; exact Or.inr h
  have hS : va_S A s.heap s.heap [] := va_S.rf
  have hN := hE.1
  have hP : va_P (dC, dI) pcl [(h0, .inr (14, [.ref l1, .ref l2, .ref l3, .ref l4, .ref l5, .ref l6, .ref l7, .ref l8, .ref l9, .ref ce, .null, .int 0, .int 0, .int 0, .int 0, .int 0, .int 0, .int 0, .int 0, .int 0, .int 0, .int 0, .int 0, .long 0, .ref y1, .ref y2, .ref y3, .ref y4, .ref y5, .int 0, .int 0])), (l2, .inr (0, [.int 0, .ref z.1, .int 0]))] s.heap := hP
  have hl := lv_entry ([.ref h0, .int n, .int w9]) (n := 4) (Nat.le_of_ble_eq_true rfl)
  rw [lg_entry_eq]
  generalize (lg_sl ([.ref h0, .int n, .int w9]) ++ List.replicate (4 - (lg_sl ([.ref h0, .int n, .int w9])).length) Slot.unset).toArray = ls at hl ⊢
  have hl : lv_has ls 4 [(0, .ref h0), (1, .int n), (2, .int w9)] := hl
  obtain ⟨H, hH0⟩ : ∃ H, H = s.heap := ⟨_, rfl⟩
  rw [← hH0] at hP ⊢
  have hS : va_S A s.heap H [] := by rw [hH0]; exact hS
  refine lv_aload_n hx hb dX17_foundIn_0 rfl (lv_at hl 0 rfl) ?_
  refine va_get (D := (dC, dI)) (ci := 14) (v := .ref l2) (C := RX17) (T := TX17) (N := 31) hx hb hts pinX17 hown hK hP 0 rfl rfl 1 (by decide) (hts _ e190) (fun _ h9 => h9) rfl dX17_foundIn_1 ?_
  have hPc := hP.sub (ws' := [(l2, .inr (0, [.int 0, .ref z.1, .int 0]))]) [1] rfl
  have hDc := hD.sub (ws' := [(l2, .inr (0, [.int 0, .ref z.1, .int 0]))]) [1] (by decide) rfl
  have hKc := hK.sub (tys' := []) [] rfl
  have hFc := va_free (wc := [(l2, .inr (0, [.int 0, .ref z.1, .int 0]))]) hD hS hA [1] rfl
  refine va_calli (va_runV (As := []) (rest := []) ⟨hx, hb, hml, hown, hts⟩ (c_Jx4a65c_size_8abf5 l dC dI z l2 0 z.1 0 H.size) (cwV 0 hts (ws_goodV e205 e206 e208 e185 e207) rfl rfl rfl ⟨rfl, by decide +kernel, by decide +kernel, by decide +kernel⟩ ⟨Nat.le_of_ble_eq_true rfl, Nat.le_of_ble_eq_true rfl⟩) ⟨pPre_blind, va_recv hKc hPc (ci := 0) (q0 := 0) rfl rfl, fun U hU hW => ⟨rfl, pPre_at hPc hKc hDc hE hS hFc U hU hW⟩⟩ rfl rfl hl.1 rfl (lv_room (Nat.le_of_ble_eq_true rfl)) dX17_foundIn_4 ⟨Nat.le_of_ble_eq_true rfl, Nat.le_of_ble_eq_true rfl⟩) hS (fun q _ h => hFc q h) hFc (fun r1 u2 t H1 locs ht hvm hw hB hz1 hk1 hS => ?_)
  obtain ⟨hP1, hK1, hD1⟩ := hB
  rw [ht] at hP1
  have hK1 := va_K.moved hvm.symm hK1
  obtain ⟨hP, hD⟩ := va_join (wr := [(h0, .inr (14, [.ref l1, .ref l2, .ref l3, .ref l4, .ref l5, .ref l6, .ref l7, .ref l8, .ref l9, .ref ce, .null, .int 0, .int 0, .int 0, .int 0, .int 0, .int 0, .int 0, .int 0, .int 0, .int 0, .int 0, .int 0, .long 0, .ref y1, .ref y2, .ref y3, .ref y4, .ref y5, .int 0, .int 0]))]) (w1 := [(l2, .inr (0, [.int 0, .ref z.1, .int 0]))]) hP hD [1] [0] rfl rfl (by decide) (by decide) hk1 hFc hP1 hD1
  have hK := hK.app hK1
  generalize H1 = H at hP hS ⊢
  have hP : va_P (dC, dI) pcl [(h0, .inr (14, [.ref l1, .ref l2, .ref l3, .ref l4, .ref l5, .ref l6, .ref l7, .ref l8, .ref l9, .ref ce, .null, .int 0, .int 0, .int 0, .int 0, .int 0, .int 0, .int 0, .int 0, .int 0, .int 0, .int 0, .int 0, .long 0, .ref y1, .ref y2, .ref y3, .ref y4, .ref y5, .int 0, .int 0])), (l2, .inr (0, [.int 0, .ref z.1, .int 0]))] H := hP
  have hD : va_D A [(h0, .inr (14, [.ref l1, .ref l2, .ref l3, .ref l4, .ref l5, .ref l6, .ref l7, .ref l8, .ref l9, .ref ce, .null, .int 0, .int 0, .int 0, .int 0, .int 0, .int 0, .int 0, .int 0, .int 0, .int 0, .int 0, .int 0, .long 0, .ref y1, .ref y2, .ref y3, .ref y4, .ref y5, .int 0, .int 0])), (l2, .inr (0, [.int 0, .ref z.1, .int 0]))] := hD
  have hK : va_K (dC, dI) pcl [] s := hK
  subst hw
  refine lv_iconst (v := 1) hx hb dX17_foundIn_7 (by decide) ?_
  refine lv_isub hx hb dX17_foundIn_8 ?_
  refine W.eq (g2 := F0 m 9 ls [.int (-1)]) (by rfl) ?_
  refine lv_istore_n (lv' := [(3, .int (-1)), (0, .ref h0), (1, .int n), (2, .int w9)]) hx hb dX17_foundIn_9 rfl hl (by decide) rfl (fun ls hl => ?_)
  refine lv_iload_n hx hb dX17_foundIn_10 rfl (lv_at hl 0 rfl) ?_
  refine lv_if_lt (tgt := 58) hx hb dX17_foundIn_11 (by decide) (fun _ => ?_) (fun h9 => absurd (by decide) h9)
  refine lv_iconst (v := (-1)) hx hb dX17_foundIn_58 (by decide) ?_
  have hP9 := hP.sub (ws' := [(h0, .inr (14, [.ref l1, .ref l2, .ref l3, .ref l4, .ref l5, .ref l6, .ref l7, .ref l8, .ref l9, .ref ce, .null, .int 0, .int 0, .int 0, .int 0, .int 0, .int 0, .int 0, .int 0, .int 0, .int 0, .int 0, .int 0, .long 0, .ref y1, .ref y2, .ref y3, .ref y4, .ref y5, .int 0, .int 0])), (l2, .inr (0, [.int 0, .ref z.1, .int 0]))]) [0, 1] rfl
  have hD9 := hD.sub (ws' := [(h0, .inr (14, [.ref l1, .ref l2, .ref l3, .ref l4, .ref l5, .ref l6, .ref l7, .ref l8, .ref l9, .ref ce, .null, .int 0, .int 0, .int 0, .int 0, .int 0, .int 0, .int 0, .int 0, .int 0, .int 0, .int 0, .int 0, .long 0, .ref y1, .ref y2, .ref y3, .ref y4, .ref y5, .int 0, .int 0])), (l2, .inr (0, [.int 0, .ref z.1, .int 0]))]) [0, 1] (by decide) rfl
  have hK9 := hK.sub (tys' := []) [] rfl
  refine W.widen (k := 0) (n := 0) (Nat.le_of_ble_eq_true rfl) (Nat.le_of_ble_eq_true rfl) ?_
  exact W.iret (v := (-1)) hx hb hr (fun t ht hW => ⟨⟨(-1), (), rfl, rfl, by rw [ht]; exact hP9, va_K.moved hW.alike hK9, hD9⟩, hS.F ht⟩) hS.2.2 dX17_foundIn_59
set_option maxHeartbeats 4000000 in
set_option maxRecDepth 100000 in
theorem c_X17_found (l : Launch) (dC : Nat → ClassId) (dI : Nat → Nat → Nat) (z : pG) (h0 : Nat) (l1 : Nat) (l2 : Nat) (l3 : Nat) (l4 : Nat) (l5 : Nat) (l6 : Nat) (l7 : Nat) (l8 : Nat) (l9 : Nat) (ce : Nat) (y1 : Nat) (y2 : Nat) (y3 : Nat) (y4 : Nat) (y5 : Nat) (n : Int32) (sz : Nat) : Met l yX17_found (ws_ yX17_found cX17_found 3 (some .int)) ({ frames := 2, cells := 0, slots := 0, locals := 43 }) (va_Pc [.ref h0, .int n] (pPre z dC dI [(h0, .inr (14, [.ref l1, .ref l2, .ref l3, .ref l4, .ref l5, .ref l6, .ref l7, .ref l8, .ref l9, .ref ce, .null, .int 0, .int 0, .int 0, .int 0, .int 0, .int 0, .int 0, .int 0, .int 0, .int 0, .int 0, .int 0, .long 0, .ref y1, .ref y2, .ref y3, .ref y4, .ref y5, .int 0, .int 0])), (l2, .inr (0, [.int 0, .ref z.1, .int 0]))] [] sz)) (va_Qi (fun (r : Int32) (_ : Unit) => r = (-1)) (fun _ t => pPost dC dI (va_A [(h0, .inr (14, [.ref l1, .ref l2, .ref l3, .ref l4, .ref l5, .ref l6, .ref l7, .ref l8, .ref l9, .ref ce, .null, .int 0, .int 0, .int 0, .int 0, .int 0, .int 0, .int 0, .int 0, .int 0, .int 0, .int 0, .int 0, .long 0, .ref y1, .ref y2, .ref y3, .ref y4, .ref y5, .int 0, .int 0])), (l2, .inr (0, [.int 0, .ref z.1, .int 0]))] sz) [(h0, .inr (14, [.ref l1, .ref l2, .ref l3, .ref l4, .ref l5, .ref l6, .ref l7, .ref l8, .ref l9, .ref ce, .null, .int 0, .int 0, .int 0, .int 0, .int 0, .int 0, .int 0, .int 0, .int 0, .int 0, .int 0, .int 0, .long 0, .ref y1, .ref y2, .ref y3, .ref y4, .ref y5, .int 0, .int 0])), (l2, .inr (0, [.int 0, .ref z.1, .int 0]))] [] t) (va_A [(h0, .inr (14, [.ref l1, .ref l2, .ref l3, .ref l4, .ref l5, .ref l6, .ref l7, .ref l8, .ref l9, .ref ce, .null, .int 0, .int 0, .int 0, .int 0, .int 0, .int 0, .int 0, .int 0, .int 0, .int 0, .int 0, .int 0, .long 0, .ref y1, .ref y2, .ref y3, .ref y4, .ref y5, .int 0, .int 0])), (l2, .inr (0, [.int 0, .ref z.1, .int 0]))] sz)) 0 0 (va_A [(h0, .inr (14, [.ref l1, .ref l2, .ref l3, .ref l4, .ref l5, .ref l6, .ref l7, .ref l8, .ref l9, .ref ce, .null, .int 0, .int 0, .int 0, .int 0, .int 0, .int 0, .int 0, .int 0, .int 0, .int 0, .int 0, .int 0, .long 0, .ref y1, .ref y2, .ref y3, .ref y4, .ref y5, .int 0, .int 0])), (l2, .inr (0, [.int 0, .ref z.1, .int 0]))] sz) := by
  refine Met.ofW (cc := cX17_found) (maxL := 3) (ret := (some .int)) (by decide) rfl ?_
  intro p e s m args below meth c s₁ B hml hv
  obtain ⟨rfl, hsz, hP, hK, hD0, hE⟩ := hv
  have hx := B.exec
  have hb := B.bytes
  have hr := B.returns
  have hts0 := atoms_spec (ws := ws_ yX17_found cX17_found 3 (some .int)) B.pre
  have hts := fun (w : Cond) (h : w ∈ pw) => hts0 w (List.mem_cons_of_mem _ h)
  have hown : s.vm.findClass RX17 = some m.cls := findClass_of_methodNamed B.named
  have hlocks := B.notSynchronized
  subst hsz
  have hD := hD0.self (sz := s.heap.size)
  generalize hAe : va_A [(h0, .inr (14, [.ref l1, .ref l2, .ref l3, .ref l4, .ref l5, .ref l6, .ref l7, .ref l8, .ref l9, .ref ce, .null, .int 0, .int 0, .int 0, .int 0, .int 0, .int 0, .int 0, .int 0, .int 0, .int 0, .int 0, .int 0, .long 0, .ref y1, .ref y2, .ref y3, .ref y4, .ref y5, .int 0, .int 0])), (l2, .inr (0, [.int 0, .ref z.1, .int 0]))] s.heap.size = A at hD hE ⊢
  have hA : ∀ q : Nat, s.heap.size ≤ q → A q := fun q h => by rw [← hAe]; exact Or.inr h
  have hS : va_S A s.heap s.heap [] := va_S.rf
  have hN := hE.1
  have hP : va_P (dC, dI) pcl [(h0, .inr (14, [.ref l1, .ref l2, .ref l3, .ref l4, .ref l5, .ref l6, .ref l7, .ref l8, .ref l9, .ref ce, .null, .int 0, .int 0, .int 0, .int 0, .int 0, .int 0, .int 0, .int 0, .int 0, .int 0, .int 0, .int 0, .long 0, .ref y1, .ref y2, .ref y3, .ref y4, .ref y5, .int 0, .int 0])), (l2, .inr (0, [.int 0, .ref z.1, .int 0]))] s.heap := hP
  have hl := lv_entry ([.ref h0, .int n]) (n := 3) (Nat.le_of_ble_eq_true rfl)
  rw [lg_entry_eq]
  generalize (lg_sl ([.ref h0, .int n]) ++ List.replicate (3 - (lg_sl ([.ref h0, .int n])).length) Slot.unset).toArray = ls at hl ⊢
  have hl : lv_has ls 3 [(0, .ref h0), (1, .int n)] := hl
  obtain ⟨H, hH0⟩ : ∃ H, H = s.heap := ⟨_, rfl⟩
  rw [← hH0] at hP ⊢
  have hS : va_S A s.heap H [] := by rw [hH0]; exact hS
  refine lv_aload_n hx hb dX17_found_0 rfl (lv_at hl 0 rfl) ?_
  refine lv_iload_n hx hb dX17_found_1 rfl (lv_at hl 1 rfl) ?_
  refine lv_aload_n hx hb dX17_found_2 rfl (lv_at hl 0 rfl) ?_
  refine va_get (D := (dC, dI)) (ci := 14) (v := .int 0) (C := RX17) (T := TX17) (N := 31) hx hb hts pinX17 hown hK hP 0 rfl rfl 16 (by decide) (hts _ e209) (fun _ h9 => h9) rfl dX17_found_3 ?_
  have hPc := hP.sub (ws' := [(h0, .inr (14, [.ref l1, .ref l2, .ref l3, .ref l4, .ref l5, .ref l6, .ref l7, .ref l8, .ref l9, .ref ce, .null, .int 0, .int 0, .int 0, .int 0, .int 0, .int 0, .int 0, .int 0, .int 0, .int 0, .int 0, .int 0, .long 0, .ref y1, .ref y2, .ref y3, .ref y4, .ref y5, .int 0, .int 0])), (l2, .inr (0, [.int 0, .ref z.1, .int 0]))]) [0, 1] rfl
  have hDc := hD.sub (ws' := [(h0, .inr (14, [.ref l1, .ref l2, .ref l3, .ref l4, .ref l5, .ref l6, .ref l7, .ref l8, .ref l9, .ref ce, .null, .int 0, .int 0, .int 0, .int 0, .int 0, .int 0, .int 0, .int 0, .int 0, .int 0, .int 0, .int 0, .long 0, .ref y1, .ref y2, .ref y3, .ref y4, .ref y5, .int 0, .int 0])), (l2, .inr (0, [.int 0, .ref z.1, .int 0]))]) [0, 1] (by decide) rfl
  have hKc := hK.sub (tys' := []) [] rfl
  have hFc := va_free (wc := [(h0, .inr (14, [.ref l1, .ref l2, .ref l3, .ref l4, .ref l5, .ref l6, .ref l7, .ref l8, .ref l9, .ref ce, .null, .int 0, .int 0, .int 0, .int 0, .int 0, .int 0, .int 0, .int 0, .int 0, .int 0, .int 0, .int 0, .long 0, .ref y1, .ref y2, .ref y3, .ref y4, .ref y5, .int 0, .int 0])), (l2, .inr (0, [.int 0, .ref z.1, .int 0]))]) hD hS hA [0, 1] rfl
  refine va_calli (va_runV (As := [.int n, .int 0]) (rest := []) ⟨hx, hb, hml, hown, hts⟩ (c_X17_foundIn l dC dI z h0 l1 l2 l3 l4 l5 l6 l7 l8 l9 ce y1 y2 y3 y4 y5 n 0 H.size) (cwV 2 hts (ws_goodV e210 e211 e214 e212 e213) rfl rfl rfl ⟨rfl, by decide +kernel, by decide +kernel, by decide +kernel⟩ ⟨Nat.le_of_ble_eq_true rfl, Nat.le_of_ble_eq_true rfl⟩) ⟨pPre_blind, va_recv hKc hPc (ci := 14) (q0 := 0) rfl rfl, fun U hU hW => ⟨rfl, pPre_at hPc hKc hDc hE hS hFc U hU hW⟩⟩ rfl rfl hl.1 rfl (lv_room (Nat.le_of_ble_eq_true rfl)) dX17_found_6 ⟨Nat.le_of_ble_eq_true rfl, Nat.le_of_ble_eq_true rfl⟩) hS (fun q _ h => hFc q h) hFc (fun r1 u2 t H1 locs ht hvm hw hB hz1 hk1 hS => ?_)
  obtain ⟨hP1, hK1, hD1⟩ := hB
  rw [ht] at hP1
  have hK1 := va_K.moved hvm.symm hK1
  obtain ⟨hP, hD⟩ := va_join (wr := []) (w1 := [(h0, .inr (14, [.ref l1, .ref l2, .ref l3, .ref l4, .ref l5, .ref l6, .ref l7, .ref l8, .ref l9, .ref ce, .null, .int 0, .int 0, .int 0, .int 0, .int 0, .int 0, .int 0, .int 0, .int 0, .int 0, .int 0, .int 0, .long 0, .ref y1, .ref y2, .ref y3, .ref y4, .ref y5, .int 0, .int 0])), (l2, .inr (0, [.int 0, .ref z.1, .int 0]))]) hP hD [0, 1] [] rfl rfl (by decide) (by decide) hk1 hFc hP1 hD1
  have hK := hK.app hK1
  generalize H1 = H at hP hS ⊢
  have hP : va_P (dC, dI) pcl [(h0, .inr (14, [.ref l1, .ref l2, .ref l3, .ref l4, .ref l5, .ref l6, .ref l7, .ref l8, .ref l9, .ref ce, .null, .int 0, .int 0, .int 0, .int 0, .int 0, .int 0, .int 0, .int 0, .int 0, .int 0, .int 0, .int 0, .long 0, .ref y1, .ref y2, .ref y3, .ref y4, .ref y5, .int 0, .int 0])), (l2, .inr (0, [.int 0, .ref z.1, .int 0]))] H := hP
  have hD : va_D A [(h0, .inr (14, [.ref l1, .ref l2, .ref l3, .ref l4, .ref l5, .ref l6, .ref l7, .ref l8, .ref l9, .ref ce, .null, .int 0, .int 0, .int 0, .int 0, .int 0, .int 0, .int 0, .int 0, .int 0, .int 0, .int 0, .int 0, .long 0, .ref y1, .ref y2, .ref y3, .ref y4, .ref y5, .int 0, .int 0])), (l2, .inr (0, [.int 0, .ref z.1, .int 0]))] := hD
  have hK : va_K (dC, dI) pcl [] s := hK
  subst hw
  refine lv_istore_n (lv' := [(2, .int (-1)), (0, .ref h0), (1, .int n)]) hx hb dX17_found_9 rfl hl (by decide) rfl (fun ls hl => ?_)
  refine lv_iload_n hx hb dX17_found_10 rfl (lv_at hl 0 rfl) ?_
  refine lv_iconst (v := (-1)) hx hb dX17_found_11 (by decide) ?_
  refine lv_icmp_ne (tgt := 24) hx hb dX17_found_12 (by decide) (fun h9 => absurd (by decide) h9) (fun _ => ?_)
  refine lv_aload_n hx hb dX17_found_15 rfl (lv_at hl 1 rfl) ?_
  refine lv_iload_n hx hb dX17_found_16 rfl (lv_at hl 2 rfl) ?_
  refine lv_iconst (v := 0) hx hb dX17_found_17 (by decide) ?_
  have hPc := hP.sub (ws' := [(h0, .inr (14, [.ref l1, .ref l2, .ref l3, .ref l4, .ref l5, .ref l6, .ref l7, .ref l8, .ref l9, .ref ce, .null, .int 0, .int 0, .int 0, .int 0, .int 0, .int 0, .int 0, .int 0, .int 0, .int 0, .int 0, .int 0, .long 0, .ref y1, .ref y2, .ref y3, .ref y4, .ref y5, .int 0, .int 0])), (l2, .inr (0, [.int 0, .ref z.1, .int 0]))]) [0, 1] rfl
  have hDc := hD.sub (ws' := [(h0, .inr (14, [.ref l1, .ref l2, .ref l3, .ref l4, .ref l5, .ref l6, .ref l7, .ref l8, .ref l9, .ref ce, .null, .int 0, .int 0, .int 0, .int 0, .int 0, .int 0, .int 0, .int 0, .int 0, .int 0, .int 0, .int 0, .long 0, .ref y1, .ref y2, .ref y3, .ref y4, .ref y5, .int 0, .int 0])), (l2, .inr (0, [.int 0, .ref z.1, .int 0]))]) [0, 1] (by decide) rfl
  have hKc := hK.sub (tys' := []) [] rfl
  have hFc := va_free (wc := [(h0, .inr (14, [.ref l1, .ref l2, .ref l3, .ref l4, .ref l5, .ref l6, .ref l7, .ref l8, .ref l9, .ref ce, .null, .int 0, .int 0, .int 0, .int 0, .int 0, .int 0, .int 0, .int 0, .int 0, .int 0, .int 0, .int 0, .long 0, .ref y1, .ref y2, .ref y3, .ref y4, .ref y5, .int 0, .int 0])), (l2, .inr (0, [.int 0, .ref z.1, .int 0]))]) hD hS hA [0, 1] rfl
  refine va_calli (va_runV (As := [.int n, .int 0]) (rest := []) ⟨hx, hb, hml, hown, hts⟩ (c_X17_foundIn l dC dI z h0 l1 l2 l3 l4 l5 l6 l7 l8 l9 ce y1 y2 y3 y4 y5 n 0 H.size) (cwV 2 hts (ws_goodV e210 e211 e214 e212 e213) rfl rfl rfl ⟨rfl, by decide +kernel, by decide +kernel, by decide +kernel⟩ ⟨Nat.le_of_ble_eq_true rfl, Nat.le_of_ble_eq_true rfl⟩) ⟨pPre_blind, va_recv hKc hPc (ci := 14) (q0 := 0) rfl rfl, fun U hU hW => ⟨rfl, pPre_at hPc hKc hDc hE hS hFc U hU hW⟩⟩ rfl rfl hl.1 rfl (lv_room (Nat.le_of_ble_eq_true rfl)) dX17_found_18 ⟨Nat.le_of_ble_eq_true rfl, Nat.le_of_ble_eq_true rfl⟩) hS (fun q _ h => hFc q h) hFc (fun r3 u4 t H1 locs ht hvm hw hB hz1 hk1 hS => ?_)
  obtain ⟨hP1, hK1, hD1⟩ := hB
  rw [ht] at hP1
  have hK1 := va_K.moved hvm.symm hK1
  obtain ⟨hP, hD⟩ := va_join (wr := []) (w1 := [(h0, .inr (14, [.ref l1, .ref l2, .ref l3, .ref l4, .ref l5, .ref l6, .ref l7, .ref l8, .ref l9, .ref ce, .null, .int 0, .int 0, .int 0, .int 0, .int 0, .int 0, .int 0, .int 0, .int 0, .int 0, .int 0, .int 0, .long 0, .ref y1, .ref y2, .ref y3, .ref y4, .ref y5, .int 0, .int 0])), (l2, .inr (0, [.int 0, .ref z.1, .int 0]))]) hP hD [0, 1] [] rfl rfl (by decide) (by decide) hk1 hFc hP1 hD1
  have hK := hK.app hK1
  generalize H1 = H at hP hS ⊢
  have hP : va_P (dC, dI) pcl [(h0, .inr (14, [.ref l1, .ref l2, .ref l3, .ref l4, .ref l5, .ref l6, .ref l7, .ref l8, .ref l9, .ref ce, .null, .int 0, .int 0, .int 0, .int 0, .int 0, .int 0, .int 0, .int 0, .int 0, .int 0, .int 0, .int 0, .long 0, .ref y1, .ref y2, .ref y3, .ref y4, .ref y5, .int 0, .int 0])), (l2, .inr (0, [.int 0, .ref z.1, .int 0]))] H := hP
  have hD : va_D A [(h0, .inr (14, [.ref l1, .ref l2, .ref l3, .ref l4, .ref l5, .ref l6, .ref l7, .ref l8, .ref l9, .ref ce, .null, .int 0, .int 0, .int 0, .int 0, .int 0, .int 0, .int 0, .int 0, .int 0, .int 0, .int 0, .int 0, .long 0, .ref y1, .ref y2, .ref y3, .ref y4, .ref y5, .int 0, .int 0])), (l2, .inr (0, [.int 0, .ref z.1, .int 0]))] := hD
  have hK : va_K (dC, dI) pcl [] s := hK
  subst hw
  refine lv_goto (tgt := 25) hx hb dX17_found_21 (by decide) ?_
  have hP9 := hP.sub (ws' := [(h0, .inr (14, [.ref l1, .ref l2, .ref l3, .ref l4, .ref l5, .ref l6, .ref l7, .ref l8, .ref l9, .ref ce, .null, .int 0, .int 0, .int 0, .int 0, .int 0, .int 0, .int 0, .int 0, .int 0, .int 0, .int 0, .int 0, .long 0, .ref y1, .ref y2, .ref y3, .ref y4, .ref y5, .int 0, .int 0])), (l2, .inr (0, [.int 0, .ref z.1, .int 0]))]) [0, 1] rfl
  have hD9 := hD.sub (ws' := [(h0, .inr (14, [.ref l1, .ref l2, .ref l3, .ref l4, .ref l5, .ref l6, .ref l7, .ref l8, .ref l9, .ref ce, .null, .int 0, .int 0, .int 0, .int 0, .int 0, .int 0, .int 0, .int 0, .int 0, .int 0, .int 0, .int 0, .long 0, .ref y1, .ref y2, .ref y3, .ref y4, .ref y5, .int 0, .int 0])), (l2, .inr (0, [.int 0, .ref z.1, .int 0]))]) [0, 1] (by decide) rfl
  have hK9 := hK.sub (tys' := []) [] rfl
  refine W.widen (k := 0) (n := 0) (Nat.le_of_ble_eq_true rfl) (Nat.le_of_ble_eq_true rfl) ?_
  exact W.iret (v := (-1)) hx hb hr (fun t ht hW => ⟨⟨(-1), (), rfl, rfl, by rw [ht]; exact hP9, va_K.moved hW.alike hK9, hD9⟩, hS.F ht⟩) hS.2.2 dX17_found_25
set_option maxHeartbeats 4000000 in
set_option maxRecDepth 100000 in
theorem c_X17_puts_119 (l : Launch) (dC : Nat → ClassId) (dI : Nat → Nat → Nat) (z : pG) (h0 : Nat) (l1 : Nat) (l2 : Nat) (l3 : Nat) (l4 : Nat) (l5 : Nat) (l6 : Nat) (l7 : Nat) (l8 : Nat) (l9 : Nat) (ce : Nat) (y1 : Nat) (y2 : Nat) (y3 : Nat) (y4 : Nat) (y5 : Nat) (n : Int32) (sz : Nat) : Met l yX17_puts (ws_ yX17_puts cX17_puts 3 (some .int)) ({ frames := 5, cells := 2, slots := 12, locals := 101 }) (va_Pc [.ref h0, .int 119, .int n] (pPre z dC dI [(h0, .inr (14, [.ref l1, .ref l2, .ref l3, .ref l4, .ref l5, .ref l6, .ref l7, .ref l8, .ref l9, .ref ce, .null, .int 0, .int 0, .int 0, .int 0, .int 0, .int 0, .int 0, .int 0, .int 0, .int 0, .int 0, .int 0, .long 0, .ref y1, .ref y2, .ref y3, .ref y4, .ref y5, .int 0, .int 0])), (l1, .inr (0, [.int 0, .ref z.1, .int 0]))] [] sz)) (va_Qi (fun (r : Int32) (_ : Unit) => r = 1) (fun _ t => pPost dC dI (va_A [(h0, .inr (14, [.ref l1, .ref l2, .ref l3, .ref l4, .ref l5, .ref l6, .ref l7, .ref l8, .ref l9, .ref ce, .null, .int 0, .int 0, .int 0, .int 0, .int 0, .int 0, .int 0, .int 0, .int 0, .int 0, .int 0, .int 0, .long 0, .ref y1, .ref y2, .ref y3, .ref y4, .ref y5, .int 0, .int 0])), (l1, .inr (0, [.int 0, .ref z.1, .int 0]))] sz) [(h0, .inr (14, [.ref l1, .ref l2, .ref l3, .ref l4, .ref l5, .ref l6, .ref l7, .ref l8, .ref l9, .ref ce, .null, .int 0, .int 0, .int 0, .int 0, .int 0, .int 0, .int 0, .int 0, .int 0, .int 0, .int 0, .int 0, .long 0, .ref y1, .ref y2, .ref y3, .ref y4, .ref y5, .int 0, .int 0]))] [] t) (va_A [(h0, .inr (14, [.ref l1, .ref l2, .ref l3, .ref l4, .ref l5, .ref l6, .ref l7, .ref l8, .ref l9, .ref ce, .null, .int 0, .int 0, .int 0, .int 0, .int 0, .int 0, .int 0, .int 0, .int 0, .int 0, .int 0, .int 0, .long 0, .ref y1, .ref y2, .ref y3, .ref y4, .ref y5, .int 0, .int 0])), (l1, .inr (0, [.int 0, .ref z.1, .int 0]))] sz)) 2 12 (va_A [(h0, .inr (14, [.ref l1, .ref l2, .ref l3, .ref l4, .ref l5, .ref l6, .ref l7, .ref l8, .ref l9, .ref ce, .null, .int 0, .int 0, .int 0, .int 0, .int 0, .int 0, .int 0, .int 0, .int 0, .int 0, .int 0, .int 0, .long 0, .ref y1, .ref y2, .ref y3, .ref y4, .ref y5, .int 0, .int 0])), (l1, .inr (0, [.int 0, .ref z.1, .int 0]))] sz) := by
  refine Met.ofW (cc := cX17_puts) (maxL := 3) (ret := (some .int)) (by decide) rfl ?_
  intro p e s m args below meth c s₁ B hml hv
  obtain ⟨rfl, hsz, hP, hK, hD0, hE⟩ := hv
  have hx := B.exec
  have hb := B.bytes
  have hr := B.returns
  have hts0 := atoms_spec (ws := ws_ yX17_puts cX17_puts 3 (some .int)) B.pre
  have hts := fun (w : Cond) (h : w ∈ pw) => hts0 w (List.mem_cons_of_mem _ h)
  have hown : s.vm.findClass RX17 = some m.cls := findClass_of_methodNamed B.named
  have hlocks := B.notSynchronized
  subst hsz
  have hD := hD0.self (sz := s.heap.size)
  generalize hAe : va_A [(h0, .inr (14, [.ref l1, .ref l2, .ref l3, .ref l4, .ref l5, .ref l6, .ref l7, .ref l8, .ref l9, .ref ce, .null, .int 0, .int 0, .int 0, .int 0, .int 0, .int 0, .int 0, .int 0, .int 0, .int 0, .int 0, .int 0, .long 0, .ref y1, .ref y2, .ref y3, .ref y4, .ref y5, .int 0, .int 0])), (l1, .inr (0, [.int 0, .ref z.1, .int 0]))] s.heap.size = A at hD hE ⊢
  have hA : ∀ q : Nat, s.heap.size ≤ q → A q := fun q h => by rw [← hAe]; exact Or.inr h
  have hS : va_S A s.heap s.heap [] := va_S.rf
  have hN := hE.1
  have hP : va_P (dC, dI) pcl [(h0, .inr (14, [.ref l1, .ref l2, .ref l3, .ref l4, .ref l5, .ref l6, .ref l7, .ref l8, .ref l9, .ref ce, .null, .int 0, .int 0, .int 0, .int 0, .int 0, .int 0, .int 0, .int 0, .int 0, .int 0, .int 0, .int 0, .long 0, .ref y1, .ref y2, .ref y3, .ref y4, .ref y5, .int 0, .int 0])), (l1, .inr (0, [.int 0, .ref z.1, .int 0]))] s.heap := hP
  have hl := lv_entry ([.ref h0, .int 119, .int n]) (n := 3) (Nat.le_of_ble_eq_true rfl)
  rw [lg_entry_eq]
  generalize (lg_sl ([.ref h0, .int 119, .int n]) ++ List.replicate (3 - (lg_sl ([.ref h0, .int 119, .int n])).length) Slot.unset).toArray = ls at hl ⊢
  have hl : lv_has ls 3 [(0, .ref h0), (1, .int 119), (2, .int n)] := hl
  obtain ⟨H, hH0⟩ : ∃ H, H = s.heap := ⟨_, rfl⟩
  rw [← hH0] at hP ⊢
  have hS : va_S A s.heap H [] := by rw [hH0]; exact hS
  refine lv_aload_n hx hb dX17_puts_0 rfl (lv_at hl 0 rfl) ?_
  refine va_get (D := (dC, dI)) (ci := 14) (v := .ref l1) (C := RX17) (T := TX17) (N := 31) hx hb hts pinX17 hown hK hP 0 rfl rfl 0 (by decide) (hts _ e189) (fun _ h9 => h9) rfl dX17_puts_1 ?_
  have hPc := hP.sub (ws' := [(l1, .inr (0, [.int 0, .ref z.1, .int 0]))]) [1] rfl
  have hDc := hD.sub (ws' := [(l1, .inr (0, [.int 0, .ref z.1, .int 0]))]) [1] (by decide) rfl
  have hKc := hK.sub (tys' := []) [] rfl
  have hFc := va_free (wc := [(l1, .inr (0, [.int 0, .ref z.1, .int 0]))]) hD hS hA [1] rfl
  refine va_calli (va_runV (As := []) (rest := []) ⟨hx, hb, hml, hown, hts⟩ (c_Jx4a65c_size_8abf5 l dC dI z l1 0 z.1 0 H.size) (cwV 0 hts (ws_goodV e205 e206 e208 e185 e207) rfl rfl rfl ⟨rfl, by decide +kernel, by decide +kernel, by decide +kernel⟩ ⟨Nat.le_of_ble_eq_true rfl, Nat.le_of_ble_eq_true rfl⟩) ⟨pPre_blind, va_recv hKc hPc (ci := 0) (q0 := 0) rfl rfl, fun U hU hW => ⟨rfl, pPre_at hPc hKc hDc hE hS hFc U hU hW⟩⟩ rfl rfl hl.1 rfl (lv_room (Nat.le_of_ble_eq_true rfl)) dX17_puts_4 ⟨Nat.le_of_ble_eq_true rfl, Nat.le_of_ble_eq_true rfl⟩) hS (fun q _ h => hFc q h) hFc (fun r1 u2 t H1 locs ht hvm hw hB hz1 hk1 hS => ?_)
  obtain ⟨hP1, hK1, hD1⟩ := hB
  rw [ht] at hP1
  have hK1 := va_K.moved hvm.symm hK1
  obtain ⟨hP, hD⟩ := va_join (wr := [(h0, .inr (14, [.ref l1, .ref l2, .ref l3, .ref l4, .ref l5, .ref l6, .ref l7, .ref l8, .ref l9, .ref ce, .null, .int 0, .int 0, .int 0, .int 0, .int 0, .int 0, .int 0, .int 0, .int 0, .int 0, .int 0, .int 0, .long 0, .ref y1, .ref y2, .ref y3, .ref y4, .ref y5, .int 0, .int 0]))]) (w1 := [(l1, .inr (0, [.int 0, .ref z.1, .int 0]))]) hP hD [1] [0] rfl rfl (by decide) (by decide) hk1 hFc hP1 hD1
  have hK := hK.app hK1
  generalize H1 = H at hP hS ⊢
  have hP : va_P (dC, dI) pcl [(h0, .inr (14, [.ref l1, .ref l2, .ref l3, .ref l4, .ref l5, .ref l6, .ref l7, .ref l8, .ref l9, .ref ce, .null, .int 0, .int 0, .int 0, .int 0, .int 0, .int 0, .int 0, .int 0, .int 0, .int 0, .int 0, .int 0, .long 0, .ref y1, .ref y2, .ref y3, .ref y4, .ref y5, .int 0, .int 0])), (l1, .inr (0, [.int 0, .ref z.1, .int 0]))] H := hP
  have hD : va_D A [(h0, .inr (14, [.ref l1, .ref l2, .ref l3, .ref l4, .ref l5, .ref l6, .ref l7, .ref l8, .ref l9, .ref ce, .null, .int 0, .int 0, .int 0, .int 0, .int 0, .int 0, .int 0, .int 0, .int 0, .int 0, .int 0, .int 0, .long 0, .ref y1, .ref y2, .ref y3, .ref y4, .ref y5, .int 0, .int 0])), (l1, .inr (0, [.int 0, .ref z.1, .int 0]))] := hD
  have hK : va_K (dC, dI) pcl [] s := hK
  subst hw
  refine lv_bipush (v := 40) hx hb dX17_puts_7 (by decide) ?_
  refine lv_icmp_ne (tgt := 28) hx hb dX17_puts_9 (by decide) (fun _ => ?_) (fun h9 => absurd h9 (by decide))
  refine lv_aload_n hx hb dX17_puts_28 rfl (lv_at hl 0 rfl) ?_
  refine va_get (D := (dC, dI)) (ci := 14) (v := .ref l1) (C := RX17) (T := TX17) (N := 31) hx hb hts pinX17 hown hK hP 0 rfl rfl 0 (by decide) (hts _ e189) (fun _ h9 => h9) rfl dX17_puts_29 ?_
  refine va_new (ci := 13) (fs := [.int 0, .int 0]) (C := RX14) (T := TX14) (N := 2) hx hb hts pinX14 tyX14 tyX14_ok hown (hts _ e219) (hts _ e220) (hts _ e221) hK hP hD hS hA rfl (fun j hj => by rcases (show j = 0 ∨ j = 1 by omega) with rfl | rfl <;> rfl) (Nat.le_of_ble_eq_true rfl) (Nat.le_of_ble_eq_true rfl) dX17_puts_32 (fun q3 H hP hD hS => ?_)
  have hP : va_P (dC, dI) pcl [(h0, .inr (14, [.ref l1, .ref l2, .ref l3, .ref l4, .ref l5, .ref l6, .ref l7, .ref l8, .ref l9, .ref ce, .null, .int 0, .int 0, .int 0, .int 0, .int 0, .int 0, .int 0, .int 0, .int 0, .int 0, .int 0, .int 0, .long 0, .ref y1, .ref y2, .ref y3, .ref y4, .ref y5, .int 0, .int 0])), (l1, .inr (0, [.int 0, .ref z.1, .int 0])), (q3, .inr (13, [.int 0, .int 0]))] H := hP
  have hD : va_D A [(h0, .inr (14, [.ref l1, .ref l2, .ref l3, .ref l4, .ref l5, .ref l6, .ref l7, .ref l8, .ref l9, .ref ce, .null, .int 0, .int 0, .int 0, .int 0, .int 0, .int 0, .int 0, .int 0, .int 0, .int 0, .int 0, .int 0, .long 0, .ref y1, .ref y2, .ref y3, .ref y4, .ref y5, .int 0, .int 0])), (l1, .inr (0, [.int 0, .ref z.1, .int 0])), (q3, .inr (13, [.int 0, .int 0]))] := hD
  refine W.widen (k := 1) (n := 2) (Nat.le_of_ble_eq_true rfl) (Nat.le_of_ble_eq_true rfl) ?_
  refine lv_dup hx hb dX17_puts_35 rfl ?_
  refine lv_iload_n hx hb dX17_puts_36 rfl (lv_at hl 1 rfl) ?_
  refine lv_iload_n hx hb dX17_puts_37 rfl (lv_at hl 2 rfl) ?_
  have hPc := hP.sub (ws' := [(q3, .inr (13, [.int 0, .int 0]))]) [2] rfl
  have hDc := hD.sub (ws' := [(q3, .inr (13, [.int 0, .int 0]))]) [2] (by decide) rfl
  have hKc := hK.sub (tys' := []) [] rfl
  have hFc := va_free (wc := [(q3, .inr (13, [.int 0, .int 0]))]) hD hS hA [2] rfl
  refine va_callv (va_runI (As := [.int 119, .int n]) (rest := [.ref q3, .ref l1]) ⟨hx, hb, hml, hown, hts⟩ (c_X14_init_119 l dC dI z q3 n H.size) (cwI 2 hts (ws_good e224) rfl rfl rfl (hts _ e221) (hts _ e222) (hts _ e223) rfl ⟨by decide +kernel, by decide +kernel, by decide +kernel⟩ ⟨Nat.le_of_ble_eq_true rfl, Nat.le_of_ble_eq_true rfl⟩) ⟨pPre_blind, fun U hU hW => ⟨rfl, pPre_at hPc hKc hDc hE hS hFc U hU hW⟩⟩ rfl rfl hl.1 rfl (lv_room (Nat.le_of_ble_eq_true rfl)) dX17_puts_38 ⟨Nat.le_of_ble_eq_true rfl, Nat.le_of_ble_eq_true rfl⟩) hS (fun q _ h => hFc q h) hFc (fun u5 t H1 locs ht hvm hw hB hz1 hk1 hS => ?_)
  obtain ⟨hP1, hK1, hD1⟩ := hB
  rw [ht] at hP1
  have hK1 := va_K.moved hvm.symm hK1
  obtain ⟨hP, hD⟩ := va_join (wr := [(h0, .inr (14, [.ref l1, .ref l2, .ref l3, .ref l4, .ref l5, .ref l6, .ref l7, .ref l8, .ref l9, .ref ce, .null, .int 0, .int 0, .int 0, .int 0, .int 0, .int 0, .int 0, .int 0, .int 0, .int 0, .int 0, .int 0, .long 0, .ref y1, .ref y2, .ref y3, .ref y4, .ref y5, .int 0, .int 0])), (l1, .inr (0, [.int 0, .ref z.1, .int 0]))]) (w1 := [(q3, .inr (13, [.int 119, .int n]))]) hP hD [2] [0, 1] rfl rfl (by decide) (by decide) hk1 hFc hP1 hD1
  have hK := hK.app hK1
  generalize H1 = H at hP hS ⊢
  have hP : va_P (dC, dI) pcl [(h0, .inr (14, [.ref l1, .ref l2, .ref l3, .ref l4, .ref l5, .ref l6, .ref l7, .ref l8, .ref l9, .ref ce, .null, .int 0, .int 0, .int 0, .int 0, .int 0, .int 0, .int 0, .int 0, .int 0, .int 0, .int 0, .int 0, .long 0, .ref y1, .ref y2, .ref y3, .ref y4, .ref y5, .int 0, .int 0])), (l1, .inr (0, [.int 0, .ref z.1, .int 0])), (q3, .inr (13, [.int 119, .int n]))] H := hP
  have hD : va_D A [(h0, .inr (14, [.ref l1, .ref l2, .ref l3, .ref l4, .ref l5, .ref l6, .ref l7, .ref l8, .ref l9, .ref ce, .null, .int 0, .int 0, .int 0, .int 0, .int 0, .int 0, .int 0, .int 0, .int 0, .int 0, .int 0, .int 0, .long 0, .ref y1, .ref y2, .ref y3, .ref y4, .ref y5, .int 0, .int 0])), (l1, .inr (0, [.int 0, .ref z.1, .int 0])), (q3, .inr (13, [.int 119, .int n]))] := hD
  have hK : va_K (dC, dI) pcl [] s := hK
  have hPc := hP.sub (ws' := [(l1, .inr (0, [.int 0, .ref z.1, .int 0])), (q3, .inr (13, [.int 119, .int n]))]) [1, 2] rfl
  have hDc := hD.sub (ws' := [(l1, .inr (0, [.int 0, .ref z.1, .int 0])), (q3, .inr (13, [.int 119, .int n]))]) [1, 2] (by decide) rfl
  have hKc := hK.sub (tys' := []) [] rfl
  have hFc := va_free (wc := [(l1, .inr (0, [.int 0, .ref z.1, .int 0])), (q3, .inr (13, [.int 119, .int n]))]) hD hS hA [1, 2] rfl
  refine va_calli (va_runV (As := [.ref q3]) (rest := []) ⟨hx, hb, hml, hown, hts⟩ (c_Jx4a65c_add_9ea2d l dC dI z l1 q3 119 n H.size) (cwV 1 hts (ws_goodV e225 e226 e228 e185 e227) rfl rfl rfl ⟨rfl, by decide +kernel, by decide +kernel, by decide +kernel⟩ ⟨Nat.le_of_ble_eq_true rfl, Nat.le_of_ble_eq_true rfl⟩) ⟨pPre_blind, va_recv hKc hPc (ci := 0) (q0 := 0) rfl rfl, fun U hU hW => ⟨rfl, pPre_at hPc hKc hDc hE hS hFc U hU hW⟩⟩ rfl rfl hl.1 rfl (lv_room (Nat.le_of_ble_eq_true rfl)) dX17_puts_41 ⟨Nat.le_of_ble_eq_true rfl, Nat.le_of_ble_eq_true rfl⟩) hS (fun q _ h => hFc q h) hFc (fun r6 u8 t H1 locs ht hvm hw hB hz1 hk1 hS => ?_)
  obtain ⟨q7, hP1, hK1, hD1⟩ := hB
  rw [ht] at hP1
  have hK1 := va_K.moved hvm.symm hK1
  obtain ⟨hP, hD⟩ := va_join (wr := [(h0, .inr (14, [.ref l1, .ref l2, .ref l3, .ref l4, .ref l5, .ref l6, .ref l7, .ref l8, .ref l9, .ref ce, .null, .int 0, .int 0, .int 0, .int 0, .int 0, .int 0, .int 0, .int 0, .int 0, .int 0, .int 0, .int 0, .long 0, .ref y1, .ref y2, .ref y3, .ref y4, .ref y5, .int 0, .int 0]))]) (w1 := [(l1, .inr (0, [.int 1, .ref q7, .int 1])), (q3, .inr (13, [.int 119, .int n]))]) hP hD [1, 2] [0] rfl rfl (by decide) (by decide) hk1 hFc hP1 hD1
  have hK := hK.app hK1
  generalize H1 = H at hP hS ⊢
  have hP : va_P (dC, dI) pcl [(h0, .inr (14, [.ref l1, .ref l2, .ref l3, .ref l4, .ref l5, .ref l6, .ref l7, .ref l8, .ref l9, .ref ce, .null, .int 0, .int 0, .int 0, .int 0, .int 0, .int 0, .int 0, .int 0, .int 0, .int 0, .int 0, .int 0, .long 0, .ref y1, .ref y2, .ref y3, .ref y4, .ref y5, .int 0, .int 0])), (l1, .inr (0, [.int 1, .ref q7, .int 1])), (q3, .inr (13, [.int 119, .int n]))] H := hP
  have hD : va_D A [(h0, .inr (14, [.ref l1, .ref l2, .ref l3, .ref l4, .ref l5, .ref l6, .ref l7, .ref l8, .ref l9, .ref ce, .null, .int 0, .int 0, .int 0, .int 0, .int 0, .int 0, .int 0, .int 0, .int 0, .int 0, .int 0, .int 0, .long 0, .ref y1, .ref y2, .ref y3, .ref y4, .ref y5, .int 0, .int 0])), (l1, .inr (0, [.int 1, .ref q7, .int 1])), (q3, .inr (13, [.int 119, .int n]))] := hD
  have hK : va_K (dC, dI) pcl [] s := hK
  refine W.widen (k := 2) (n := 12) (Nat.le_of_ble_eq_true rfl) (Nat.le_of_ble_eq_true rfl) ?_
  subst hw
  refine lv_pop hx hb dX17_puts_44 rfl ?_
  refine lv_aload_n hx hb dX17_puts_45 rfl (lv_at hl 0 rfl) ?_
  refine lv_aload_n hx hb dX17_puts_46 rfl (lv_at hl 0 rfl) ?_
  refine va_get (D := (dC, dI)) (ci := 14) (v := .ref l1) (C := RX17) (T := TX17) (N := 31) hx hb hts pinX17 hown hK hP 0 rfl rfl 0 (by decide) (hts _ e189) (fun _ h9 => h9) rfl dX17_puts_47 ?_
  have hPc := hP.sub (ws' := [(l1, .inr (0, [.int 1, .ref q7, .int 1]))]) [1] rfl
  have hDc := hD.sub (ws' := [(l1, .inr (0, [.int 1, .ref q7, .int 1]))]) [1] (by decide) rfl
  have hKc := hK.sub (tys' := []) [] rfl
  have hFc := va_free (wc := [(l1, .inr (0, [.int 1, .ref q7, .int 1]))]) hD hS hA [1] rfl
  refine va_calli (va_runV (As := []) (rest := [.ref h0]) ⟨hx, hb, hml, hown, hts⟩ (c_Jx4a65c_size_8abf5 l dC dI z l1 1 q7 1 H.size) (cwV 0 hts (ws_goodV e205 e206 e208 e185 e207) rfl rfl rfl ⟨rfl, by decide +kernel, by decide +kernel, by decide +kernel⟩ ⟨Nat.le_of_ble_eq_true rfl, Nat.le_of_ble_eq_true rfl⟩) ⟨pPre_blind, va_recv hKc hPc (ci := 0) (q0 := 0) rfl rfl, fun U hU hW => ⟨rfl, pPre_at hPc hKc hDc hE hS hFc U hU hW⟩⟩ rfl rfl hl.1 rfl (lv_room (Nat.le_of_ble_eq_true rfl)) dX17_puts_50 ⟨Nat.le_of_ble_eq_true rfl, Nat.le_of_ble_eq_true rfl⟩) hS (fun q _ h => hFc q h) hFc (fun r9 u10 t H1 locs ht hvm hw hB hz1 hk1 hS => ?_)
  obtain ⟨hP1, hK1, hD1⟩ := hB
  rw [ht] at hP1
  have hK1 := va_K.moved hvm.symm hK1
  obtain ⟨hP, hD⟩ := va_join (wr := [(h0, .inr (14, [.ref l1, .ref l2, .ref l3, .ref l4, .ref l5, .ref l6, .ref l7, .ref l8, .ref l9, .ref ce, .null, .int 0, .int 0, .int 0, .int 0, .int 0, .int 0, .int 0, .int 0, .int 0, .int 0, .int 0, .int 0, .long 0, .ref y1, .ref y2, .ref y3, .ref y4, .ref y5, .int 0, .int 0])), (q3, .inr (13, [.int 119, .int n]))]) (w1 := [(l1, .inr (0, [.int 1, .ref q7, .int 1]))]) hP hD [1] [0, 2] rfl rfl (by decide) (by decide) hk1 hFc hP1 hD1
  have hK := hK.app hK1
  generalize H1 = H at hP hS ⊢
  have hP : va_P (dC, dI) pcl [(h0, .inr (14, [.ref l1, .ref l2, .ref l3, .ref l4, .ref l5, .ref l6, .ref l7, .ref l8, .ref l9, .ref ce, .null, .int 0, .int 0, .int 0, .int 0, .int 0, .int 0, .int 0, .int 0, .int 0, .int 0, .int 0, .int 0, .long 0, .ref y1, .ref y2, .ref y3, .ref y4, .ref y5, .int 0, .int 0])), (q3, .inr (13, [.int 119, .int n])), (l1, .inr (0, [.int 1, .ref q7, .int 1]))] H := hP
  have hD : va_D A [(h0, .inr (14, [.ref l1, .ref l2, .ref l3, .ref l4, .ref l5, .ref l6, .ref l7, .ref l8, .ref l9, .ref ce, .null, .int 0, .int 0, .int 0, .int 0, .int 0, .int 0, .int 0, .int 0, .int 0, .int 0, .int 0, .int 0, .long 0, .ref y1, .ref y2, .ref y3, .ref y4, .ref y5, .int 0, .int 0])), (q3, .inr (13, [.int 119, .int n])), (l1, .inr (0, [.int 1, .ref q7, .int 1]))] := hD
  have hK : va_K (dC, dI) pcl [] s := hK
  subst hw
  have hPc := hP.sub (ws' := [(h0, .inr (14, [.ref l1, .ref l2, .ref l3, .ref l4, .ref l5, .ref l6, .ref l7, .ref l8, .ref l9, .ref ce, .null, .int 0, .int 0, .int 0, .int 0, .int 0, .int 0, .int 0, .int 0, .int 0, .int 0, .int 0, .int 0, .long 0, .ref y1, .ref y2, .ref y3, .ref y4, .ref y5, .int 0, .int 0]))]) [0] rfl
  have hDc := hD.sub (ws' := [(h0, .inr (14, [.ref l1, .ref l2, .ref l3, .ref l4, .ref l5, .ref l6, .ref l7, .ref l8, .ref l9, .ref ce, .null, .int 0, .int 0, .int 0, .int 0, .int 0, .int 0, .int 0, .int 0, .int 0, .int 0, .int 0, .int 0, .long 0, .ref y1, .ref y2, .ref y3, .ref y4, .ref y5, .int 0, .int 0]))]) [0] (by decide) rfl
  have hKc := hK.sub (tys' := []) [] rfl
  have hFc := va_free (wc := [(h0, .inr (14, [.ref l1, .ref l2, .ref l3, .ref l4, .ref l5, .ref l6, .ref l7, .ref l8, .ref l9, .ref ce, .null, .int 0, .int 0, .int 0, .int 0, .int 0, .int 0, .int 0, .int 0, .int 0, .int 0, .int 0, .int 0, .long 0, .ref y1, .ref y2, .ref y3, .ref y4, .ref y5, .int 0, .int 0]))]) hD hS hA [0] rfl
  refine va_calli (va_runV (As := [.int 1]) (rest := []) ⟨hx, hb, hml, hown, hts⟩ (c_X17_tell l dC dI z h0 l1 l2 l3 l4 l5 l6 l7 l8 l9 ce y1 y2 y3 y4 y5 1 H.size) (cwV 1 hts (ws_goodV e229 e230 e232 e212 e231) rfl rfl rfl ⟨rfl, by decide +kernel, by decide +kernel, by decide +kernel⟩ ⟨Nat.le_of_ble_eq_true rfl, Nat.le_of_ble_eq_true rfl⟩) ⟨pPre_blind, va_recv hKc hPc (ci := 14) (q0 := 0) rfl rfl, fun U hU hW => ⟨rfl, pPre_at hPc hKc hDc hE hS hFc U hU hW⟩⟩ rfl rfl hl.1 rfl (lv_room (Nat.le_of_ble_eq_true rfl)) dX17_puts_53 ⟨Nat.le_of_ble_eq_true rfl, Nat.le_of_ble_eq_true rfl⟩) hS (fun q _ h => hFc q h) hFc (fun r11 u12 t H1 locs ht hvm hw hB hz1 hk1 hS => ?_)
  obtain ⟨hP1, hK1, hD1⟩ := hB
  rw [ht] at hP1
  have hK1 := va_K.moved hvm.symm hK1
  obtain ⟨hP, hD⟩ := va_join (wr := [(q3, .inr (13, [.int 119, .int n])), (l1, .inr (0, [.int 1, .ref q7, .int 1]))]) (w1 := [(h0, .inr (14, [.ref l1, .ref l2, .ref l3, .ref l4, .ref l5, .ref l6, .ref l7, .ref l8, .ref l9, .ref ce, .null, .int 0, .int 0, .int 0, .int 0, .int 0, .int 0, .int 0, .int 0, .int 0, .int 0, .int 0, .int 0, .long 0, .ref y1, .ref y2, .ref y3, .ref y4, .ref y5, .int 0, .int 0]))]) hP hD [0] [1, 2] rfl rfl (by decide) (by decide) hk1 hFc hP1 hD1
  have hK := hK.app hK1
  generalize H1 = H at hP hS ⊢
  have hP : va_P (dC, dI) pcl [(q3, .inr (13, [.int 119, .int n])), (l1, .inr (0, [.int 1, .ref q7, .int 1])), (h0, .inr (14, [.ref l1, .ref l2, .ref l3, .ref l4, .ref l5, .ref l6, .ref l7, .ref l8, .ref l9, .ref ce, .null, .int 0, .int 0, .int 0, .int 0, .int 0, .int 0, .int 0, .int 0, .int 0, .int 0, .int 0, .int 0, .long 0, .ref y1, .ref y2, .ref y3, .ref y4, .ref y5, .int 0, .int 0]))] H := hP
  have hD : va_D A [(q3, .inr (13, [.int 119, .int n])), (l1, .inr (0, [.int 1, .ref q7, .int 1])), (h0, .inr (14, [.ref l1, .ref l2, .ref l3, .ref l4, .ref l5, .ref l6, .ref l7, .ref l8, .ref l9, .ref ce, .null, .int 0, .int 0, .int 0, .int 0, .int 0, .int 0, .int 0, .int 0, .int 0, .int 0, .int 0, .int 0, .long 0, .ref y1, .ref y2, .ref y3, .ref y4, .ref y5, .int 0, .int 0]))] := hD
  have hK : va_K (dC, dI) pcl [] s := hK
  subst hw
  have hP9 := hP.sub (ws' := [(h0, .inr (14, [.ref l1, .ref l2, .ref l3, .ref l4, .ref l5, .ref l6, .ref l7, .ref l8, .ref l9, .ref ce, .null, .int 0, .int 0, .int 0, .int 0, .int 0, .int 0, .int 0, .int 0, .int 0, .int 0, .int 0, .int 0, .long 0, .ref y1, .ref y2, .ref y3, .ref y4, .ref y5, .int 0, .int 0]))]) [2] rfl
  have hD9 := hD.sub (ws' := [(h0, .inr (14, [.ref l1, .ref l2, .ref l3, .ref l4, .ref l5, .ref l6, .ref l7, .ref l8, .ref l9, .ref ce, .null, .int 0, .int 0, .int 0, .int 0, .int 0, .int 0, .int 0, .int 0, .int 0, .int 0, .int 0, .int 0, .long 0, .ref y1, .ref y2, .ref y3, .ref y4, .ref y5, .int 0, .int 0]))]) [2] (by decide) rfl
  have hK9 := hK.sub (tys' := []) [] rfl
  refine W.widen (k := 2) (n := 12) (Nat.le_of_ble_eq_true rfl) (Nat.le_of_ble_eq_true rfl) ?_
  exact W.iret (v := 1) hx hb hr (fun t ht hW => ⟨⟨1, (), rfl, rfl, by rw [ht]; exact hP9, va_K.moved hW.alike hK9, hD9⟩, hS.F ht⟩) hS.2.2 dX17_puts_56
set_option maxHeartbeats 4000000 in
set_option maxRecDepth 100000 in
theorem c_X17_puts_120 (l : Launch) (dC : Nat → ClassId) (dI : Nat → Nat → Nat) (z : pG) (h0 : Nat) (l1 : Nat) (l2 : Nat) (l3 : Nat) (l4 : Nat) (l5 : Nat) (l6 : Nat) (l7 : Nat) (l8 : Nat) (l9 : Nat) (ce : Nat) (y1 : Nat) (y2 : Nat) (y3 : Nat) (y4 : Nat) (y5 : Nat) (n : Int32) (sz : Nat) : Met l yX17_puts (ws_ yX17_puts cX17_puts 3 (some .int)) ({ frames := 5, cells := 2, slots := 12, locals := 101 }) (va_Pc [.ref h0, .int 120, .int n] (pPre z dC dI [(h0, .inr (14, [.ref l1, .ref l2, .ref l3, .ref l4, .ref l5, .ref l6, .ref l7, .ref l8, .ref l9, .ref ce, .null, .int 0, .int 0, .int 0, .int 0, .int 0, .int 0, .int 0, .int 0, .int 0, .int 0, .int 0, .int 0, .long 0, .ref y1, .ref y2, .ref y3, .ref y4, .ref y5, .int 0, .int 0])), (l1, .inr (0, [.int 0, .ref z.1, .int 0]))] [] sz)) (va_Qi (fun (r : Int32) (_ : Unit) => r = 1) (fun _ t => pPost dC dI (va_A [(h0, .inr (14, [.ref l1, .ref l2, .ref l3, .ref l4, .ref l5, .ref l6, .ref l7, .ref l8, .ref l9, .ref ce, .null, .int 0, .int 0, .int 0, .int 0, .int 0, .int 0, .int 0, .int 0, .int 0, .int 0, .int 0, .int 0, .long 0, .ref y1, .ref y2, .ref y3, .ref y4, .ref y5, .int 0, .int 0])), (l1, .inr (0, [.int 0, .ref z.1, .int 0]))] sz) [(h0, .inr (14, [.ref l1, .ref l2, .ref l3, .ref l4, .ref l5, .ref l6, .ref l7, .ref l8, .ref l9, .ref ce, .null, .int 0, .int 0, .int 0, .int 0, .int 0, .int 0, .int 0, .int 0, .int 0, .int 0, .int 0, .int 0, .long 0, .ref y1, .ref y2, .ref y3, .ref y4, .ref y5, .int 0, .int 0]))] [] t) (va_A [(h0, .inr (14, [.ref l1, .ref l2, .ref l3, .ref l4, .ref l5, .ref l6, .ref l7, .ref l8, .ref l9, .ref ce, .null, .int 0, .int 0, .int 0, .int 0, .int 0, .int 0, .int 0, .int 0, .int 0, .int 0, .int 0, .int 0, .long 0, .ref y1, .ref y2, .ref y3, .ref y4, .ref y5, .int 0, .int 0])), (l1, .inr (0, [.int 0, .ref z.1, .int 0]))] sz)) 2 12 (va_A [(h0, .inr (14, [.ref l1, .ref l2, .ref l3, .ref l4, .ref l5, .ref l6, .ref l7, .ref l8, .ref l9, .ref ce, .null, .int 0, .int 0, .int 0, .int 0, .int 0, .int 0, .int 0, .int 0, .int 0, .int 0, .int 0, .int 0, .long 0, .ref y1, .ref y2, .ref y3, .ref y4, .ref y5, .int 0, .int 0])), (l1, .inr (0, [.int 0, .ref z.1, .int 0]))] sz) := by
  refine Met.ofW (cc := cX17_puts) (maxL := 3) (ret := (some .int)) (by decide) rfl ?_
  intro p e s m args below meth c s₁ B hml hv
  obtain ⟨rfl, hsz, hP, hK, hD0, hE⟩ := hv
  have hx := B.exec
  have hb := B.bytes
  have hr := B.returns
  have hts0 := atoms_spec (ws := ws_ yX17_puts cX17_puts 3 (some .int)) B.pre
  have hts := fun (w : Cond) (h : w ∈ pw) => hts0 w (List.mem_cons_of_mem _ h)
  have hown : s.vm.findClass RX17 = some m.cls := findClass_of_methodNamed B.named
  have hlocks := B.notSynchronized
  subst hsz
  have hD := hD0.self (sz := s.heap.size)
  generalize hAe : va_A [(h0, .inr (14, [.ref l1, .ref l2, .ref l3, .ref l4, .ref l5, .ref l6, .ref l7, .ref l8, .ref l9, .ref ce, .null, .int 0, .int 0, .int 0, .int 0, .int 0, .int 0, .int 0, .int 0, .int 0, .int 0, .int 0, .int 0, .long 0, .ref y1, .ref y2, .ref y3, .ref y4, .ref y5, .int 0, .int 0])), (l1, .inr (0, [.int 0, .ref z.1, .int 0]))] s.heap.size = A at hD hE ⊢
  have hA : ∀ q : Nat, s.heap.size ≤ q → A q := fun q h => by rw [← hAe]; exact Or.inr h
  have hS : va_S A s.heap s.heap [] := va_S.rf
  have hN := hE.1
  have hP : va_P (dC, dI) pcl [(h0, .inr (14, [.ref l1, .ref l2, .ref l3, .ref l4, .ref l5, .ref l6, .ref l7, .ref l8, .ref l9, .ref ce, .null, .int 0, .int 0, .int 0, .int 0, .int 0, .int 0, .int 0, .int 0, .int 0, .int 0, .int 0, .int 0, .long 0, .ref y1, .ref y2, .ref y3, .ref y4, .ref y5, .int 0, .int 0])), (l1, .inr (0, [.int 0, .ref z.1, .int 0]))] s.heap := hP
  have hl := lv_entry ([.ref h0, .int 120, .int n]) (n := 3) (Nat.le_of_ble_eq_true rfl)
  rw [lg_entry_eq]
  generalize (lg_sl ([.ref h0, .int 120, .int n]) ++ List.replicate (3 - (lg_sl ([.ref h0, .int 120, .int n])).length) Slot.unset).toArray = ls at hl ⊢
  have hl : lv_has ls 3 [(0, .ref h0), (1, .int 120), (2, .int n)] := hl
  obtain ⟨H, hH0⟩ : ∃ H, H = s.heap := ⟨_, rfl⟩
  rw [← hH0] at hP ⊢
  have hS : va_S A s.heap H [] := by rw [hH0]; exact hS
  refine lv_aload_n hx hb dX17_puts_0 rfl (lv_at hl 0 rfl) ?_
  refine va_get (D := (dC, dI)) (ci := 14) (v := .ref l1) (C := RX17) (T := TX17) (N := 31) hx hb hts pinX17 hown hK hP 0 rfl rfl 0 (by decide) (hts _ e189) (fun _ h9 => h9) rfl dX17_puts_1 ?_
  have hPc := hP.sub (ws' := [(l1, .inr (0, [.int 0, .ref z.1, .int 0]))]) [1] rfl
  have hDc := hD.sub (ws' := [(l1, .inr (0, [.int 0, .ref z.1, .int 0]))]) [1] (by decide) rfl
  have hKc := hK.sub (tys' := []) [] rfl
  have hFc := va_free (wc := [(l1, .inr (0, [.int 0, .ref z.1, .int 0]))]) hD hS hA [1] rfl
  refine va_calli (va_runV (As := []) (rest := []) ⟨hx, hb, hml, hown, hts⟩ (c_Jx4a65c_size_8abf5 l dC dI z l1 0 z.1 0 H.size) (cwV 0 hts (ws_goodV e205 e206 e208 e185 e207) rfl rfl rfl ⟨rfl, by decide +kernel, by decide +kernel, by decide +kernel⟩ ⟨Nat.le_of_ble_eq_true rfl, Nat.le_of_ble_eq_true rfl⟩) ⟨pPre_blind, va_recv hKc hPc (ci := 0) (q0 := 0) rfl rfl, fun U hU hW => ⟨rfl, pPre_at hPc hKc hDc hE hS hFc U hU hW⟩⟩ rfl rfl hl.1 rfl (lv_room (Nat.le_of_ble_eq_true rfl)) dX17_puts_4 ⟨Nat.le_of_ble_eq_true rfl, Nat.le_of_ble_eq_true rfl⟩) hS (fun q _ h => hFc q h) hFc (fun r1 u2 t H1 locs ht hvm hw hB hz1 hk1 hS => ?_)
  obtain ⟨hP1, hK1, hD1⟩ := hB
  rw [ht] at hP1
  have hK1 := va_K.moved hvm.symm hK1
  obtain ⟨hP, hD⟩ := va_join (wr := [(h0, .inr (14, [.ref l1, .ref l2, .ref l3, .ref l4, .ref l5, .ref l6, .ref l7, .ref l8, .ref l9, .ref ce, .null, .int 0, .int 0, .int 0, .int 0, .int 0, .int 0, .int 0, .int 0, .int 0, .int 0, .int 0, .int 0, .long 0, .ref y1, .ref y2, .ref y3, .ref y4, .ref y5, .int 0, .int 0]))]) (w1 := [(l1, .inr (0, [.int 0, .ref z.1, .int 0]))]) hP hD [1] [0] rfl rfl (by decide) (by decide) hk1 hFc hP1 hD1
  have hK := hK.app hK1
  generalize H1 = H at hP hS ⊢
  have hP : va_P (dC, dI) pcl [(h0, .inr (14, [.ref l1, .ref l2, .ref l3, .ref l4, .ref l5, .ref l6, .ref l7, .ref l8, .ref l9, .ref ce, .null, .int 0, .int 0, .int 0, .int 0, .int 0, .int 0, .int 0, .int 0, .int 0, .int 0, .int 0, .int 0, .long 0, .ref y1, .ref y2, .ref y3, .ref y4, .ref y5, .int 0, .int 0])), (l1, .inr (0, [.int 0, .ref z.1, .int 0]))] H := hP
  have hD : va_D A [(h0, .inr (14, [.ref l1, .ref l2, .ref l3, .ref l4, .ref l5, .ref l6, .ref l7, .ref l8, .ref l9, .ref ce, .null, .int 0, .int 0, .int 0, .int 0, .int 0, .int 0, .int 0, .int 0, .int 0, .int 0, .int 0, .int 0, .long 0, .ref y1, .ref y2, .ref y3, .ref y4, .ref y5, .int 0, .int 0])), (l1, .inr (0, [.int 0, .ref z.1, .int 0]))] := hD
  have hK : va_K (dC, dI) pcl [] s := hK
  subst hw
  refine lv_bipush (v := 40) hx hb dX17_puts_7 (by decide) ?_
  refine lv_icmp_ne (tgt := 28) hx hb dX17_puts_9 (by decide) (fun _ => ?_) (fun h9 => absurd h9 (by decide))
  refine lv_aload_n hx hb dX17_puts_28 rfl (lv_at hl 0 rfl) ?_
  refine va_get (D := (dC, dI)) (ci := 14) (v := .ref l1) (C := RX17) (T := TX17) (N := 31) hx hb hts pinX17 hown hK hP 0 rfl rfl 0 (by decide) (hts _ e189) (fun _ h9 => h9) rfl dX17_puts_29 ?_
  refine va_new (ci := 13) (fs := [.int 0, .int 0]) (C := RX14) (T := TX14) (N := 2) hx hb hts pinX14 tyX14 tyX14_ok hown (hts _ e219) (hts _ e220) (hts _ e221) hK hP hD hS hA rfl (fun j hj => by rcases (show j = 0 ∨ j = 1 by omega) with rfl | rfl <;> rfl) (Nat.le_of_ble_eq_true rfl) (Nat.le_of_ble_eq_true rfl) dX17_puts_32 (fun q3 H hP hD hS => ?_)
  have hP : va_P (dC, dI) pcl [(h0, .inr (14, [.ref l1, .ref l2, .ref l3, .ref l4, .ref l5, .ref l6, .ref l7, .ref l8, .ref l9, .ref ce, .null, .int 0, .int 0, .int 0, .int 0, .int 0, .int 0, .int 0, .int 0, .int 0, .int 0, .int 0, .int 0, .long 0, .ref y1, .ref y2, .ref y3, .ref y4, .ref y5, .int 0, .int 0])), (l1, .inr (0, [.int 0, .ref z.1, .int 0])), (q3, .inr (13, [.int 0, .int 0]))] H := hP
  have hD : va_D A [(h0, .inr (14, [.ref l1, .ref l2, .ref l3, .ref l4, .ref l5, .ref l6, .ref l7, .ref l8, .ref l9, .ref ce, .null, .int 0, .int 0, .int 0, .int 0, .int 0, .int 0, .int 0, .int 0, .int 0, .int 0, .int 0, .int 0, .long 0, .ref y1, .ref y2, .ref y3, .ref y4, .ref y5, .int 0, .int 0])), (l1, .inr (0, [.int 0, .ref z.1, .int 0])), (q3, .inr (13, [.int 0, .int 0]))] := hD
  refine W.widen (k := 1) (n := 2) (Nat.le_of_ble_eq_true rfl) (Nat.le_of_ble_eq_true rfl) ?_
  refine lv_dup hx hb dX17_puts_35 rfl ?_
  refine lv_iload_n hx hb dX17_puts_36 rfl (lv_at hl 1 rfl) ?_
  refine lv_iload_n hx hb dX17_puts_37 rfl (lv_at hl 2 rfl) ?_
  have hPc := hP.sub (ws' := [(q3, .inr (13, [.int 0, .int 0]))]) [2] rfl
  have hDc := hD.sub (ws' := [(q3, .inr (13, [.int 0, .int 0]))]) [2] (by decide) rfl
  have hKc := hK.sub (tys' := []) [] rfl
  have hFc := va_free (wc := [(q3, .inr (13, [.int 0, .int 0]))]) hD hS hA [2] rfl
  refine va_callv (va_runI (As := [.int 120, .int n]) (rest := [.ref q3, .ref l1]) ⟨hx, hb, hml, hown, hts⟩ (c_X14_init_120 l dC dI z q3 n H.size) (cwI 2 hts (ws_good e224) rfl rfl rfl (hts _ e221) (hts _ e222) (hts _ e223) rfl ⟨by decide +kernel, by decide +kernel, by decide +kernel⟩ ⟨Nat.le_of_ble_eq_true rfl, Nat.le_of_ble_eq_true rfl⟩) ⟨pPre_blind, fun U hU hW => ⟨rfl, pPre_at hPc hKc hDc hE hS hFc U hU hW⟩⟩ rfl rfl hl.1 rfl (lv_room (Nat.le_of_ble_eq_true rfl)) dX17_puts_38 ⟨Nat.le_of_ble_eq_true rfl, Nat.le_of_ble_eq_true rfl⟩) hS (fun q _ h => hFc q h) hFc (fun u5 t H1 locs ht hvm hw hB hz1 hk1 hS => ?_)
  obtain ⟨hP1, hK1, hD1⟩ := hB
  rw [ht] at hP1
  have hK1 := va_K.moved hvm.symm hK1
  obtain ⟨hP, hD⟩ := va_join (wr := [(h0, .inr (14, [.ref l1, .ref l2, .ref l3, .ref l4, .ref l5, .ref l6, .ref l7, .ref l8, .ref l9, .ref ce, .null, .int 0, .int 0, .int 0, .int 0, .int 0, .int 0, .int 0, .int 0, .int 0, .int 0, .int 0, .int 0, .long 0, .ref y1, .ref y2, .ref y3, .ref y4, .ref y5, .int 0, .int 0])), (l1, .inr (0, [.int 0, .ref z.1, .int 0]))]) (w1 := [(q3, .inr (13, [.int 120, .int n]))]) hP hD [2] [0, 1] rfl rfl (by decide) (by decide) hk1 hFc hP1 hD1
  have hK := hK.app hK1
  generalize H1 = H at hP hS ⊢
  have hP : va_P (dC, dI) pcl [(h0, .inr (14, [.ref l1, .ref l2, .ref l3, .ref l4, .ref l5, .ref l6, .ref l7, .ref l8, .ref l9, .ref ce, .null, .int 0, .int 0, .int 0, .int 0, .int 0, .int 0, .int 0, .int 0, .int 0, .int 0, .int 0, .int 0, .long 0, .ref y1, .ref y2, .ref y3, .ref y4, .ref y5, .int 0, .int 0])), (l1, .inr (0, [.int 0, .ref z.1, .int 0])), (q3, .inr (13, [.int 120, .int n]))] H := hP
  have hD : va_D A [(h0, .inr (14, [.ref l1, .ref l2, .ref l3, .ref l4, .ref l5, .ref l6, .ref l7, .ref l8, .ref l9, .ref ce, .null, .int 0, .int 0, .int 0, .int 0, .int 0, .int 0, .int 0, .int 0, .int 0, .int 0, .int 0, .int 0, .long 0, .ref y1, .ref y2, .ref y3, .ref y4, .ref y5, .int 0, .int 0])), (l1, .inr (0, [.int 0, .ref z.1, .int 0])), (q3, .inr (13, [.int 120, .int n]))] := hD
  have hK : va_K (dC, dI) pcl [] s := hK
  have hPc := hP.sub (ws' := [(l1, .inr (0, [.int 0, .ref z.1, .int 0])), (q3, .inr (13, [.int 120, .int n]))]) [1, 2] rfl
  have hDc := hD.sub (ws' := [(l1, .inr (0, [.int 0, .ref z.1, .int 0])), (q3, .inr (13, [.int 120, .int n]))]) [1, 2] (by decide) rfl
  have hKc := hK.sub (tys' := []) [] rfl
  have hFc := va_free (wc := [(l1, .inr (0, [.int 0, .ref z.1, .int 0])), (q3, .inr (13, [.int 120, .int n]))]) hD hS hA [1, 2] rfl
  refine va_calli (va_runV (As := [.ref q3]) (rest := []) ⟨hx, hb, hml, hown, hts⟩ (c_Jx4a65c_add_9ea2d l dC dI z l1 q3 120 n H.size) (cwV 1 hts (ws_goodV e225 e226 e228 e185 e227) rfl rfl rfl ⟨rfl, by decide +kernel, by decide +kernel, by decide +kernel⟩ ⟨Nat.le_of_ble_eq_true rfl, Nat.le_of_ble_eq_true rfl⟩) ⟨pPre_blind, va_recv hKc hPc (ci := 0) (q0 := 0) rfl rfl, fun U hU hW => ⟨rfl, pPre_at hPc hKc hDc hE hS hFc U hU hW⟩⟩ rfl rfl hl.1 rfl (lv_room (Nat.le_of_ble_eq_true rfl)) dX17_puts_41 ⟨Nat.le_of_ble_eq_true rfl, Nat.le_of_ble_eq_true rfl⟩) hS (fun q _ h => hFc q h) hFc (fun r6 u8 t H1 locs ht hvm hw hB hz1 hk1 hS => ?_)
  obtain ⟨q7, hP1, hK1, hD1⟩ := hB
  rw [ht] at hP1
  have hK1 := va_K.moved hvm.symm hK1
  obtain ⟨hP, hD⟩ := va_join (wr := [(h0, .inr (14, [.ref l1, .ref l2, .ref l3, .ref l4, .ref l5, .ref l6, .ref l7, .ref l8, .ref l9, .ref ce, .null, .int 0, .int 0, .int 0, .int 0, .int 0, .int 0, .int 0, .int 0, .int 0, .int 0, .int 0, .int 0, .long 0, .ref y1, .ref y2, .ref y3, .ref y4, .ref y5, .int 0, .int 0]))]) (w1 := [(l1, .inr (0, [.int 1, .ref q7, .int 1])), (q3, .inr (13, [.int 120, .int n]))]) hP hD [1, 2] [0] rfl rfl (by decide) (by decide) hk1 hFc hP1 hD1
  have hK := hK.app hK1
  generalize H1 = H at hP hS ⊢
  have hP : va_P (dC, dI) pcl [(h0, .inr (14, [.ref l1, .ref l2, .ref l3, .ref l4, .ref l5, .ref l6, .ref l7, .ref l8, .ref l9, .ref ce, .null, .int 0, .int 0, .int 0, .int 0, .int 0, .int 0, .int 0, .int 0, .int 0, .int 0, .int 0, .int 0, .long 0, .ref y1, .ref y2, .ref y3, .ref y4, .ref y5, .int 0, .int 0])), (l1, .inr (0, [.int 1, .ref q7, .int 1])), (q3, .inr (13, [.int 120, .int n]))] H := hP
  have hD : va_D A [(h0, .inr (14, [.ref l1, .ref l2, .ref l3, .ref l4, .ref l5, .ref l6, .ref l7, .ref l8, .ref l9, .ref ce, .null, .int 0, .int 0, .int 0, .int 0, .int 0, .int 0, .int 0, .int 0, .int 0, .int 0, .int 0, .int 0, .long 0, .ref y1, .ref y2, .ref y3, .ref y4, .ref y5, .int 0, .int 0])), (l1, .inr (0, [.int 1, .ref q7, .int 1])), (q3, .inr (13, [.int 120, .int n]))] := hD
  have hK : va_K (dC, dI) pcl [] s := hK
  refine W.widen (k := 2) (n := 12) (Nat.le_of_ble_eq_true rfl) (Nat.le_of_ble_eq_true rfl) ?_
  subst hw
  refine lv_pop hx hb dX17_puts_44 rfl ?_
  refine lv_aload_n hx hb dX17_puts_45 rfl (lv_at hl 0 rfl) ?_
  refine lv_aload_n hx hb dX17_puts_46 rfl (lv_at hl 0 rfl) ?_
  refine va_get (D := (dC, dI)) (ci := 14) (v := .ref l1) (C := RX17) (T := TX17) (N := 31) hx hb hts pinX17 hown hK hP 0 rfl rfl 0 (by decide) (hts _ e189) (fun _ h9 => h9) rfl dX17_puts_47 ?_
  have hPc := hP.sub (ws' := [(l1, .inr (0, [.int 1, .ref q7, .int 1]))]) [1] rfl
  have hDc := hD.sub (ws' := [(l1, .inr (0, [.int 1, .ref q7, .int 1]))]) [1] (by decide) rfl
  have hKc := hK.sub (tys' := []) [] rfl
  have hFc := va_free (wc := [(l1, .inr (0, [.int 1, .ref q7, .int 1]))]) hD hS hA [1] rfl
  refine va_calli (va_runV (As := []) (rest := [.ref h0]) ⟨hx, hb, hml, hown, hts⟩ (c_Jx4a65c_size_8abf5 l dC dI z l1 1 q7 1 H.size) (cwV 0 hts (ws_goodV e205 e206 e208 e185 e207) rfl rfl rfl ⟨rfl, by decide +kernel, by decide +kernel, by decide +kernel⟩ ⟨Nat.le_of_ble_eq_true rfl, Nat.le_of_ble_eq_true rfl⟩) ⟨pPre_blind, va_recv hKc hPc (ci := 0) (q0 := 0) rfl rfl, fun U hU hW => ⟨rfl, pPre_at hPc hKc hDc hE hS hFc U hU hW⟩⟩ rfl rfl hl.1 rfl (lv_room (Nat.le_of_ble_eq_true rfl)) dX17_puts_50 ⟨Nat.le_of_ble_eq_true rfl, Nat.le_of_ble_eq_true rfl⟩) hS (fun q _ h => hFc q h) hFc (fun r9 u10 t H1 locs ht hvm hw hB hz1 hk1 hS => ?_)
  obtain ⟨hP1, hK1, hD1⟩ := hB
  rw [ht] at hP1
  have hK1 := va_K.moved hvm.symm hK1
  obtain ⟨hP, hD⟩ := va_join (wr := [(h0, .inr (14, [.ref l1, .ref l2, .ref l3, .ref l4, .ref l5, .ref l6, .ref l7, .ref l8, .ref l9, .ref ce, .null, .int 0, .int 0, .int 0, .int 0, .int 0, .int 0, .int 0, .int 0, .int 0, .int 0, .int 0, .int 0, .long 0, .ref y1, .ref y2, .ref y3, .ref y4, .ref y5, .int 0, .int 0])), (q3, .inr (13, [.int 120, .int n]))]) (w1 := [(l1, .inr (0, [.int 1, .ref q7, .int 1]))]) hP hD [1] [0, 2] rfl rfl (by decide) (by decide) hk1 hFc hP1 hD1
  have hK := hK.app hK1
  generalize H1 = H at hP hS ⊢
  have hP : va_P (dC, dI) pcl [(h0, .inr (14, [.ref l1, .ref l2, .ref l3, .ref l4, .ref l5, .ref l6, .ref l7, .ref l8, .ref l9, .ref ce, .null, .int 0, .int 0, .int 0, .int 0, .int 0, .int 0, .int 0, .int 0, .int 0, .int 0, .int 0, .int 0, .long 0, .ref y1, .ref y2, .ref y3, .ref y4, .ref y5, .int 0, .int 0])), (q3, .inr (13, [.int 120, .int n])), (l1, .inr (0, [.int 1, .ref q7, .int 1]))] H := hP
  have hD : va_D A [(h0, .inr (14, [.ref l1, .ref l2, .ref l3, .ref l4, .ref l5, .ref l6, .ref l7, .ref l8, .ref l9, .ref ce, .null, .int 0, .int 0, .int 0, .int 0, .int 0, .int 0, .int 0, .int 0, .int 0, .int 0, .int 0, .int 0, .long 0, .ref y1, .ref y2, .ref y3, .ref y4, .ref y5, .int 0, .int 0])), (q3, .inr (13, [.int 120, .int n])), (l1, .inr (0, [.int 1, .ref q7, .int 1]))] := hD
  have hK : va_K (dC, dI) pcl [] s := hK
  subst hw
  have hPc := hP.sub (ws' := [(h0, .inr (14, [.ref l1, .ref l2, .ref l3, .ref l4, .ref l5, .ref l6, .ref l7, .ref l8, .ref l9, .ref ce, .null, .int 0, .int 0, .int 0, .int 0, .int 0, .int 0, .int 0, .int 0, .int 0, .int 0, .int 0, .int 0, .long 0, .ref y1, .ref y2, .ref y3, .ref y4, .ref y5, .int 0, .int 0]))]) [0] rfl
  have hDc := hD.sub (ws' := [(h0, .inr (14, [.ref l1, .ref l2, .ref l3, .ref l4, .ref l5, .ref l6, .ref l7, .ref l8, .ref l9, .ref ce, .null, .int 0, .int 0, .int 0, .int 0, .int 0, .int 0, .int 0, .int 0, .int 0, .int 0, .int 0, .int 0, .long 0, .ref y1, .ref y2, .ref y3, .ref y4, .ref y5, .int 0, .int 0]))]) [0] (by decide) rfl
  have hKc := hK.sub (tys' := []) [] rfl
  have hFc := va_free (wc := [(h0, .inr (14, [.ref l1, .ref l2, .ref l3, .ref l4, .ref l5, .ref l6, .ref l7, .ref l8, .ref l9, .ref ce, .null, .int 0, .int 0, .int 0, .int 0, .int 0, .int 0, .int 0, .int 0, .int 0, .int 0, .int 0, .int 0, .long 0, .ref y1, .ref y2, .ref y3, .ref y4, .ref y5, .int 0, .int 0]))]) hD hS hA [0] rfl
  refine va_calli (va_runV (As := [.int 1]) (rest := []) ⟨hx, hb, hml, hown, hts⟩ (c_X17_tell l dC dI z h0 l1 l2 l3 l4 l5 l6 l7 l8 l9 ce y1 y2 y3 y4 y5 1 H.size) (cwV 1 hts (ws_goodV e229 e230 e232 e212 e231) rfl rfl rfl ⟨rfl, by decide +kernel, by decide +kernel, by decide +kernel⟩ ⟨Nat.le_of_ble_eq_true rfl, Nat.le_of_ble_eq_true rfl⟩) ⟨pPre_blind, va_recv hKc hPc (ci := 14) (q0 := 0) rfl rfl, fun U hU hW => ⟨rfl, pPre_at hPc hKc hDc hE hS hFc U hU hW⟩⟩ rfl rfl hl.1 rfl (lv_room (Nat.le_of_ble_eq_true rfl)) dX17_puts_53 ⟨Nat.le_of_ble_eq_true rfl, Nat.le_of_ble_eq_true rfl⟩) hS (fun q _ h => hFc q h) hFc (fun r11 u12 t H1 locs ht hvm hw hB hz1 hk1 hS => ?_)
  obtain ⟨hP1, hK1, hD1⟩ := hB
  rw [ht] at hP1
  have hK1 := va_K.moved hvm.symm hK1
  obtain ⟨hP, hD⟩ := va_join (wr := [(q3, .inr (13, [.int 120, .int n])), (l1, .inr (0, [.int 1, .ref q7, .int 1]))]) (w1 := [(h0, .inr (14, [.ref l1, .ref l2, .ref l3, .ref l4, .ref l5, .ref l6, .ref l7, .ref l8, .ref l9, .ref ce, .null, .int 0, .int 0, .int 0, .int 0, .int 0, .int 0, .int 0, .int 0, .int 0, .int 0, .int 0, .int 0, .long 0, .ref y1, .ref y2, .ref y3, .ref y4, .ref y5, .int 0, .int 0]))]) hP hD [0] [1, 2] rfl rfl (by decide) (by decide) hk1 hFc hP1 hD1
  have hK := hK.app hK1
  generalize H1 = H at hP hS ⊢
  have hP : va_P (dC, dI) pcl [(q3, .inr (13, [.int 120, .int n])), (l1, .inr (0, [.int 1, .ref q7, .int 1])), (h0, .inr (14, [.ref l1, .ref l2, .ref l3, .ref l4, .ref l5, .ref l6, .ref l7, .ref l8, .ref l9, .ref ce, .null, .int 0, .int 0, .int 0, .int 0, .int 0, .int 0, .int 0, .int 0, .int 0, .int 0, .int 0, .int 0, .long 0, .ref y1, .ref y2, .ref y3, .ref y4, .ref y5, .int 0, .int 0]))] H := hP
  have hD : va_D A [(q3, .inr (13, [.int 120, .int n])), (l1, .inr (0, [.int 1, .ref q7, .int 1])), (h0, .inr (14, [.ref l1, .ref l2, .ref l3, .ref l4, .ref l5, .ref l6, .ref l7, .ref l8, .ref l9, .ref ce, .null, .int 0, .int 0, .int 0, .int 0, .int 0, .int 0, .int 0, .int 0, .int 0, .int 0, .int 0, .int 0, .long 0, .ref y1, .ref y2, .ref y3, .ref y4, .ref y5, .int 0, .int 0]))] := hD
  have hK : va_K (dC, dI) pcl [] s := hK
  subst hw
  have hP9 := hP.sub (ws' := [(h0, .inr (14, [.ref l1, .ref l2, .ref l3, .ref l4, .ref l5, .ref l6, .ref l7, .ref l8, .ref l9, .ref ce, .null, .int 0, .int 0, .int 0, .int 0, .int 0, .int 0, .int 0, .int 0, .int 0, .int 0, .int 0, .int 0, .long 0, .ref y1, .ref y2, .ref y3, .ref y4, .ref y5, .int 0, .int 0]))]) [2] rfl
  have hD9 := hD.sub (ws' := [(h0, .inr (14, [.ref l1, .ref l2, .ref l3, .ref l4, .ref l5, .ref l6, .ref l7, .ref l8, .ref l9, .ref ce, .null, .int 0, .int 0, .int 0, .int 0, .int 0, .int 0, .int 0, .int 0, .int 0, .int 0, .int 0, .int 0, .long 0, .ref y1, .ref y2, .ref y3, .ref y4, .ref y5, .int 0, .int 0]))]) [2] (by decide) rfl
  have hK9 := hK.sub (tys' := []) [] rfl
  refine W.widen (k := 2) (n := 12) (Nat.le_of_ble_eq_true rfl) (Nat.le_of_ble_eq_true rfl) ?_
  exact W.iret (v := 1) hx hb hr (fun t ht hW => ⟨⟨1, (), rfl, rfl, by rw [ht]; exact hP9, va_K.moved hW.alike hK9, hD9⟩, hS.F ht⟩) hS.2.2 dX17_puts_56
set_option maxHeartbeats 4000000 in
set_option maxRecDepth 100000 in
theorem c_X17_puts_110 (l : Launch) (dC : Nat → ClassId) (dI : Nat → Nat → Nat) (z : pG) (h0 : Nat) (l1 : Nat) (l2 : Nat) (l3 : Nat) (l4 : Nat) (l5 : Nat) (l6 : Nat) (l7 : Nat) (l8 : Nat) (l9 : Nat) (ce : Nat) (y1 : Nat) (y2 : Nat) (y3 : Nat) (y4 : Nat) (y5 : Nat) (n : Int32) (sz : Nat) : Met l yX17_puts (ws_ yX17_puts cX17_puts 3 (some .int)) ({ frames := 5, cells := 2, slots := 12, locals := 101 }) (va_Pc [.ref h0, .int 110, .int n] (pPre z dC dI [(h0, .inr (14, [.ref l1, .ref l2, .ref l3, .ref l4, .ref l5, .ref l6, .ref l7, .ref l8, .ref l9, .ref ce, .null, .int 0, .int 0, .int 0, .int 0, .int 0, .int 0, .int 0, .int 0, .int 0, .int 0, .int 0, .int 0, .long 0, .ref y1, .ref y2, .ref y3, .ref y4, .ref y5, .int 0, .int 0])), (l1, .inr (0, [.int 0, .ref z.1, .int 0]))] [] sz)) (va_Qi (fun (r : Int32) (_ : Unit) => r = 1) (fun _ t => pPost dC dI (va_A [(h0, .inr (14, [.ref l1, .ref l2, .ref l3, .ref l4, .ref l5, .ref l6, .ref l7, .ref l8, .ref l9, .ref ce, .null, .int 0, .int 0, .int 0, .int 0, .int 0, .int 0, .int 0, .int 0, .int 0, .int 0, .int 0, .int 0, .long 0, .ref y1, .ref y2, .ref y3, .ref y4, .ref y5, .int 0, .int 0])), (l1, .inr (0, [.int 0, .ref z.1, .int 0]))] sz) [(h0, .inr (14, [.ref l1, .ref l2, .ref l3, .ref l4, .ref l5, .ref l6, .ref l7, .ref l8, .ref l9, .ref ce, .null, .int 0, .int 0, .int 0, .int 0, .int 0, .int 0, .int 0, .int 0, .int 0, .int 0, .int 0, .int 0, .long 0, .ref y1, .ref y2, .ref y3, .ref y4, .ref y5, .int 0, .int 0]))] [] t) (va_A [(h0, .inr (14, [.ref l1, .ref l2, .ref l3, .ref l4, .ref l5, .ref l6, .ref l7, .ref l8, .ref l9, .ref ce, .null, .int 0, .int 0, .int 0, .int 0, .int 0, .int 0, .int 0, .int 0, .int 0, .int 0, .int 0, .int 0, .long 0, .ref y1, .ref y2, .ref y3, .ref y4, .ref y5, .int 0, .int 0])), (l1, .inr (0, [.int 0, .ref z.1, .int 0]))] sz)) 2 12 (va_A [(h0, .inr (14, [.ref l1, .ref l2, .ref l3, .ref l4, .ref l5, .ref l6, .ref l7, .ref l8, .ref l9, .ref ce, .null, .int 0, .int 0, .int 0, .int 0, .int 0, .int 0, .int 0, .int 0, .int 0, .int 0, .int 0, .int 0, .long 0, .ref y1, .ref y2, .ref y3, .ref y4, .ref y5, .int 0, .int 0])), (l1, .inr (0, [.int 0, .ref z.1, .int 0]))] sz) := by
  refine Met.ofW (cc := cX17_puts) (maxL := 3) (ret := (some .int)) (by decide) rfl ?_
  intro p e s m args below meth c s₁ B hml hv
  obtain ⟨rfl, hsz, hP, hK, hD0, hE⟩ := hv
  have hx := B.exec
  have hb := B.bytes
  have hr := B.returns
  have hts0 := atoms_spec (ws := ws_ yX17_puts cX17_puts 3 (some .int)) B.pre
  have hts := fun (w : Cond) (h : w ∈ pw) => hts0 w (List.mem_cons_of_mem _ h)
  have hown : s.vm.findClass RX17 = some m.cls := findClass_of_methodNamed B.named
  have hlocks := B.notSynchronized
  subst hsz
  have hD := hD0.self (sz := s.heap.size)
  generalize hAe : va_A [(h0, .inr (14, [.ref l1, .ref l2, .ref l3, .ref l4, .ref l5, .ref l6, .ref l7, .ref l8, .ref l9, .ref ce, .null, .int 0, .int 0, .int 0, .int 0, .int 0, .int 0, .int 0, .int 0, .int 0, .int 0, .int 0, .int 0, .long 0, .ref y1, .ref y2, .ref y3, .ref y4, .ref y5, .int 0, .int 0])), (l1, .inr (0, [.int 0, .ref z.1, .int 0]))] s.heap.size = A at hD hE ⊢
  have hA : ∀ q : Nat, s.heap.size ≤ q → A q := fun q h => by rw [← hAe]; exact Or.inr h
  have hS : va_S A s.heap s.heap [] := va_S.rf
  have hN := hE.1
  have hP : va_P (dC, dI) pcl [(h0, .inr (14, [.ref l1, .ref l2, .ref l3, .ref l4, .ref l5, .ref l6, .ref l7, .ref l8, .ref l9, .ref ce, .null, .int 0, .int 0, .int 0, .int 0, .int 0, .int 0, .int 0, .int 0, .int 0, .int 0, .int 0, .int 0, .long 0, .ref y1, .ref y2, .ref y3, .ref y4, .ref y5, .int 0, .int 0])), (l1, .inr (0, [.int 0, .ref z.1, .int 0]))] s.heap := hP
  have hl := lv_entry ([.ref h0, .int 110, .int n]) (n := 3) (Nat.le_of_ble_eq_true rfl)
  rw [lg_entry_eq]
  generalize (lg_sl ([.ref h0, .int 110, .int n]) ++ List.replicate (3 - (lg_sl ([.ref h0, .int 110, .int n])).length) Slot.unset).toArray = ls at hl ⊢
  have hl : lv_has ls 3 [(0, .ref h0), (1, .int 110), (2, .int n)] := hl
  obtain ⟨H, hH0⟩ : ∃ H, H = s.heap := ⟨_, rfl⟩
  rw [← hH0] at hP ⊢
  have hS : va_S A s.heap H [] := by rw [hH0]; exact hS
  refine lv_aload_n hx hb dX17_puts_0 rfl (lv_at hl 0 rfl) ?_
  refine va_get (D := (dC, dI)) (ci := 14) (v := .ref l1) (C := RX17) (T := TX17) (N := 31) hx hb hts pinX17 hown hK hP 0 rfl rfl 0 (by decide) (hts _ e189) (fun _ h9 => h9) rfl dX17_puts_1 ?_
  have hPc := hP.sub (ws' := [(l1, .inr (0, [.int 0, .ref z.1, .int 0]))]) [1] rfl
  have hDc := hD.sub (ws' := [(l1, .inr (0, [.int 0, .ref z.1, .int 0]))]) [1] (by decide) rfl
  have hKc := hK.sub (tys' := []) [] rfl
  have hFc := va_free (wc := [(l1, .inr (0, [.int 0, .ref z.1, .int 0]))]) hD hS hA [1] rfl
  refine va_calli (va_runV (As := []) (rest := []) ⟨hx, hb, hml, hown, hts⟩ (c_Jx4a65c_size_8abf5 l dC dI z l1 0 z.1 0 H.size) (cwV 0 hts (ws_goodV e205 e206 e208 e185 e207) rfl rfl rfl ⟨rfl, by decide +kernel, by decide +kernel, by decide +kernel⟩ ⟨Nat.le_of_ble_eq_true rfl, Nat.le_of_ble_eq_true rfl⟩) ⟨pPre_blind, va_recv hKc hPc (ci := 0) (q0 := 0) rfl rfl, fun U hU hW => ⟨rfl, pPre_at hPc hKc hDc hE hS hFc U hU hW⟩⟩ rfl rfl hl.1 rfl (lv_room (Nat.le_of_ble_eq_true rfl)) dX17_puts_4 ⟨Nat.le_of_ble_eq_true rfl, Nat.le_of_ble_eq_true rfl⟩) hS (fun q _ h => hFc q h) hFc (fun r1 u2 t H1 locs ht hvm hw hB hz1 hk1 hS => ?_)
  obtain ⟨hP1, hK1, hD1⟩ := hB
  rw [ht] at hP1
  have hK1 := va_K.moved hvm.symm hK1
  obtain ⟨hP, hD⟩ := va_join (wr := [(h0, .inr (14, [.ref l1, .ref l2, .ref l3, .ref l4, .ref l5, .ref l6, .ref l7, .ref l8, .ref l9, .ref ce, .null, .int 0, .int 0, .int 0, .int 0, .int 0, .int 0, .int 0, .int 0, .int 0, .int 0, .int 0, .int 0, .long 0, .ref y1, .ref y2, .ref y3, .ref y4, .ref y5, .int 0, .int 0]))]) (w1 := [(l1, .inr (0, [.int 0, .ref z.1, .int 0]))]) hP hD [1] [0] rfl rfl (by decide) (by decide) hk1 hFc hP1 hD1
  have hK := hK.app hK1
  generalize H1 = H at hP hS ⊢
  have hP : va_P (dC, dI) pcl [(h0, .inr (14, [.ref l1, .ref l2, .ref l3, .ref l4, .ref l5, .ref l6, .ref l7, .ref l8, .ref l9, .ref ce, .null, .int 0, .int 0, .int 0, .int 0, .int 0, .int 0, .int 0, .int 0, .int 0, .int 0, .int 0, .int 0, .long 0, .ref y1, .ref y2, .ref y3, .ref y4, .ref y5, .int 0, .int 0])), (l1, .inr (0, [.int 0, .ref z.1, .int 0]))] H := hP
  have hD : va_D A [(h0, .inr (14, [.ref l1, .ref l2, .ref l3, .ref l4, .ref l5, .ref l6, .ref l7, .ref l8, .ref l9, .ref ce, .null, .int 0, .int 0, .int 0, .int 0, .int 0, .int 0, .int 0, .int 0, .int 0, .int 0, .int 0, .int 0, .long 0, .ref y1, .ref y2, .ref y3, .ref y4, .ref y5, .int 0, .int 0])), (l1, .inr (0, [.int 0, .ref z.1, .int 0]))] := hD
  have hK : va_K (dC, dI) pcl [] s := hK
  subst hw
  refine lv_bipush (v := 40) hx hb dX17_puts_7 (by decide) ?_
  refine lv_icmp_ne (tgt := 28) hx hb dX17_puts_9 (by decide) (fun _ => ?_) (fun h9 => absurd h9 (by decide))
  refine lv_aload_n hx hb dX17_puts_28 rfl (lv_at hl 0 rfl) ?_
  refine va_get (D := (dC, dI)) (ci := 14) (v := .ref l1) (C := RX17) (T := TX17) (N := 31) hx hb hts pinX17 hown hK hP 0 rfl rfl 0 (by decide) (hts _ e189) (fun _ h9 => h9) rfl dX17_puts_29 ?_
  refine va_new (ci := 13) (fs := [.int 0, .int 0]) (C := RX14) (T := TX14) (N := 2) hx hb hts pinX14 tyX14 tyX14_ok hown (hts _ e219) (hts _ e220) (hts _ e221) hK hP hD hS hA rfl (fun j hj => by rcases (show j = 0 ∨ j = 1 by omega) with rfl | rfl <;> rfl) (Nat.le_of_ble_eq_true rfl) (Nat.le_of_ble_eq_true rfl) dX17_puts_32 (fun q3 H hP hD hS => ?_)
  have hP : va_P (dC, dI) pcl [(h0, .inr (14, [.ref l1, .ref l2, .ref l3, .ref l4, .ref l5, .ref l6, .ref l7, .ref l8, .ref l9, .ref ce, .null, .int 0, .int 0, .int 0, .int 0, .int 0, .int 0, .int 0, .int 0, .int 0, .int 0, .int 0, .int 0, .long 0, .ref y1, .ref y2, .ref y3, .ref y4, .ref y5, .int 0, .int 0])), (l1, .inr (0, [.int 0, .ref z.1, .int 0])), (q3, .inr (13, [.int 0, .int 0]))] H := hP
  have hD : va_D A [(h0, .inr (14, [.ref l1, .ref l2, .ref l3, .ref l4, .ref l5, .ref l6, .ref l7, .ref l8, .ref l9, .ref ce, .null, .int 0, .int 0, .int 0, .int 0, .int 0, .int 0, .int 0, .int 0, .int 0, .int 0, .int 0, .int 0, .long 0, .ref y1, .ref y2, .ref y3, .ref y4, .ref y5, .int 0, .int 0])), (l1, .inr (0, [.int 0, .ref z.1, .int 0])), (q3, .inr (13, [.int 0, .int 0]))] := hD
  refine W.widen (k := 1) (n := 2) (Nat.le_of_ble_eq_true rfl) (Nat.le_of_ble_eq_true rfl) ?_
  refine lv_dup hx hb dX17_puts_35 rfl ?_
  refine lv_iload_n hx hb dX17_puts_36 rfl (lv_at hl 1 rfl) ?_
  refine lv_iload_n hx hb dX17_puts_37 rfl (lv_at hl 2 rfl) ?_
  have hPc := hP.sub (ws' := [(q3, .inr (13, [.int 0, .int 0]))]) [2] rfl
  have hDc := hD.sub (ws' := [(q3, .inr (13, [.int 0, .int 0]))]) [2] (by decide) rfl
  have hKc := hK.sub (tys' := []) [] rfl
  have hFc := va_free (wc := [(q3, .inr (13, [.int 0, .int 0]))]) hD hS hA [2] rfl
  refine va_callv (va_runI (As := [.int 110, .int n]) (rest := [.ref q3, .ref l1]) ⟨hx, hb, hml, hown, hts⟩ (c_X14_init_110 l dC dI z q3 n H.size) (cwI 2 hts (ws_good e224) rfl rfl rfl (hts _ e221) (hts _ e222) (hts _ e223) rfl ⟨by decide +kernel, by decide +kernel, by decide +kernel⟩ ⟨Nat.le_of_ble_eq_true rfl, Nat.le_of_ble_eq_true rfl⟩) ⟨pPre_blind, fun U hU hW => ⟨rfl, pPre_at hPc hKc hDc hE hS hFc U hU hW⟩⟩ rfl rfl hl.1 rfl (lv_room (Nat.le_of_ble_eq_true rfl)) dX17_puts_38 ⟨Nat.le_of_ble_eq_true rfl, Nat.le_of_ble_eq_true rfl⟩) hS (fun q _ h => hFc q h) hFc (fun u5 t H1 locs ht hvm hw hB hz1 hk1 hS => ?_)
  obtain ⟨hP1, hK1, hD1⟩ := hB
  rw [ht] at hP1
  have hK1 := va_K.moved hvm.symm hK1
  obtain ⟨hP, hD⟩ := va_join (wr := [(h0, .inr (14, [.ref l1, .ref l2, .ref l3, .ref l4, .ref l5, .ref l6, .ref l7, .ref l8, .ref l9, .ref ce, .null, .int 0, .int 0, .int 0, .int 0, .int 0, .int 0, .int 0, .int 0, .int 0, .int 0, .int 0, .int 0, .long 0, .ref y1, .ref y2, .ref y3, .ref y4, .ref y5, .int 0, .int 0])), (l1, .inr (0, [.int 0, .ref z.1, .int 0]))]) (w1 := [(q3, .inr (13, [.int 110, .int n]))]) hP hD [2] [0, 1] rfl rfl (by decide) (by decide) hk1 hFc hP1 hD1
  have hK := hK.app hK1
  generalize H1 = H at hP hS ⊢
  have hP : va_P (dC, dI) pcl [(h0, .inr (14, [.ref l1, .ref l2, .ref l3, .ref l4, .ref l5, .ref l6, .ref l7, .ref l8, .ref l9, .ref ce, .null, .int 0, .int 0, .int 0, .int 0, .int 0, .int 0, .int 0, .int 0, .int 0, .int 0, .int 0, .int 0, .long 0, .ref y1, .ref y2, .ref y3, .ref y4, .ref y5, .int 0, .int 0])), (l1, .inr (0, [.int 0, .ref z.1, .int 0])), (q3, .inr (13, [.int 110, .int n]))] H := hP
  have hD : va_D A [(h0, .inr (14, [.ref l1, .ref l2, .ref l3, .ref l4, .ref l5, .ref l6, .ref l7, .ref l8, .ref l9, .ref ce, .null, .int 0, .int 0, .int 0, .int 0, .int 0, .int 0, .int 0, .int 0, .int 0, .int 0, .int 0, .int 0, .long 0, .ref y1, .ref y2, .ref y3, .ref y4, .ref y5, .int 0, .int 0])), (l1, .inr (0, [.int 0, .ref z.1, .int 0])), (q3, .inr (13, [.int 110, .int n]))] := hD
  have hK : va_K (dC, dI) pcl [] s := hK
  have hPc := hP.sub (ws' := [(l1, .inr (0, [.int 0, .ref z.1, .int 0])), (q3, .inr (13, [.int 110, .int n]))]) [1, 2] rfl
  have hDc := hD.sub (ws' := [(l1, .inr (0, [.int 0, .ref z.1, .int 0])), (q3, .inr (13, [.int 110, .int n]))]) [1, 2] (by decide) rfl
  have hKc := hK.sub (tys' := []) [] rfl
  have hFc := va_free (wc := [(l1, .inr (0, [.int 0, .ref z.1, .int 0])), (q3, .inr (13, [.int 110, .int n]))]) hD hS hA [1, 2] rfl
  refine va_calli (va_runV (As := [.ref q3]) (rest := []) ⟨hx, hb, hml, hown, hts⟩ (c_Jx4a65c_add_9ea2d l dC dI z l1 q3 110 n H.size) (cwV 1 hts (ws_goodV e225 e226 e228 e185 e227) rfl rfl rfl ⟨rfl, by decide +kernel, by decide +kernel, by decide +kernel⟩ ⟨Nat.le_of_ble_eq_true rfl, Nat.le_of_ble_eq_true rfl⟩) ⟨pPre_blind, va_recv hKc hPc (ci := 0) (q0 := 0) rfl rfl, fun U hU hW => ⟨rfl, pPre_at hPc hKc hDc hE hS hFc U hU hW⟩⟩ rfl rfl hl.1 rfl (lv_room (Nat.le_of_ble_eq_true rfl)) dX17_puts_41 ⟨Nat.le_of_ble_eq_true rfl, Nat.le_of_ble_eq_true rfl⟩) hS (fun q _ h => hFc q h) hFc (fun r6 u8 t H1 locs ht hvm hw hB hz1 hk1 hS => ?_)
  obtain ⟨q7, hP1, hK1, hD1⟩ := hB
  rw [ht] at hP1
  have hK1 := va_K.moved hvm.symm hK1
  obtain ⟨hP, hD⟩ := va_join (wr := [(h0, .inr (14, [.ref l1, .ref l2, .ref l3, .ref l4, .ref l5, .ref l6, .ref l7, .ref l8, .ref l9, .ref ce, .null, .int 0, .int 0, .int 0, .int 0, .int 0, .int 0, .int 0, .int 0, .int 0, .int 0, .int 0, .int 0, .long 0, .ref y1, .ref y2, .ref y3, .ref y4, .ref y5, .int 0, .int 0]))]) (w1 := [(l1, .inr (0, [.int 1, .ref q7, .int 1])), (q3, .inr (13, [.int 110, .int n]))]) hP hD [1, 2] [0] rfl rfl (by decide) (by decide) hk1 hFc hP1 hD1
  have hK := hK.app hK1
  generalize H1 = H at hP hS ⊢
  have hP : va_P (dC, dI) pcl [(h0, .inr (14, [.ref l1, .ref l2, .ref l3, .ref l4, .ref l5, .ref l6, .ref l7, .ref l8, .ref l9, .ref ce, .null, .int 0, .int 0, .int 0, .int 0, .int 0, .int 0, .int 0, .int 0, .int 0, .int 0, .int 0, .int 0, .long 0, .ref y1, .ref y2, .ref y3, .ref y4, .ref y5, .int 0, .int 0])), (l1, .inr (0, [.int 1, .ref q7, .int 1])), (q3, .inr (13, [.int 110, .int n]))] H := hP
  have hD : va_D A [(h0, .inr (14, [.ref l1, .ref l2, .ref l3, .ref l4, .ref l5, .ref l6, .ref l7, .ref l8, .ref l9, .ref ce, .null, .int 0, .int 0, .int 0, .int 0, .int 0, .int 0, .int 0, .int 0, .int 0, .int 0, .int 0, .int 0, .long 0, .ref y1, .ref y2, .ref y3, .ref y4, .ref y5, .int 0, .int 0])), (l1, .inr (0, [.int 1, .ref q7, .int 1])), (q3, .inr (13, [.int 110, .int n]))] := hD
  have hK : va_K (dC, dI) pcl [] s := hK
  refine W.widen (k := 2) (n := 12) (Nat.le_of_ble_eq_true rfl) (Nat.le_of_ble_eq_true rfl) ?_
  subst hw
  refine lv_pop hx hb dX17_puts_44 rfl ?_
  refine lv_aload_n hx hb dX17_puts_45 rfl (lv_at hl 0 rfl) ?_
  refine lv_aload_n hx hb dX17_puts_46 rfl (lv_at hl 0 rfl) ?_
  refine va_get (D := (dC, dI)) (ci := 14) (v := .ref l1) (C := RX17) (T := TX17) (N := 31) hx hb hts pinX17 hown hK hP 0 rfl rfl 0 (by decide) (hts _ e189) (fun _ h9 => h9) rfl dX17_puts_47 ?_
  have hPc := hP.sub (ws' := [(l1, .inr (0, [.int 1, .ref q7, .int 1]))]) [1] rfl
  have hDc := hD.sub (ws' := [(l1, .inr (0, [.int 1, .ref q7, .int 1]))]) [1] (by decide) rfl
  have hKc := hK.sub (tys' := []) [] rfl
  have hFc := va_free (wc := [(l1, .inr (0, [.int 1, .ref q7, .int 1]))]) hD hS hA [1] rfl
  refine va_calli (va_runV (As := []) (rest := [.ref h0]) ⟨hx, hb, hml, hown, hts⟩ (c_Jx4a65c_size_8abf5 l dC dI z l1 1 q7 1 H.size) (cwV 0 hts (ws_goodV e205 e206 e208 e185 e207) rfl rfl rfl ⟨rfl, by decide +kernel, by decide +kernel, by decide +kernel⟩ ⟨Nat.le_of_ble_eq_true rfl, Nat.le_of_ble_eq_true rfl⟩) ⟨pPre_blind, va_recv hKc hPc (ci := 0) (q0 := 0) rfl rfl, fun U hU hW => ⟨rfl, pPre_at hPc hKc hDc hE hS hFc U hU hW⟩⟩ rfl rfl hl.1 rfl (lv_room (Nat.le_of_ble_eq_true rfl)) dX17_puts_50 ⟨Nat.le_of_ble_eq_true rfl, Nat.le_of_ble_eq_true rfl⟩) hS (fun q _ h => hFc q h) hFc (fun r9 u10 t H1 locs ht hvm hw hB hz1 hk1 hS => ?_)
  obtain ⟨hP1, hK1, hD1⟩ := hB
  rw [ht] at hP1
  have hK1 := va_K.moved hvm.symm hK1
  obtain ⟨hP, hD⟩ := va_join (wr := [(h0, .inr (14, [.ref l1, .ref l2, .ref l3, .ref l4, .ref l5, .ref l6, .ref l7, .ref l8, .ref l9, .ref ce, .null, .int 0, .int 0, .int 0, .int 0, .int 0, .int 0, .int 0, .int 0, .int 0, .int 0, .int 0, .int 0, .long 0, .ref y1, .ref y2, .ref y3, .ref y4, .ref y5, .int 0, .int 0])), (q3, .inr (13, [.int 110, .int n]))]) (w1 := [(l1, .inr (0, [.int 1, .ref q7, .int 1]))]) hP hD [1] [0, 2] rfl rfl (by decide) (by decide) hk1 hFc hP1 hD1
  have hK := hK.app hK1
  generalize H1 = H at hP hS ⊢
  have hP : va_P (dC, dI) pcl [(h0, .inr (14, [.ref l1, .ref l2, .ref l3, .ref l4, .ref l5, .ref l6, .ref l7, .ref l8, .ref l9, .ref ce, .null, .int 0, .int 0, .int 0, .int 0, .int 0, .int 0, .int 0, .int 0, .int 0, .int 0, .int 0, .int 0, .long 0, .ref y1, .ref y2, .ref y3, .ref y4, .ref y5, .int 0, .int 0])), (q3, .inr (13, [.int 110, .int n])), (l1, .inr (0, [.int 1, .ref q7, .int 1]))] H := hP
  have hD : va_D A [(h0, .inr (14, [.ref l1, .ref l2, .ref l3, .ref l4, .ref l5, .ref l6, .ref l7, .ref l8, .ref l9, .ref ce, .null, .int 0, .int 0, .int 0, .int 0, .int 0, .int 0, .int 0, .int 0, .int 0, .int 0, .int 0, .int 0, .long 0, .ref y1, .ref y2, .ref y3, .ref y4, .ref y5, .int 0, .int 0])), (q3, .inr (13, [.int 110, .int n])), (l1, .inr (0, [.int 1, .ref q7, .int 1]))] := hD
  have hK : va_K (dC, dI) pcl [] s := hK
  subst hw
  have hPc := hP.sub (ws' := [(h0, .inr (14, [.ref l1, .ref l2, .ref l3, .ref l4, .ref l5, .ref l6, .ref l7, .ref l8, .ref l9, .ref ce, .null, .int 0, .int 0, .int 0, .int 0, .int 0, .int 0, .int 0, .int 0, .int 0, .int 0, .int 0, .int 0, .long 0, .ref y1, .ref y2, .ref y3, .ref y4, .ref y5, .int 0, .int 0]))]) [0] rfl
  have hDc := hD.sub (ws' := [(h0, .inr (14, [.ref l1, .ref l2, .ref l3, .ref l4, .ref l5, .ref l6, .ref l7, .ref l8, .ref l9, .ref ce, .null, .int 0, .int 0, .int 0, .int 0, .int 0, .int 0, .int 0, .int 0, .int 0, .int 0, .int 0, .int 0, .long 0, .ref y1, .ref y2, .ref y3, .ref y4, .ref y5, .int 0, .int 0]))]) [0] (by decide) rfl
  have hKc := hK.sub (tys' := []) [] rfl
  have hFc := va_free (wc := [(h0, .inr (14, [.ref l1, .ref l2, .ref l3, .ref l4, .ref l5, .ref l6, .ref l7, .ref l8, .ref l9, .ref ce, .null, .int 0, .int 0, .int 0, .int 0, .int 0, .int 0, .int 0, .int 0, .int 0, .int 0, .int 0, .int 0, .long 0, .ref y1, .ref y2, .ref y3, .ref y4, .ref y5, .int 0, .int 0]))]) hD hS hA [0] rfl
  refine va_calli (va_runV (As := [.int 1]) (rest := []) ⟨hx, hb, hml, hown, hts⟩ (c_X17_tell l dC dI z h0 l1 l2 l3 l4 l5 l6 l7 l8 l9 ce y1 y2 y3 y4 y5 1 H.size) (cwV 1 hts (ws_goodV e229 e230 e232 e212 e231) rfl rfl rfl ⟨rfl, by decide +kernel, by decide +kernel, by decide +kernel⟩ ⟨Nat.le_of_ble_eq_true rfl, Nat.le_of_ble_eq_true rfl⟩) ⟨pPre_blind, va_recv hKc hPc (ci := 14) (q0 := 0) rfl rfl, fun U hU hW => ⟨rfl, pPre_at hPc hKc hDc hE hS hFc U hU hW⟩⟩ rfl rfl hl.1 rfl (lv_room (Nat.le_of_ble_eq_true rfl)) dX17_puts_53 ⟨Nat.le_of_ble_eq_true rfl, Nat.le_of_ble_eq_true rfl⟩) hS (fun q _ h => hFc q h) hFc (fun r11 u12 t H1 locs ht hvm hw hB hz1 hk1 hS => ?_)
  obtain ⟨hP1, hK1, hD1⟩ := hB
  rw [ht] at hP1
  have hK1 := va_K.moved hvm.symm hK1
  obtain ⟨hP, hD⟩ := va_join (wr := [(q3, .inr (13, [.int 110, .int n])), (l1, .inr (0, [.int 1, .ref q7, .int 1]))]) (w1 := [(h0, .inr (14, [.ref l1, .ref l2, .ref l3, .ref l4, .ref l5, .ref l6, .ref l7, .ref l8, .ref l9, .ref ce, .null, .int 0, .int 0, .int 0, .int 0, .int 0, .int 0, .int 0, .int 0, .int 0, .int 0, .int 0, .int 0, .long 0, .ref y1, .ref y2, .ref y3, .ref y4, .ref y5, .int 0, .int 0]))]) hP hD [0] [1, 2] rfl rfl (by decide) (by decide) hk1 hFc hP1 hD1
  have hK := hK.app hK1
  generalize H1 = H at hP hS ⊢
  have hP : va_P (dC, dI) pcl [(q3, .inr (13, [.int 110, .int n])), (l1, .inr (0, [.int 1, .ref q7, .int 1])), (h0, .inr (14, [.ref l1, .ref l2, .ref l3, .ref l4, .ref l5, .ref l6, .ref l7, .ref l8, .ref l9, .ref ce, .null, .int 0, .int 0, .int 0, .int 0, .int 0, .int 0, .int 0, .int 0, .int 0, .int 0, .int 0, .int 0, .long 0, .ref y1, .ref y2, .ref y3, .ref y4, .ref y5, .int 0, .int 0]))] H := hP
  have hD : va_D A [(q3, .inr (13, [.int 110, .int n])), (l1, .inr (0, [.int 1, .ref q7, .int 1])), (h0, .inr (14, [.ref l1, .ref l2, .ref l3, .ref l4, .ref l5, .ref l6, .ref l7, .ref l8, .ref l9, .ref ce, .null, .int 0, .int 0, .int 0, .int 0, .int 0, .int 0, .int 0, .int 0, .int 0, .int 0, .int 0, .int 0, .long 0, .ref y1, .ref y2, .ref y3, .ref y4, .ref y5, .int 0, .int 0]))] := hD
  have hK : va_K (dC, dI) pcl [] s := hK
  subst hw
  have hP9 := hP.sub (ws' := [(h0, .inr (14, [.ref l1, .ref l2, .ref l3, .ref l4, .ref l5, .ref l6, .ref l7, .ref l8, .ref l9, .ref ce, .null, .int 0, .int 0, .int 0, .int 0, .int 0, .int 0, .int 0, .int 0, .int 0, .int 0, .int 0, .int 0, .long 0, .ref y1, .ref y2, .ref y3, .ref y4, .ref y5, .int 0, .int 0]))]) [2] rfl
  have hD9 := hD.sub (ws' := [(h0, .inr (14, [.ref l1, .ref l2, .ref l3, .ref l4, .ref l5, .ref l6, .ref l7, .ref l8, .ref l9, .ref ce, .null, .int 0, .int 0, .int 0, .int 0, .int 0, .int 0, .int 0, .int 0, .int 0, .int 0, .int 0, .int 0, .long 0, .ref y1, .ref y2, .ref y3, .ref y4, .ref y5, .int 0, .int 0]))]) [2] (by decide) rfl
  have hK9 := hK.sub (tys' := []) [] rfl
  refine W.widen (k := 2) (n := 12) (Nat.le_of_ble_eq_true rfl) (Nat.le_of_ble_eq_true rfl) ?_
  exact W.iret (v := 1) hx hb hr (fun t ht hW => ⟨⟨1, (), rfl, rfl, by rw [ht]; exact hP9, va_K.moved hW.alike hK9, hD9⟩, hS.F ht⟩) hS.2.2 dX17_puts_56
set_option maxHeartbeats 4000000 in
set_option maxRecDepth 100000 in
theorem c_X17_number (l : Launch) (dC : Nat → ClassId) (dI : Nat → Nat → Nat) (z : pG) (h0 : Nat) (l1 : Nat) (l2 : Nat) (l3 : Nat) (l4 : Nat) (l5 : Nat) (l6 : Nat) (l7 : Nat) (l8 : Nat) (l9 : Nat) (ce : Nat) (y1 : Nat) (y2 : Nat) (y3 : Nat) (y4 : Nat) (y5 : Nat) (n : Int32) (sz : Nat) : Met l yX17_number (ws_ yX17_number cX17_number 2 (some .int)) ({ frames := 6, cells := 2, slots := 12, locals := 123 }) (va_Pc [.ref h0, .int n] (pPre z dC dI [(h0, .inr (14, [.ref l1, .ref l2, .ref l3, .ref l4, .ref l5, .ref l6, .ref l7, .ref l8, .ref l9, .ref ce, .null, .int 0, .int 0, .int 0, .int 0, .int 0, .int 0, .int 0, .int 0, .int 0, .int 0, .int 0, .int 0, .long 0, .ref y1, .ref y2, .ref y3, .ref y4, .ref y5, .int 0, .int 0])), (l1, .inr (0, [.int 0, .ref z.1, .int 0]))] [] sz)) (va_Qi (fun (r : Int32) (_ : Unit) => r = 1) (fun _ t => pPost dC dI (va_A [(h0, .inr (14, [.ref l1, .ref l2, .ref l3, .ref l4, .ref l5, .ref l6, .ref l7, .ref l8, .ref l9, .ref ce, .null, .int 0, .int 0, .int 0, .int 0, .int 0, .int 0, .int 0, .int 0, .int 0, .int 0, .int 0, .int 0, .long 0, .ref y1, .ref y2, .ref y3, .ref y4, .ref y5, .int 0, .int 0])), (l1, .inr (0, [.int 0, .ref z.1, .int 0]))] sz) [(h0, .inr (14, [.ref l1, .ref l2, .ref l3, .ref l4, .ref l5, .ref l6, .ref l7, .ref l8, .ref l9, .ref ce, .null, .int 0, .int 0, .int 0, .int 0, .int 0, .int 0, .int 0, .int 0, .int 0, .int 0, .int 0, .int 0, .long 0, .ref y1, .ref y2, .ref y3, .ref y4, .ref y5, .int 0, .int 0]))] [] t) (va_A [(h0, .inr (14, [.ref l1, .ref l2, .ref l3, .ref l4, .ref l5, .ref l6, .ref l7, .ref l8, .ref l9, .ref ce, .null, .int 0, .int 0, .int 0, .int 0, .int 0, .int 0, .int 0, .int 0, .int 0, .int 0, .int 0, .int 0, .long 0, .ref y1, .ref y2, .ref y3, .ref y4, .ref y5, .int 0, .int 0])), (l1, .inr (0, [.int 0, .ref z.1, .int 0]))] sz)) 2 12 (va_A [(h0, .inr (14, [.ref l1, .ref l2, .ref l3, .ref l4, .ref l5, .ref l6, .ref l7, .ref l8, .ref l9, .ref ce, .null, .int 0, .int 0, .int 0, .int 0, .int 0, .int 0, .int 0, .int 0, .int 0, .int 0, .int 0, .int 0, .long 0, .ref y1, .ref y2, .ref y3, .ref y4, .ref y5, .int 0, .int 0])), (l1, .inr (0, [.int 0, .ref z.1, .int 0]))] sz) := by
  refine Met.ofW (cc := cX17_number) (maxL := 2) (ret := (some .int)) (by decide) rfl ?_
  intro p e s m args below meth c s₁ B hml hv
  obtain ⟨rfl, hsz, hP, hK, hD0, hE⟩ := hv
  have hx := B.exec
  have hb := B.bytes
  have hr := B.returns
  have hts0 := atoms_spec (ws := ws_ yX17_number cX17_number 2 (some .int)) B.pre
  have hts := fun (w : Cond) (h : w ∈ pw) => hts0 w (List.mem_cons_of_mem _ h)
  have hown : s.vm.findClass RX17 = some m.cls := findClass_of_methodNamed B.named
  have hlocks := B.notSynchronized
  subst hsz
  have hD := hD0.self (sz := s.heap.size)
  generalize hAe : va_A [(h0, .inr (14, [.ref l1, .ref l2, .ref l3, .ref l4, .ref l5, .ref l6, .ref l7, .ref l8, .ref l9, .ref ce, .null, .int 0, .int 0, .int 0, .int 0, .int 0, .int 0, .int 0, .int 0, .int 0, .int 0, .int 0, .int 0, .long 0, .ref y1, .ref y2, .ref y3, .ref y4, .ref y5, .int 0, .int 0])), (l1, .inr (0, [.int 0, .ref z.1, .int 0]))] s.heap.size = A at hD hE ⊢
  have hA : ∀ q : Nat, s.heap.size ≤ q → A q := fun q h => by rw [← hAe]; exact Or.inr h
  have hS : va_S A s.heap s.heap [] := va_S.rf
  have hN := hE.1
  have hP : va_P (dC, dI) pcl [(h0, .inr (14, [.ref l1, .ref l2, .ref l3, .ref l4, .ref l5, .ref l6, .ref l7, .ref l8, .ref l9, .ref ce, .null, .int 0, .int 0, .int 0, .int 0, .int 0, .int 0, .int 0, .int 0, .int 0, .int 0, .int 0, .int 0, .long 0, .ref y1, .ref y2, .ref y3, .ref y4, .ref y5, .int 0, .int 0])), (l1, .inr (0, [.int 0, .ref z.1, .int 0]))] s.heap := hP
  have hl := lv_entry ([.ref h0, .int n]) (n := 2) (Nat.le_of_ble_eq_true rfl)
  rw [lg_entry_eq]
  generalize (lg_sl ([.ref h0, .int n]) ++ List.replicate (2 - (lg_sl ([.ref h0, .int n])).length) Slot.unset).toArray = ls at hl ⊢
  have hl : lv_has ls 2 [(0, .ref h0), (1, .int n)] := hl
  obtain ⟨H, hH0⟩ : ∃ H, H = s.heap := ⟨_, rfl⟩
  rw [← hH0] at hP ⊢
  have hS : va_S A s.heap H [] := by rw [hH0]; exact hS
  refine lv_aload_n hx hb dX17_number_0 rfl (lv_at hl 0 rfl) ?_
  refine lv_bipush (v := 110) hx hb dX17_number_1 (by decide) ?_
  refine lv_iload_n hx hb dX17_number_3 rfl (lv_at hl 1 rfl) ?_
  have hPc := hP.sub (ws' := [(h0, .inr (14, [.ref l1, .ref l2, .ref l3, .ref l4, .ref l5, .ref l6, .ref l7, .ref l8, .ref l9, .ref ce, .null, .int 0, .int 0, .int 0, .int 0, .int 0, .int 0, .int 0, .int 0, .int 0, .int 0, .int 0, .int 0, .long 0, .ref y1, .ref y2, .ref y3, .ref y4, .ref y5, .int 0, .int 0])), (l1, .inr (0, [.int 0, .ref z.1, .int 0]))]) [0, 1] rfl
  have hDc := hD.sub (ws' := [(h0, .inr (14, [.ref l1, .ref l2, .ref l3, .ref l4, .ref l5, .ref l6, .ref l7, .ref l8, .ref l9, .ref ce, .null, .int 0, .int 0, .int 0, .int 0, .int 0, .int 0, .int 0, .int 0, .int 0, .int 0, .int 0, .int 0, .long 0, .ref y1, .ref y2, .ref y3, .ref y4, .ref y5, .int 0, .int 0])), (l1, .inr (0, [.int 0, .ref z.1, .int 0]))]) [0, 1] (by decide) rfl
  have hKc := hK.sub (tys' := []) [] rfl
  have hFc := va_free (wc := [(h0, .inr (14, [.ref l1, .ref l2, .ref l3, .ref l4, .ref l5, .ref l6, .ref l7, .ref l8, .ref l9, .ref ce, .null, .int 0, .int 0, .int 0, .int 0, .int 0, .int 0, .int 0, .int 0, .int 0, .int 0, .int 0, .int 0, .long 0, .ref y1, .ref y2, .ref y3, .ref y4, .ref y5, .int 0, .int 0])), (l1, .inr (0, [.int 0, .ref z.1, .int 0]))]) hD hS hA [0, 1] rfl
  refine va_calli (va_runV (As := [.int 110, .int n]) (rest := []) ⟨hx, hb, hml, hown, hts⟩ (c_X17_puts_110 l dC dI z h0 l1 l2 l3 l4 l5 l6 l7 l8 l9 ce y1 y2 y3 y4 y5 n H.size) (cwV 2 hts (ws_goodV e234 e235 e237 e212 e236) rfl rfl rfl ⟨rfl, by decide +kernel, by decide +kernel, by decide +kernel⟩ ⟨Nat.le_of_ble_eq_true rfl, Nat.le_of_ble_eq_true rfl⟩) ⟨pPre_blind, va_recv hKc hPc (ci := 14) (q0 := 0) rfl rfl, fun U hU hW => ⟨rfl, pPre_at hPc hKc hDc hE hS hFc U hU hW⟩⟩ rfl rfl hl.1 rfl (lv_room (Nat.le_of_ble_eq_true rfl)) dX17_number_4 ⟨Nat.le_of_ble_eq_true rfl, Nat.le_of_ble_eq_true rfl⟩) hS (fun q _ h => hFc q h) hFc (fun r1 u2 t H1 locs ht hvm hw hB hz1 hk1 hS => ?_)
  obtain ⟨hP1, hK1, hD1⟩ := hB
  rw [ht] at hP1
  have hK1 := va_K.moved hvm.symm hK1
  obtain ⟨hP, hD⟩ := va_join (wr := []) (w1 := [(h0, .inr (14, [.ref l1, .ref l2, .ref l3, .ref l4, .ref l5, .ref l6, .ref l7, .ref l8, .ref l9, .ref ce, .null, .int 0, .int 0, .int 0, .int 0, .int 0, .int 0, .int 0, .int 0, .int 0, .int 0, .int 0, .int 0, .long 0, .ref y1, .ref y2, .ref y3, .ref y4, .ref y5, .int 0, .int 0]))]) hP hD [0, 1] [] rfl rfl (by decide) (by decide) hk1 hFc hP1 hD1
  have hK := hK.app hK1
  generalize H1 = H at hP hS ⊢
  have hP : va_P (dC, dI) pcl [(h0, .inr (14, [.ref l1, .ref l2, .ref l3, .ref l4, .ref l5, .ref l6, .ref l7, .ref l8, .ref l9, .ref ce, .null, .int 0, .int 0, .int 0, .int 0, .int 0, .int 0, .int 0, .int 0, .int 0, .int 0, .int 0, .int 0, .long 0, .ref y1, .ref y2, .ref y3, .ref y4, .ref y5, .int 0, .int 0]))] H := hP
  have hD : va_D A [(h0, .inr (14, [.ref l1, .ref l2, .ref l3, .ref l4, .ref l5, .ref l6, .ref l7, .ref l8, .ref l9, .ref ce, .null, .int 0, .int 0, .int 0, .int 0, .int 0, .int 0, .int 0, .int 0, .int 0, .int 0, .int 0, .int 0, .long 0, .ref y1, .ref y2, .ref y3, .ref y4, .ref y5, .int 0, .int 0]))] := hD
  have hK : va_K (dC, dI) pcl [] s := hK
  refine W.widen (k := 2) (n := 12) (Nat.le_of_ble_eq_true rfl) (Nat.le_of_ble_eq_true rfl) ?_
  subst hw
  have hP9 := hP.sub (ws' := [(h0, .inr (14, [.ref l1, .ref l2, .ref l3, .ref l4, .ref l5, .ref l6, .ref l7, .ref l8, .ref l9, .ref ce, .null, .int 0, .int 0, .int 0, .int 0, .int 0, .int 0, .int 0, .int 0, .int 0, .int 0, .int 0, .int 0, .long 0, .ref y1, .ref y2, .ref y3, .ref y4, .ref y5, .int 0, .int 0]))]) [0] rfl
  have hD9 := hD.sub (ws' := [(h0, .inr (14, [.ref l1, .ref l2, .ref l3, .ref l4, .ref l5, .ref l6, .ref l7, .ref l8, .ref l9, .ref ce, .null, .int 0, .int 0, .int 0, .int 0, .int 0, .int 0, .int 0, .int 0, .int 0, .int 0, .int 0, .int 0, .long 0, .ref y1, .ref y2, .ref y3, .ref y4, .ref y5, .int 0, .int 0]))]) [0] (by decide) rfl
  have hK9 := hK.sub (tys' := []) [] rfl
  refine W.widen (k := 2) (n := 12) (Nat.le_of_ble_eq_true rfl) (Nat.le_of_ble_eq_true rfl) ?_
  exact W.iret (v := 1) hx hb hr (fun t ht hW => ⟨⟨1, (), rfl, rfl, by rw [ht]; exact hP9, va_K.moved hW.alike hK9, hD9⟩, hS.F ht⟩) hS.2.2 dX17_number_7
set_option maxHeartbeats 4000000 in
set_option maxRecDepth 100000 in
theorem c_X17_name (l : Launch) (dC : Nat → ClassId) (dI : Nat → Nat → Nat) (z : pG) (h0 : Nat) (l1 : Nat) (l2 : Nat) (l3 : Nat) (l4 : Nat) (l5 : Nat) (l6 : Nat) (l7 : Nat) (l8 : Nat) (l9 : Nat) (ce : Nat) (y1 : Nat) (y2 : Nat) (y3 : Nat) (y4 : Nat) (y5 : Nat) (n : Int32) (sz : Nat) : Met l yX17_name (ws_ yX17_name cX17_name 2 (some .int)) ({ frames := 6, cells := 2, slots := 12, locals := 123 }) (va_Pc [.ref h0, .int n] (pPre z dC dI [(h0, .inr (14, [.ref l1, .ref l2, .ref l3, .ref l4, .ref l5, .ref l6, .ref l7, .ref l8, .ref l9, .ref ce, .null, .int 0, .int 0, .int 0, .int 0, .int 0, .int 0, .int 0, .int 0, .int 0, .int 0, .int 0, .int 0, .long 0, .ref y1, .ref y2, .ref y3, .ref y4, .ref y5, .int 0, .int 0])), (l1, .inr (0, [.int 0, .ref z.1, .int 0]))] [] sz)) (va_Qi (fun (r : Int32) (u : Int32) => (r = 1 ∧ u = 0 ∧ ¬ n < 0 ∧ n < 16) ∨ (r = 0 ∧ u = 1 ∧ (n < 0 ∨ ¬ n < 16))) (fun u t => pPost dC dI (va_A [(h0, .inr (14, [.ref l1, .ref l2, .ref l3, .ref l4, .ref l5, .ref l6, .ref l7, .ref l8, .ref l9, .ref ce, .null, .int 0, .int 0, .int 0, .int 0, .int 0, .int 0, .int 0, .int 0, .int 0, .int 0, .int 0, .int 0, .long 0, .ref y1, .ref y2, .ref y3, .ref y4, .ref y5, .int 0, .int 0])), (l1, .inr (0, [.int 0, .ref z.1, .int 0]))] sz) [(h0, .inr (14, [.ref l1, .ref l2, .ref l3, .ref l4, .ref l5, .ref l6, .ref l7, .ref l8, .ref l9, .ref ce, .null, .int 0, .int 0, .int u, .int 0, .int 0, .int 0, .int 0, .int 0, .int 0, .int 0, .int 0, .int 0, .long 0, .ref y1, .ref y2, .ref y3, .ref y4, .ref y5, .int 0, .int 0]))] [] t) (va_A [(h0, .inr (14, [.ref l1, .ref l2, .ref l3, .ref l4, .ref l5, .ref l6, .ref l7, .ref l8, .ref l9, .ref ce, .null, .int 0, .int 0, .int 0, .int 0, .int 0, .int 0, .int 0, .int 0, .int 0, .int 0, .int 0, .int 0, .long 0, .ref y1, .ref y2, .ref y3, .ref y4, .ref y5, .int 0, .int 0])), (l1, .inr (0, [.int 0, .ref z.1, .int 0]))] sz)) 2 12 (va_A [(h0, .inr (14, [.ref l1, .ref l2, .ref l3, .ref l4, .ref l5, .ref l6, .ref l7, .ref l8, .ref l9, .ref ce, .null, .int 0, .int 0, .int 0, .int 0, .int 0, .int 0, .int 0, .int 0, .int 0, .int 0, .int 0, .int 0, .long 0, .ref y1, .ref y2, .ref y3, .ref y4, .ref y5, .int 0, .int 0])), (l1, .inr (0, [.int 0, .ref z.1, .int 0]))] sz) := by
  refine Met.ofW (cc := cX17_name) (maxL := 2) (ret := (some .int)) (by decide) rfl ?_
  intro p e s m args below meth c s₁ B hml hv
  obtain ⟨rfl, hsz, hP, hK, hD0, hE⟩ := hv
  have hx := B.exec
  have hb := B.bytes
  have hr := B.returns
  have hts0 := atoms_spec (ws := ws_ yX17_name cX17_name 2 (some .int)) B.pre
  have hts := fun (w : Cond) (h : w ∈ pw) => hts0 w (List.mem_cons_of_mem _ h)
  have hown : s.vm.findClass RX17 = some m.cls := findClass_of_methodNamed B.named
  have hlocks := B.notSynchronized
  subst hsz
  have hD := hD0.self (sz := s.heap.size)
  generalize hAe : va_A [(h0, .inr (14, [.ref l1, .ref l2, .ref l3, .ref l4, .ref l5, .ref l6, .ref l7, .ref l8, .ref l9, .ref ce, .null, .int 0, .int 0, .int 0, .int 0, .int 0, .int 0, .int 0, .int 0, .int 0, .int 0, .int 0, .int 0, .long 0, .ref y1, .ref y2, .ref y3, .ref y4, .ref y5, .int 0, .int 0])), (l1, .inr (0, [.int 0, .ref z.1, .int 0]))] s.heap.size = A at hD hE ⊢
  have hA : ∀ q : Nat, s.heap.size ≤ q → A q := fun q h => by rw [← hAe]; exact Or.inr h
  have hS : va_S A s.heap s.heap [] := va_S.rf
  have hN := hE.1
  have hP : va_P (dC, dI) pcl [(h0, .inr (14, [.ref l1, .ref l2, .ref l3, .ref l4, .ref l5, .ref l6, .ref l7, .ref l8, .ref l9, .ref ce, .null, .int 0, .int 0, .int 0, .int 0, .int 0, .int 0, .int 0, .int 0, .int 0, .int 0, .int 0, .int 0, .long 0, .ref y1, .ref y2, .ref y3, .ref y4, .ref y5, .int 0, .int 0])), (l1, .inr (0, [.int 0, .ref z.1, .int 0]))] s.heap := hP
  have hl := lv_entry ([.ref h0, .int n]) (n := 2) (Nat.le_of_ble_eq_true rfl)
  rw [lg_entry_eq]
  generalize (lg_sl ([.ref h0, .int n]) ++ List.replicate (2 - (lg_sl ([.ref h0, .int n])).length) Slot.unset).toArray = ls at hl ⊢
  have hl : lv_has ls 2 [(0, .ref h0), (1, .int n)] := hl
  obtain ⟨H, hH0⟩ : ∃ H, H = s.heap := ⟨_, rfl⟩
  rw [← hH0] at hP ⊢
  have hS : va_S A s.heap H [] := by rw [hH0]; exact hS
  refine lv_iload_n hx hb dX17_name_0 rfl (lv_at hl 1 rfl) ?_
  refine lv_iconst (v := 0) hx hb dX17_name_1 (by decide) ?_
  refine lv_bipush (v := 15) hx hb dX17_name_2 (by decide) ?_
  have hPc := hP.sub (ws' := []) [] rfl
  have hDc := hD.sub (ws' := []) [] (by decide) rfl
  have hKc := hK.sub (tys' := []) [] rfl
  have hFc := va_free (wc := []) hD hS hA [] rfl
  refine va_calli (va_runS (As := [.int n, .int 0, .int 15]) (rest := []) ⟨hx, hb, hml, hown, hts⟩ (c_X17_in_16 l dC dI z n H.size) (va_cwS 3 hts (ws_goodS e238 e239 e212 e240) rfl rfl rfl ⟨by decide +kernel, by decide +kernel, by decide +kernel⟩ ⟨Nat.le_of_ble_eq_true rfl, Nat.le_of_ble_eq_true rfl⟩) ⟨pPre_blind, fun U hU hW => ⟨rfl, pPre_at hPc hKc hDc hE hS hFc U hU hW⟩⟩ rfl rfl hl.1 rfl (lv_room (Nat.le_of_ble_eq_true rfl)) dX17_name_4 ⟨Nat.le_of_ble_eq_true rfl, Nat.le_of_ble_eq_true rfl⟩) hS (fun q _ h => hFc q h) hFc (fun r1 u2 t H1 locs ht hvm hw hB hz1 hk1 hS => ?_)
  obtain ⟨hP1, hK1, hD1⟩ := hB
  rw [ht] at hP1
  have hK1 := va_K.moved hvm.symm hK1
  obtain ⟨hP, hD⟩ := va_join (wr := [(h0, .inr (14, [.ref l1, .ref l2, .ref l3, .ref l4, .ref l5, .ref l6, .ref l7, .ref l8, .ref l9, .ref ce, .null, .int 0, .int 0, .int 0, .int 0, .int 0, .int 0, .int 0, .int 0, .int 0, .int 0, .int 0, .int 0, .long 0, .ref y1, .ref y2, .ref y3, .ref y4, .ref y5, .int 0, .int 0])), (l1, .inr (0, [.int 0, .ref z.1, .int 0]))]) (w1 := []) hP hD [] [0, 1] rfl rfl (by decide) (by decide) hk1 hFc hP1 hD1
  have hK := hK.app hK1
  generalize H1 = H at hP hS ⊢
  have hP : va_P (dC, dI) pcl [(h0, .inr (14, [.ref l1, .ref l2, .ref l3, .ref l4, .ref l5, .ref l6, .ref l7, .ref l8, .ref l9, .ref ce, .null, .int 0, .int 0, .int 0, .int 0, .int 0, .int 0, .int 0, .int 0, .int 0, .int 0, .int 0, .int 0, .long 0, .ref y1, .ref y2, .ref y3, .ref y4, .ref y5, .int 0, .int 0])), (l1, .inr (0, [.int 0, .ref z.1, .int 0]))] H := hP
  have hD : va_D A [(h0, .inr (14, [.ref l1, .ref l2, .ref l3, .ref l4, .ref l5, .ref l6, .ref l7, .ref l8, .ref l9, .ref ce, .null, .int 0, .int 0, .int 0, .int 0, .int 0, .int 0, .int 0, .int 0, .int 0, .int 0, .int 0, .int 0, .long 0, .ref y1, .ref y2, .ref y3, .ref y4, .ref y5, .int 0, .int 0])), (l1, .inr (0, [.int 0, .ref z.1, .int 0]))] := hD
  have hK : va_K (dC, dI) pcl [] s := hK
  rcases hw with ⟨rfl, p3⟩ | ⟨rfl, p4⟩
  · refine lv_if_eq (tgt := 20) hx hb dX17_name_7 (by decide) (fun h9 => absurd h9 (by decide)) (fun _ => ?_)
    refine lv_aload_n hx hb dX17_name_10 rfl (lv_at hl 0 rfl) ?_
    refine lv_bipush (v := 120) hx hb dX17_name_11 (by decide) ?_
    refine lv_iload_n hx hb dX17_name_13 rfl (lv_at hl 1 rfl) ?_
    have hPc := hP.sub (ws' := [(h0, .inr (14, [.ref l1, .ref l2, .ref l3, .ref l4, .ref l5, .ref l6, .ref l7, .ref l8, .ref l9, .ref ce, .null, .int 0, .int 0, .int 0, .int 0, .int 0, .int 0, .int 0, .int 0, .int 0, .int 0, .int 0, .int 0, .long 0, .ref y1, .ref y2, .ref y3, .ref y4, .ref y5, .int 0, .int 0])), (l1, .inr (0, [.int 0, .ref z.1, .int 0]))]) [0, 1] rfl
    have hDc := hD.sub (ws' := [(h0, .inr (14, [.ref l1, .ref l2, .ref l3, .ref l4, .ref l5, .ref l6, .ref l7, .ref l8, .ref l9, .ref ce, .null, .int 0, .int 0, .int 0, .int 0, .int 0, .int 0, .int 0, .int 0, .int 0, .int 0, .int 0, .int 0, .long 0, .ref y1, .ref y2, .ref y3, .ref y4, .ref y5, .int 0, .int 0])), (l1, .inr (0, [.int 0, .ref z.1, .int 0]))]) [0, 1] (by decide) rfl
    have hKc := hK.sub (tys' := []) [] rfl
    have hFc := va_free (wc := [(h0, .inr (14, [.ref l1, .ref l2, .ref l3, .ref l4, .ref l5, .ref l6, .ref l7, .ref l8, .ref l9, .ref ce, .null, .int 0, .int 0, .int 0, .int 0, .int 0, .int 0, .int 0, .int 0, .int 0, .int 0, .int 0, .int 0, .long 0, .ref y1, .ref y2, .ref y3, .ref y4, .ref y5, .int 0, .int 0])), (l1, .inr (0, [.int 0, .ref z.1, .int 0]))]) hD hS hA [0, 1] rfl
    refine va_calli (va_runV (As := [.int 120, .int n]) (rest := []) ⟨hx, hb, hml, hown, hts⟩ (c_X17_puts_120 l dC dI z h0 l1 l2 l3 l4 l5 l6 l7 l8 l9 ce y1 y2 y3 y4 y5 n H.size) (cwV 2 hts (ws_goodV e234 e235 e237 e212 e236) rfl rfl rfl ⟨rfl, by decide +kernel, by decide +kernel, by decide +kernel⟩ ⟨Nat.le_of_ble_eq_true rfl, Nat.le_of_ble_eq_true rfl⟩) ⟨pPre_blind, va_recv hKc hPc (ci := 14) (q0 := 0) rfl rfl, fun U hU hW => ⟨rfl, pPre_at hPc hKc hDc hE hS hFc U hU hW⟩⟩ rfl rfl hl.1 rfl (lv_room (Nat.le_of_ble_eq_true rfl)) dX17_name_14 ⟨Nat.le_of_ble_eq_true rfl, Nat.le_of_ble_eq_true rfl⟩) hS (fun q _ h => hFc q h) hFc (fun r5 u6 t H1 locs ht hvm hw hB hz1 hk1 hS => ?_)
    obtain ⟨hP1, hK1, hD1⟩ := hB
    rw [ht] at hP1
    have hK1 := va_K.moved hvm.symm hK1
    obtain ⟨hP, hD⟩ := va_join (wr := []) (w1 := [(h0, .inr (14, [.ref l1, .ref l2, .ref l3, .ref l4, .ref l5, .ref l6, .ref l7, .ref l8, .ref l9, .ref ce, .null, .int 0, .int 0, .int 0, .int 0, .int 0, .int 0, .int 0, .int 0, .int 0, .int 0, .int 0, .int 0, .long 0, .ref y1, .ref y2, .ref y3, .ref y4, .ref y5, .int 0, .int 0]))]) hP hD [0, 1] [] rfl rfl (by decide) (by decide) hk1 hFc hP1 hD1
    have hK := hK.app hK1
    generalize H1 = H at hP hS ⊢
    have hP : va_P (dC, dI) pcl [(h0, .inr (14, [.ref l1, .ref l2, .ref l3, .ref l4, .ref l5, .ref l6, .ref l7, .ref l8, .ref l9, .ref ce, .null, .int 0, .int 0, .int 0, .int 0, .int 0, .int 0, .int 0, .int 0, .int 0, .int 0, .int 0, .int 0, .long 0, .ref y1, .ref y2, .ref y3, .ref y4, .ref y5, .int 0, .int 0]))] H := hP
    have hD : va_D A [(h0, .inr (14, [.ref l1, .ref l2, .ref l3, .ref l4, .ref l5, .ref l6, .ref l7, .ref l8, .ref l9, .ref ce, .null, .int 0, .int 0, .int 0, .int 0, .int 0, .int 0, .int 0, .int 0, .int 0, .int 0, .int 0, .int 0, .long 0, .ref y1, .ref y2, .ref y3, .ref y4, .ref y5, .int 0, .int 0]))] := hD
    have hK : va_K (dC, dI) pcl [] s := hK
    refine W.widen (k := 2) (n := 12) (Nat.le_of_ble_eq_true rfl) (Nat.le_of_ble_eq_true rfl) ?_
    subst hw
    refine lv_goto (tgt := 25) hx hb dX17_name_17 (by decide) ?_
    have hP9 := hP.sub (ws' := [(h0, .inr (14, [.ref l1, .ref l2, .ref l3, .ref l4, .ref l5, .ref l6, .ref l7, .ref l8, .ref l9, .ref ce, .null, .int 0, .int 0, .int 0, .int 0, .int 0, .int 0, .int 0, .int 0, .int 0, .int 0, .int 0, .int 0, .long 0, .ref y1, .ref y2, .ref y3, .ref y4, .ref y5, .int 0, .int 0]))]) [0] rfl
    have hD9 := hD.sub (ws' := [(h0, .inr (14, [.ref l1, .ref l2, .ref l3, .ref l4, .ref l5, .ref l6, .ref l7, .ref l8, .ref l9, .ref ce, .null, .int 0, .int 0, .int 0, .int 0, .int 0, .int 0, .int 0, .int 0, .int 0, .int 0, .int 0, .int 0, .long 0, .ref y1, .ref y2, .ref y3, .ref y4, .ref y5, .int 0, .int 0]))]) [0] (by decide) rfl
    have hK9 := hK.sub (tys' := []) [] rfl
    refine W.widen (k := 2) (n := 12) (Nat.le_of_ble_eq_true rfl) (Nat.le_of_ble_eq_true rfl) ?_
    exact W.iret (v := 1) hx hb hr (fun t ht hW => ⟨⟨1, 0, rfl, (Or.inl ⟨rfl, rfl, p3⟩), by rw [ht]; exact hP9, va_K.moved hW.alike hK9, hD9⟩, hS.F ht⟩) hS.2.2 dX17_name_25
  · refine lv_if_eq (tgt := 20) hx hb dX17_name_7 (by decide) (fun _ => ?_) (fun h9 => absurd (by decide) h9)
    refine lv_aload_n hx hb dX17_name_20 rfl (lv_at hl 0 rfl) ?_
    refine lv_iconst (v := 1) hx hb dX17_name_21 (by decide) ?_
    have hPc := hP.sub (ws' := [(h0, .inr (14, [.ref l1, .ref l2, .ref l3, .ref l4, .ref l5, .ref l6, .ref l7, .ref l8, .ref l9, .ref ce, .null, .int 0, .int 0, .int 0, .int 0, .int 0, .int 0, .int 0, .int 0, .int 0, .int 0, .int 0, .int 0, .long 0, .ref y1, .ref y2, .ref y3, .ref y4, .ref y5, .int 0, .int 0]))]) [0] rfl
    have hDc := hD.sub (ws' := [(h0, .inr (14, [.ref l1, .ref l2, .ref l3, .ref l4, .ref l5, .ref l6, .ref l7, .ref l8, .ref l9, .ref ce, .null, .int 0, .int 0, .int 0, .int 0, .int 0, .int 0, .int 0, .int 0, .int 0, .int 0, .int 0, .int 0, .long 0, .ref y1, .ref y2, .ref y3, .ref y4, .ref y5, .int 0, .int 0]))]) [0] (by decide) rfl
    have hKc := hK.sub (tys' := []) [] rfl
    have hFc := va_free (wc := [(h0, .inr (14, [.ref l1, .ref l2, .ref l3, .ref l4, .ref l5, .ref l6, .ref l7, .ref l8, .ref l9, .ref ce, .null, .int 0, .int 0, .int 0, .int 0, .int 0, .int 0, .int 0, .int 0, .int 0, .int 0, .int 0, .int 0, .long 0, .ref y1, .ref y2, .ref y3, .ref y4, .ref y5, .int 0, .int 0]))]) hD hS hA [0] rfl
    refine va_calli (va_runV (As := [.int 1]) (rest := []) ⟨hx, hb, hml, hown, hts⟩ (c_X17_fails l dC dI z h0 l1 l2 l3 l4 l5 l6 l7 l8 l9 ce y1 y2 y3 y4 y5 1 H.size) (cwV 1 hts (ws_goodV e215 e216 e218 e212 e217) rfl rfl rfl ⟨rfl, by decide +kernel, by decide +kernel, by decide +kernel⟩ ⟨Nat.le_of_ble_eq_true rfl, Nat.le_of_ble_eq_true rfl⟩) ⟨pPre_blind, va_recv hKc hPc (ci := 14) (q0 := 0) rfl rfl, fun U hU hW => ⟨rfl, pPre_at hPc hKc hDc hE hS hFc U hU hW⟩⟩ rfl rfl hl.1 rfl (lv_room (Nat.le_of_ble_eq_true rfl)) dX17_name_22 ⟨Nat.le_of_ble_eq_true rfl, Nat.le_of_ble_eq_true rfl⟩) hS (fun q _ h => hFc q h) hFc (fun r7 u8 t H1 locs ht hvm hw hB hz1 hk1 hS => ?_)
    obtain ⟨hP1, hK1, hD1⟩ := hB
    rw [ht] at hP1
    have hK1 := va_K.moved hvm.symm hK1
    obtain ⟨hP, hD⟩ := va_join (wr := [(l1, .inr (0, [.int 0, .ref z.1, .int 0]))]) (w1 := [(h0, .inr (14, [.ref l1, .ref l2, .ref l3, .ref l4, .ref l5, .ref l6, .ref l7, .ref l8, .ref l9, .ref ce, .null, .int 0, .int 0, .int 1, .int 0, .int 0, .int 0, .int 0, .int 0, .int 0, .int 0, .int 0, .int 0, .long 0, .ref y1, .ref y2, .ref y3, .ref y4, .ref y5, .int 0, .int 0]))]) hP hD [0] [1] rfl rfl (by decide) (by decide) hk1 hFc hP1 hD1
    have hK := hK.app hK1
    generalize H1 = H at hP hS ⊢
    have hP : va_P (dC, dI) pcl [(l1, .inr (0, [.int 0, .ref z.1, .int 0])), (h0, .inr (14, [.ref l1, .ref l2, .ref l3, .ref l4, .ref l5, .ref l6, .ref l7, .ref l8, .ref l9, .ref ce, .null, .int 0, .int 0, .int 1, .int 0, .int 0, .int 0, .int 0, .int 0, .int 0, .int 0, .int 0, .int 0, .long 0, .ref y1, .ref y2, .ref y3, .ref y4, .ref y5, .int 0, .int 0]))] H := hP
    have hD : va_D A [(l1, .inr (0, [.int 0, .ref z.1, .int 0])), (h0, .inr (14, [.ref l1, .ref l2, .ref l3, .ref l4, .ref l5, .ref l6, .ref l7, .ref l8, .ref l9, .ref ce, .null, .int 0, .int 0, .int 1, .int 0, .int 0, .int 0, .int 0, .int 0, .int 0, .int 0, .int 0, .int 0, .long 0, .ref y1, .ref y2, .ref y3, .ref y4, .ref y5, .int 0, .int 0]))] := hD
    have hK : va_K (dC, dI) pcl [] s := hK
    subst hw
    have hP9 := hP.sub (ws' := [(h0, .inr (14, [.ref l1, .ref l2, .ref l3, .ref l4, .ref l5, .ref l6, .ref l7, .ref l8, .ref l9, .ref ce, .null, .int 0, .int 0, .int 1, .int 0, .int 0, .int 0, .int 0, .int 0, .int 0, .int 0, .int 0, .int 0, .long 0, .ref y1, .ref y2, .ref y3, .ref y4, .ref y5, .int 0, .int 0]))]) [1] rfl
    have hD9 := hD.sub (ws' := [(h0, .inr (14, [.ref l1, .ref l2, .ref l3, .ref l4, .ref l5, .ref l6, .ref l7, .ref l8, .ref l9, .ref ce, .null, .int 0, .int 0, .int 1, .int 0, .int 0, .int 0, .int 0, .int 0, .int 0, .int 0, .int 0, .int 0, .long 0, .ref y1, .ref y2, .ref y3, .ref y4, .ref y5, .int 0, .int 0]))]) [1] (by decide) rfl
    have hK9 := hK.sub (tys' := []) [] rfl
    refine W.widen (k := 2) (n := 12) (Nat.le_of_ble_eq_true rfl) (Nat.le_of_ble_eq_true rfl) ?_
    exact W.iret (v := 0) hx hb hr (fun t ht hW => ⟨⟨0, 1, rfl, (Or.inr (⟨rfl, rfl, p4⟩)), by rw [ht]; exact hP9, va_K.moved hW.alike hK9, hD9⟩, hS.F ht⟩) hS.2.2 dX17_name_25
set_option maxHeartbeats 4000000 in
set_option maxRecDepth 100000 in
theorem c_X17_cell (l : Launch) (dC : Nat → ClassId) (dI : Nat → Nat → Nat) (z : pG) (h0 : Nat) (l1 : Nat) (l2 : Nat) (l3 : Nat) (l4 : Nat) (l5 : Nat) (l6 : Nat) (l7 : Nat) (l8 : Nat) (l9 : Nat) (ce : Nat) (y1 : Nat) (y2 : Nat) (y3 : Nat) (y4 : Nat) (y5 : Nat) (cB : ClassId) (n : Int32) (sz : Nat) : Met l yX17_cell (ws_ yX17_cell cX17_cell 2 (some .int)) ({ frames := 1, cells := 0, slots := 0, locals := 22 }) (va_Pc [.ref h0, .int n] (pPre z dC dI [(h0, .inr (14, [.ref l1, .ref l2, .ref l3, .ref l4, .ref l5, .ref l6, .ref l7, .ref l8, .ref l9, .ref ce, .null, .int 0, .int 0, .int 0, .int 0, .int 0, .int 0, .int 0, .int 0, .int 0, .int 0, .int 0, .int 0, .long 0, .ref y1, .ref y2, .ref y3, .ref y4, .ref y5, .int 0, .int 0])), (ce, .inl (cB, 100, .inl (fun _ => 0)))] [(cB, .int)] sz)) (va_Qi (fun (r : Int32) (u : Int32) => (r = 0 ∧ u = 0 ∧ ¬ n < 0 ∧ n < 100) ∨ (r = 0 ∧ u = 1 ∧ (n < 0 ∨ ¬ n < 100))) (fun u t => pPost dC dI (va_A [(h0, .inr (14, [.ref l1, .ref l2, .ref l3, .ref l4, .ref l5, .ref l6, .ref l7, .ref l8, .ref l9, .ref ce, .null, .int 0, .int 0, .int 0, .int 0, .int 0, .int 0, .int 0, .int 0, .int 0, .int 0, .int 0, .int 0, .long 0, .ref y1, .ref y2, .ref y3, .ref y4, .ref y5, .int 0, .int 0])), (ce, .inl (cB, 100, .inl (fun _ => 0)))] sz) [(h0, .inr (14, [.ref l1, .ref l2, .ref l3, .ref l4, .ref l5, .ref l6, .ref l7, .ref l8, .ref l9, .ref ce, .null, .int 0, .int 0, .int u, .int 0, .int 0, .int 0, .int 0, .int 0, .int 0, .int 0, .int 0, .int 0, .long 0, .ref y1, .ref y2, .ref y3, .ref y4, .ref y5, .int 0, .int 0]))] [] t) (va_A [(h0, .inr (14, [.ref l1, .ref l2, .ref l3, .ref l4, .ref l5, .ref l6, .ref l7, .ref l8, .ref l9, .ref ce, .null, .int 0, .int 0, .int 0, .int 0, .int 0, .int 0, .int 0, .int 0, .int 0, .int 0, .int 0, .int 0, .long 0, .ref y1, .ref y2, .ref y3, .ref y4, .ref y5, .int 0, .int 0])), (ce, .inl (cB, 100, .inl (fun _ => 0)))] sz)) 0 0 (va_A [(h0, .inr (14, [.ref l1, .ref l2, .ref l3, .ref l4, .ref l5, .ref l6, .ref l7, .ref l8, .ref l9, .ref ce, .null, .int 0, .int 0, .int 0, .int 0, .int 0, .int 0, .int 0, .int 0, .int 0, .int 0, .int 0, .int 0, .long 0, .ref y1, .ref y2, .ref y3, .ref y4, .ref y5, .int 0, .int 0])), (ce, .inl (cB, 100, .inl (fun _ => 0)))] sz) := by
  refine Met.ofW (cc := cX17_cell) (maxL := 2) (ret := (some .int)) (by decide) rfl ?_
  intro p e s m args below meth c s₁ B hml hv
  obtain ⟨rfl, hsz, hP, hK, hD0, hE⟩ := hv
  have hx := B.exec
  have hb := B.bytes
  have hr := B.returns
  have hts0 := atoms_spec (ws := ws_ yX17_cell cX17_cell 2 (some .int)) B.pre
  have hts := fun (w : Cond) (h : w ∈ pw) => hts0 w (List.mem_cons_of_mem _ h)
  have hown : s.vm.findClass RX17 = some m.cls := findClass_of_methodNamed B.named
  have hlocks := B.notSynchronized
  subst hsz
  have hD := hD0.self (sz := s.heap.size)
  generalize hAe : va_A [(h0, .inr (14, [.ref l1, .ref l2, .ref l3, .ref l4, .ref l5, .ref l6, .ref l7, .ref l8, .ref l9, .ref ce, .null, .int 0, .int 0, .int 0, .int 0, .int 0, .int 0, .int 0, .int 0, .int 0, .int 0, .int 0, .int 0, .long 0, .ref y1, .ref y2, .ref y3, .ref y4, .ref y5, .int 0, .int 0])), (ce, .inl (cB, 100, .inl (fun _ => 0)))] s.heap.size = A at hD hE ⊢
  have hA : ∀ q : Nat, s.heap.size ≤ q → A q := fun q h => by rw [← hAe]; exact Or.inr h
  have hS : va_S A s.heap s.heap [] := va_S.rf
  have hN := hE.1
  have hP : va_P (dC, dI) pcl [(h0, .inr (14, [.ref l1, .ref l2, .ref l3, .ref l4, .ref l5, .ref l6, .ref l7, .ref l8, .ref l9, .ref ce, .null, .int 0, .int 0, .int 0, .int 0, .int 0, .int 0, .int 0, .int 0, .int 0, .int 0, .int 0, .int 0, .long 0, .ref y1, .ref y2, .ref y3, .ref y4, .ref y5, .int 0, .int 0])), (ce, .inl (cB, 100, .inl (fun _ => 0)))] s.heap := hP
  have hl := lv_entry ([.ref h0, .int n]) (n := 2) (Nat.le_of_ble_eq_true rfl)
  rw [lg_entry_eq]
  generalize (lg_sl ([.ref h0, .int n]) ++ List.replicate (2 - (lg_sl ([.ref h0, .int n])).length) Slot.unset).toArray = ls at hl ⊢
  have hl : lv_has ls 2 [(0, .ref h0), (1, .int n)] := hl
  obtain ⟨H, hH0⟩ : ∃ H, H = s.heap := ⟨_, rfl⟩
  rw [← hH0] at hP ⊢
  have hS : va_S A s.heap H [] := by rw [hH0]; exact hS
  refine lv_iload_n hx hb dX17_cell_0 rfl (lv_at hl 1 rfl) ?_
  refine lv_iconst (v := 0) hx hb dX17_cell_1 (by decide) ?_
  refine lv_bipush (v := 99) hx hb dX17_cell_2 (by decide) ?_
  have hPc := hP.sub (ws' := []) [] rfl
  have hDc := hD.sub (ws' := []) [] (by decide) rfl
  have hKc := hK.sub (tys' := []) [] rfl
  have hFc := va_free (wc := []) hD hS hA [] rfl
  refine va_calli (va_runS (As := [.int n, .int 0, .int 99]) (rest := []) ⟨hx, hb, hml, hown, hts⟩ (c_X17_in_100 l dC dI z n H.size) (va_cwS 3 hts (ws_goodS e238 e239 e212 e240) rfl rfl rfl ⟨by decide +kernel, by decide +kernel, by decide +kernel⟩ ⟨Nat.le_of_ble_eq_true rfl, Nat.le_of_ble_eq_true rfl⟩) ⟨pPre_blind, fun U hU hW => ⟨rfl, pPre_at hPc hKc hDc hE hS hFc U hU hW⟩⟩ rfl rfl hl.1 rfl (lv_room (Nat.le_of_ble_eq_true rfl)) dX17_cell_4 ⟨Nat.le_of_ble_eq_true rfl, Nat.le_of_ble_eq_true rfl⟩) hS (fun q _ h => hFc q h) hFc (fun r1 u2 t H1 locs ht hvm hw hB hz1 hk1 hS => ?_)
  obtain ⟨hP1, hK1, hD1⟩ := hB
  rw [ht] at hP1
  have hK1 := va_K.moved hvm.symm hK1
  obtain ⟨hP, hD⟩ := va_join (wr := [(h0, .inr (14, [.ref l1, .ref l2, .ref l3, .ref l4, .ref l5, .ref l6, .ref l7, .ref l8, .ref l9, .ref ce, .null, .int 0, .int 0, .int 0, .int 0, .int 0, .int 0, .int 0, .int 0, .int 0, .int 0, .int 0, .int 0, .long 0, .ref y1, .ref y2, .ref y3, .ref y4, .ref y5, .int 0, .int 0])), (ce, .inl (cB, 100, .inl (fun _ => 0)))]) (w1 := []) hP hD [] [0, 1] rfl rfl (by decide) (by decide) hk1 hFc hP1 hD1
  have hK := hK.app hK1
  generalize H1 = H at hP hS ⊢
  have hP : va_P (dC, dI) pcl [(h0, .inr (14, [.ref l1, .ref l2, .ref l3, .ref l4, .ref l5, .ref l6, .ref l7, .ref l8, .ref l9, .ref ce, .null, .int 0, .int 0, .int 0, .int 0, .int 0, .int 0, .int 0, .int 0, .int 0, .int 0, .int 0, .int 0, .long 0, .ref y1, .ref y2, .ref y3, .ref y4, .ref y5, .int 0, .int 0])), (ce, .inl (cB, 100, .inl (fun _ => 0)))] H := hP
  have hD : va_D A [(h0, .inr (14, [.ref l1, .ref l2, .ref l3, .ref l4, .ref l5, .ref l6, .ref l7, .ref l8, .ref l9, .ref ce, .null, .int 0, .int 0, .int 0, .int 0, .int 0, .int 0, .int 0, .int 0, .int 0, .int 0, .int 0, .int 0, .long 0, .ref y1, .ref y2, .ref y3, .ref y4, .ref y5, .int 0, .int 0])), (ce, .inl (cB, 100, .inl (fun _ => 0)))] := hD
  have hK : va_K (dC, dI) pcl [(cB, .int)] s := hK
  rcases hw with ⟨rfl, p3⟩ | ⟨rfl, p4⟩
  · refine lv_if_eq (tgt := 23) hx hb dX17_cell_7 (by decide) (fun h9 => absurd h9 (by decide)) (fun _ => ?_)
    refine lv_aload_n hx hb dX17_cell_10 rfl (lv_at hl 0 rfl) ?_
    refine lv_aload_n hx hb dX17_cell_11 rfl (lv_at hl 0 rfl) ?_
    refine va_get (D := (dC, dI)) (ci := 14) (v := .ref ce) (C := RX17) (T := TX17) (N := 31) hx hb hts pinX17 hown hK hP 0 rfl rfl 9 (by decide) (hts _ e198) (fun _ h9 => h9) rfl dX17_cell_12 ?_
    refine lv_iload_n hx hb dX17_cell_15 rfl (lv_at hl 1 rfl) ?_
    refine va_iald hx hb hK hP 1 0 rfl rfl (p_in100 p3.1 p3.2) dX17_cell_16 ?_
    refine W.eq (g2 := F0 m 17 ls [.int 0, .ref h0]) (by rfl) ?_
    have hPc := hP.sub (ws' := [(h0, .inr (14, [.ref l1, .ref l2, .ref l3, .ref l4, .ref l5, .ref l6, .ref l7, .ref l8, .ref l9, .ref ce, .null, .int 0, .int 0, .int 0, .int 0, .int 0, .int 0, .int 0, .int 0, .int 0, .int 0, .int 0, .int 0, .long 0, .ref y1, .ref y2, .ref y3, .ref y4, .ref y5, .int 0, .int 0]))]) [0] rfl
    have hDc := hD.sub (ws' := [(h0, .inr (14, [.ref l1, .ref l2, .ref l3, .ref l4, .ref l5, .ref l6, .ref l7, .ref l8, .ref l9, .ref ce, .null, .int 0, .int 0, .int 0, .int 0, .int 0, .int 0, .int 0, .int 0, .int 0, .int 0, .int 0, .int 0, .long 0, .ref y1, .ref y2, .ref y3, .ref y4, .ref y5, .int 0, .int 0]))]) [0] (by decide) rfl
    have hKc := hK.sub (tys' := []) [] rfl
    have hFc := va_free (wc := [(h0, .inr (14, [.ref l1, .ref l2, .ref l3, .ref l4, .ref l5, .ref l6, .ref l7, .ref l8, .ref l9, .ref ce, .null, .int 0, .int 0, .int 0, .int 0, .int 0, .int 0, .int 0, .int 0, .int 0, .int 0, .int 0, .int 0, .long 0, .ref y1, .ref y2, .ref y3, .ref y4, .ref y5, .int 0, .int 0]))]) hD hS hA [0] rfl
    refine va_calli (va_runV (As := [.int 0]) (rest := []) ⟨hx, hb, hml, hown, hts⟩ (c_X17_tell l dC dI z h0 l1 l2 l3 l4 l5 l6 l7 l8 l9 ce y1 y2 y3 y4 y5 0 H.size) (cwV 1 hts (ws_goodV e229 e230 e232 e212 e231) rfl rfl rfl ⟨rfl, by decide +kernel, by decide +kernel, by decide +kernel⟩ ⟨Nat.le_of_ble_eq_true rfl, Nat.le_of_ble_eq_true rfl⟩) ⟨pPre_blind, va_recv hKc hPc (ci := 14) (q0 := 0) rfl rfl, fun U hU hW => ⟨rfl, pPre_at hPc hKc hDc hE hS hFc U hU hW⟩⟩ rfl rfl hl.1 rfl (lv_room (Nat.le_of_ble_eq_true rfl)) dX17_cell_17 ⟨Nat.le_of_ble_eq_true rfl, Nat.le_of_ble_eq_true rfl⟩) hS (fun q _ h => hFc q h) hFc (fun r5 u6 t H1 locs ht hvm hw hB hz1 hk1 hS => ?_)
    obtain ⟨hP1, hK1, hD1⟩ := hB
    rw [ht] at hP1
    have hK1 := va_K.moved hvm.symm hK1
    obtain ⟨hP, hD⟩ := va_join (wr := [(ce, .inl (cB, 100, .inl (fun _ => 0)))]) (w1 := [(h0, .inr (14, [.ref l1, .ref l2, .ref l3, .ref l4, .ref l5, .ref l6, .ref l7, .ref l8, .ref l9, .ref ce, .null, .int 0, .int 0, .int 0, .int 0, .int 0, .int 0, .int 0, .int 0, .int 0, .int 0, .int 0, .int 0, .long 0, .ref y1, .ref y2, .ref y3, .ref y4, .ref y5, .int 0, .int 0]))]) hP hD [0] [1] rfl rfl (by decide) (by decide) hk1 hFc hP1 hD1
    have hK := hK.app hK1
    generalize H1 = H at hP hS ⊢
    have hP : va_P (dC, dI) pcl [(ce, .inl (cB, 100, .inl (fun _ => 0))), (h0, .inr (14, [.ref l1, .ref l2, .ref l3, .ref l4, .ref l5, .ref l6, .ref l7, .ref l8, .ref l9, .ref ce, .null, .int 0, .int 0, .int 0, .int 0, .int 0, .int 0, .int 0, .int 0, .int 0, .int 0, .int 0, .int 0, .long 0, .ref y1, .ref y2, .ref y3, .ref y4, .ref y5, .int 0, .int 0]))] H := hP
    have hD : va_D A [(ce, .inl (cB, 100, .inl (fun _ => 0))), (h0, .inr (14, [.ref l1, .ref l2, .ref l3, .ref l4, .ref l5, .ref l6, .ref l7, .ref l8, .ref l9, .ref ce, .null, .int 0, .int 0, .int 0, .int 0, .int 0, .int 0, .int 0, .int 0, .int 0, .int 0, .int 0, .int 0, .long 0, .ref y1, .ref y2, .ref y3, .ref y4, .ref y5, .int 0, .int 0]))] := hD
    have hK : va_K (dC, dI) pcl [(cB, .int)] s := hK
    subst hw
    refine lv_goto (tgt := 28) hx hb dX17_cell_20 (by decide) ?_
    have hP9 := hP.sub (ws' := [(h0, .inr (14, [.ref l1, .ref l2, .ref l3, .ref l4, .ref l5, .ref l6, .ref l7, .ref l8, .ref l9, .ref ce, .null, .int 0, .int 0, .int 0, .int 0, .int 0, .int 0, .int 0, .int 0, .int 0, .int 0, .int 0, .int 0, .long 0, .ref y1, .ref y2, .ref y3, .ref y4, .ref y5, .int 0, .int 0]))]) [1] rfl
    have hD9 := hD.sub (ws' := [(h0, .inr (14, [.ref l1, .ref l2, .ref l3, .ref l4, .ref l5, .ref l6, .ref l7, .ref l8, .ref l9, .ref ce, .null, .int 0, .int 0, .int 0, .int 0, .int 0, .int 0, .int 0, .int 0, .int 0, .int 0, .int 0, .int 0, .long 0, .ref y1, .ref y2, .ref y3, .ref y4, .ref y5, .int 0, .int 0]))]) [1] (by decide) rfl
    have hK9 := hK.sub (tys' := []) [] rfl
    refine W.widen (k := 0) (n := 0) (Nat.le_of_ble_eq_true rfl) (Nat.le_of_ble_eq_true rfl) ?_
    exact W.iret (v := 0) hx hb hr (fun t ht hW => ⟨⟨0, 0, rfl, (Or.inl ⟨rfl, rfl, p3⟩), by rw [ht]; exact hP9, va_K.moved hW.alike hK9, hD9⟩, hS.F ht⟩) hS.2.2 dX17_cell_28
  · refine lv_if_eq (tgt := 23) hx hb dX17_cell_7 (by decide) (fun _ => ?_) (fun h9 => absurd (by decide) h9)
    refine lv_aload_n hx hb dX17_cell_23 rfl (lv_at hl 0 rfl) ?_
    refine lv_iconst (v := 1) hx hb dX17_cell_24 (by decide) ?_
    have hPc := hP.sub (ws' := [(h0, .inr (14, [.ref l1, .ref l2, .ref l3, .ref l4, .ref l5, .ref l6, .ref l7, .ref l8, .ref l9, .ref ce, .null, .int 0, .int 0, .int 0, .int 0, .int 0, .int 0, .int 0, .int 0, .int 0, .int 0, .int 0, .int 0, .long 0, .ref y1, .ref y2, .ref y3, .ref y4, .ref y5, .int 0, .int 0]))]) [0] rfl
    have hDc := hD.sub (ws' := [(h0, .inr (14, [.ref l1, .ref l2, .ref l3, .ref l4, .ref l5, .ref l6, .ref l7, .ref l8, .ref l9, .ref ce, .null, .int 0, .int 0, .int 0, .int 0, .int 0, .int 0, .int 0, .int 0, .int 0, .int 0, .int 0, .int 0, .long 0, .ref y1, .ref y2, .ref y3, .ref y4, .ref y5, .int 0, .int 0]))]) [0] (by decide) rfl
    have hKc := hK.sub (tys' := []) [] rfl
    have hFc := va_free (wc := [(h0, .inr (14, [.ref l1, .ref l2, .ref l3, .ref l4, .ref l5, .ref l6, .ref l7, .ref l8, .ref l9, .ref ce, .null, .int 0, .int 0, .int 0, .int 0, .int 0, .int 0, .int 0, .int 0, .int 0, .int 0, .int 0, .int 0, .long 0, .ref y1, .ref y2, .ref y3, .ref y4, .ref y5, .int 0, .int 0]))]) hD hS hA [0] rfl
    refine va_calli (va_runV (As := [.int 1]) (rest := []) ⟨hx, hb, hml, hown, hts⟩ (c_X17_fails l dC dI z h0 l1 l2 l3 l4 l5 l6 l7 l8 l9 ce y1 y2 y3 y4 y5 1 H.size) (cwV 1 hts (ws_goodV e215 e216 e218 e212 e217) rfl rfl rfl ⟨rfl, by decide +kernel, by decide +kernel, by decide +kernel⟩ ⟨Nat.le_of_ble_eq_true rfl, Nat.le_of_ble_eq_true rfl⟩) ⟨pPre_blind, va_recv hKc hPc (ci := 14) (q0 := 0) rfl rfl, fun U hU hW => ⟨rfl, pPre_at hPc hKc hDc hE hS hFc U hU hW⟩⟩ rfl rfl hl.1 rfl (lv_room (Nat.le_of_ble_eq_true rfl)) dX17_cell_25 ⟨Nat.le_of_ble_eq_true rfl, Nat.le_of_ble_eq_true rfl⟩) hS (fun q _ h => hFc q h) hFc (fun r7 u8 t H1 locs ht hvm hw hB hz1 hk1 hS => ?_)
    obtain ⟨hP1, hK1, hD1⟩ := hB
    rw [ht] at hP1
    have hK1 := va_K.moved hvm.symm hK1
    obtain ⟨hP, hD⟩ := va_join (wr := [(ce, .inl (cB, 100, .inl (fun _ => 0)))]) (w1 := [(h0, .inr (14, [.ref l1, .ref l2, .ref l3, .ref l4, .ref l5, .ref l6, .ref l7, .ref l8, .ref l9, .ref ce, .null, .int 0, .int 0, .int 1, .int 0, .int 0, .int 0, .int 0, .int 0, .int 0, .int 0, .int 0, .int 0, .long 0, .ref y1, .ref y2, .ref y3, .ref y4, .ref y5, .int 0, .int 0]))]) hP hD [0] [1] rfl rfl (by decide) (by decide) hk1 hFc hP1 hD1
    have hK := hK.app hK1
    generalize H1 = H at hP hS ⊢
    have hP : va_P (dC, dI) pcl [(ce, .inl (cB, 100, .inl (fun _ => 0))), (h0, .inr (14, [.ref l1, .ref l2, .ref l3, .ref l4, .ref l5, .ref l6, .ref l7, .ref l8, .ref l9, .ref ce, .null, .int 0, .int 0, .int 1, .int 0, .int 0, .int 0, .int 0, .int 0, .int 0, .int 0, .int 0, .int 0, .long 0, .ref y1, .ref y2, .ref y3, .ref y4, .ref y5, .int 0, .int 0]))] H := hP
    have hD : va_D A [(ce, .inl (cB, 100, .inl (fun _ => 0))), (h0, .inr (14, [.ref l1, .ref l2, .ref l3, .ref l4, .ref l5, .ref l6, .ref l7, .ref l8, .ref l9, .ref ce, .null, .int 0, .int 0, .int 1, .int 0, .int 0, .int 0, .int 0, .int 0, .int 0, .int 0, .int 0, .int 0, .long 0, .ref y1, .ref y2, .ref y3, .ref y4, .ref y5, .int 0, .int 0]))] := hD
    have hK : va_K (dC, dI) pcl [(cB, .int)] s := hK
    subst hw
    have hP9 := hP.sub (ws' := [(h0, .inr (14, [.ref l1, .ref l2, .ref l3, .ref l4, .ref l5, .ref l6, .ref l7, .ref l8, .ref l9, .ref ce, .null, .int 0, .int 0, .int 1, .int 0, .int 0, .int 0, .int 0, .int 0, .int 0, .int 0, .int 0, .int 0, .long 0, .ref y1, .ref y2, .ref y3, .ref y4, .ref y5, .int 0, .int 0]))]) [1] rfl
    have hD9 := hD.sub (ws' := [(h0, .inr (14, [.ref l1, .ref l2, .ref l3, .ref l4, .ref l5, .ref l6, .ref l7, .ref l8, .ref l9, .ref ce, .null, .int 0, .int 0, .int 1, .int 0, .int 0, .int 0, .int 0, .int 0, .int 0, .int 0, .int 0, .int 0, .long 0, .ref y1, .ref y2, .ref y3, .ref y4, .ref y5, .int 0, .int 0]))]) [1] (by decide) rfl
    have hK9 := hK.sub (tys' := []) [] rfl
    refine W.widen (k := 0) (n := 0) (Nat.le_of_ble_eq_true rfl) (Nat.le_of_ble_eq_true rfl) ?_
    exact W.iret (v := 0) hx hb hr (fun t ht hW => ⟨⟨0, 1, rfl, (Or.inr (⟨rfl, rfl, p4⟩)), by rw [ht]; exact hP9, va_K.moved hW.alike hK9, hD9⟩, hS.F ht⟩) hS.2.2 dX17_cell_28
set_option maxHeartbeats 4000000 in
set_option maxRecDepth 100000 in
theorem c_X17_find (l : Launch) (dC : Nat → ClassId) (dI : Nat → Nat → Nat) (z : pG) (h0 : Nat) (l1 : Nat) (l2 : Nat) (l3 : Nat) (l4 : Nat) (l5 : Nat) (l6 : Nat) (l7 : Nat) (l8 : Nat) (l9 : Nat) (ce : Nat) (y1 : Nat) (y2 : Nat) (y3 : Nat) (y4 : Nat) (y5 : Nat) (n : Int32) (sz : Nat) : Met l yX17_find (ws_ yX17_find cX17_find 3 (some .int)) ({ frames := 3, cells := 0, slots := 0, locals := 65 }) (va_Pc [.ref h0, .int n] (pPre z dC dI [(h0, .inr (14, [.ref l1, .ref l2, .ref l3, .ref l4, .ref l5, .ref l6, .ref l7, .ref l8, .ref l9, .ref ce, .null, .int 0, .int 0, .int 0, .int 0, .int 0, .int 0, .int 0, .int 0, .int 0, .int 0, .int 0, .int 0, .long 0, .ref y1, .ref y2, .ref y3, .ref y4, .ref y5, .int 0, .int 0])), (l2, .inr (0, [.int 0, .ref z.1, .int 0]))] [] sz)) (va_Qi (fun (r : Int32) (u : Int32) => (r = 0 ∧ u = 2 ∧ ¬ n < 0 ∧ n < 16) ∨ (r = 0 ∧ u = 1 ∧ (n < 0 ∨ ¬ n < 16))) (fun u t => pPost dC dI (va_A [(h0, .inr (14, [.ref l1, .ref l2, .ref l3, .ref l4, .ref l5, .ref l6, .ref l7, .ref l8, .ref l9, .ref ce, .null, .int 0, .int 0, .int 0, .int 0, .int 0, .int 0, .int 0, .int 0, .int 0, .int 0, .int 0, .int 0, .long 0, .ref y1, .ref y2, .ref y3, .ref y4, .ref y5, .int 0, .int 0])), (l2, .inr (0, [.int 0, .ref z.1, .int 0]))] sz) [(h0, .inr (14, [.ref l1, .ref l2, .ref l3, .ref l4, .ref l5, .ref l6, .ref l7, .ref l8, .ref l9, .ref ce, .null, .int 0, .int 0, .int u, .int 0, .int 0, .int 0, .int 0, .int 0, .int 0, .int 0, .int 0, .int 0, .long 0, .ref y1, .ref y2, .ref y3, .ref y4, .ref y5, .int 0, .int 0]))] [] t) (va_A [(h0, .inr (14, [.ref l1, .ref l2, .ref l3, .ref l4, .ref l5, .ref l6, .ref l7, .ref l8, .ref l9, .ref ce, .null, .int 0, .int 0, .int 0, .int 0, .int 0, .int 0, .int 0, .int 0, .int 0, .int 0, .int 0, .int 0, .long 0, .ref y1, .ref y2, .ref y3, .ref y4, .ref y5, .int 0, .int 0])), (l2, .inr (0, [.int 0, .ref z.1, .int 0]))] sz)) 0 0 (va_A [(h0, .inr (14, [.ref l1, .ref l2, .ref l3, .ref l4, .ref l5, .ref l6, .ref l7, .ref l8, .ref l9, .ref ce, .null, .int 0, .int 0, .int 0, .int 0, .int 0, .int 0, .int 0, .int 0, .int 0, .int 0, .int 0, .int 0, .long 0, .ref y1, .ref y2, .ref y3, .ref y4, .ref y5, .int 0, .int 0])), (l2, .inr (0, [.int 0, .ref z.1, .int 0]))] sz) := by
  refine Met.ofW (cc := cX17_find) (maxL := 3) (ret := (some .int)) (by decide) rfl ?_
  intro p e s m args below meth c s₁ B hml hv
  obtain ⟨rfl, hsz, hP, hK, hD0, hE⟩ := hv
  have hx := B.exec
  have hb := B.bytes
  have hr := B.returns
  have hts0 := atoms_spec (ws := ws_ yX17_find cX17_find 3 (some .int)) B.pre
  have hts := fun (w : Cond) (h : w ∈ pw) => hts0 w (List.mem_cons_of_mem _ h)
  have hown : s.vm.findClass RX17 = some m.cls := findClass_of_methodNamed B.named
  have hlocks := B.notSynchronized
  subst hsz
  have hD := hD0.self (sz := s.heap.size)
  generalize hAe : va_A [(h0, .inr (14, [.ref l1, .ref l2, .ref l3, .ref l4, .ref l5, .ref l6, .ref l7, .ref l8, .ref l9, .ref ce, .null, .int 0, .int 0, .int 0, .int 0, .int 0, .int 0, .int 0, .int 0, .int 0, .int 0, .int 0, .int 0, .long 0, .ref y1, .ref y2, .ref y3, .ref y4, .ref y5, .int 0, .int 0])), (l2, .inr (0, [.int 0, .ref z.1, .int 0]))] s.heap.size = A at hD hE ⊢
  have hA : ∀ q : Nat, s.heap.size ≤ q → A q := fun q h => by rw [← hAe]; exact Or.inr h
  have hS : va_S A s.heap s.heap [] := va_S.rf
  have hN := hE.1
  have hP : va_P (dC, dI) pcl [(h0, .inr (14, [.ref l1, .ref l2, .ref l3, .ref l4, .ref l5, .ref l6, .ref l7, .ref l8, .ref l9, .ref ce, .null, .int 0, .int 0, .int 0, .int 0, .int 0, .int 0, .int 0, .int 0, .int 0, .int 0, .int 0, .int 0, .long 0, .ref y1, .ref y2, .ref y3, .ref y4, .ref y5, .int 0, .int 0])), (l2, .inr (0, [.int 0, .ref z.1, .int 0]))] s.heap := hP
  have hl := lv_entry ([.ref h0, .int n]) (n := 3) (Nat.le_of_ble_eq_true rfl)
  rw [lg_entry_eq]
  generalize (lg_sl ([.ref h0, .int n]) ++ List.replicate (3 - (lg_sl ([.ref h0, .int n])).length) Slot.unset).toArray = ls at hl ⊢
  have hl : lv_has ls 3 [(0, .ref h0), (1, .int n)] := hl
  obtain ⟨H, hH0⟩ : ∃ H, H = s.heap := ⟨_, rfl⟩
  rw [← hH0] at hP ⊢
  have hS : va_S A s.heap H [] := by rw [hH0]; exact hS
  refine lv_iload_n hx hb dX17_find_0 rfl (lv_at hl 1 rfl) ?_
  refine lv_iconst (v := 0) hx hb dX17_find_1 (by decide) ?_
  refine lv_bipush (v := 15) hx hb dX17_find_2 (by decide) ?_
  have hPc := hP.sub (ws' := []) [] rfl
  have hDc := hD.sub (ws' := []) [] (by decide) rfl
  have hKc := hK.sub (tys' := []) [] rfl
  have hFc := va_free (wc := []) hD hS hA [] rfl
  refine va_calli (va_runS (As := [.int n, .int 0, .int 15]) (rest := []) ⟨hx, hb, hml, hown, hts⟩ (c_X17_in_16 l dC dI z n H.size) (va_cwS 3 hts (ws_goodS e238 e239 e212 e240) rfl rfl rfl ⟨by decide +kernel, by decide +kernel, by decide +kernel⟩ ⟨Nat.le_of_ble_eq_true rfl, Nat.le_of_ble_eq_true rfl⟩) ⟨pPre_blind, fun U hU hW => ⟨rfl, pPre_at hPc hKc hDc hE hS hFc U hU hW⟩⟩ rfl rfl hl.1 rfl (lv_room (Nat.le_of_ble_eq_true rfl)) dX17_find_4 ⟨Nat.le_of_ble_eq_true rfl, Nat.le_of_ble_eq_true rfl⟩) hS (fun q _ h => hFc q h) hFc (fun r1 u2 t H1 locs ht hvm hw hB hz1 hk1 hS => ?_)
  obtain ⟨hP1, hK1, hD1⟩ := hB
  rw [ht] at hP1
  have hK1 := va_K.moved hvm.symm hK1
  obtain ⟨hP, hD⟩ := va_join (wr := [(h0, .inr (14, [.ref l1, .ref l2, .ref l3, .ref l4, .ref l5, .ref l6, .ref l7, .ref l8, .ref l9, .ref ce, .null, .int 0, .int 0, .int 0, .int 0, .int 0, .int 0, .int 0, .int 0, .int 0, .int 0, .int 0, .int 0, .long 0, .ref y1, .ref y2, .ref y3, .ref y4, .ref y5, .int 0, .int 0])), (l2, .inr (0, [.int 0, .ref z.1, .int 0]))]) (w1 := []) hP hD [] [0, 1] rfl rfl (by decide) (by decide) hk1 hFc hP1 hD1
  have hK := hK.app hK1
  generalize H1 = H at hP hS ⊢
  have hP : va_P (dC, dI) pcl [(h0, .inr (14, [.ref l1, .ref l2, .ref l3, .ref l4, .ref l5, .ref l6, .ref l7, .ref l8, .ref l9, .ref ce, .null, .int 0, .int 0, .int 0, .int 0, .int 0, .int 0, .int 0, .int 0, .int 0, .int 0, .int 0, .int 0, .long 0, .ref y1, .ref y2, .ref y3, .ref y4, .ref y5, .int 0, .int 0])), (l2, .inr (0, [.int 0, .ref z.1, .int 0]))] H := hP
  have hD : va_D A [(h0, .inr (14, [.ref l1, .ref l2, .ref l3, .ref l4, .ref l5, .ref l6, .ref l7, .ref l8, .ref l9, .ref ce, .null, .int 0, .int 0, .int 0, .int 0, .int 0, .int 0, .int 0, .int 0, .int 0, .int 0, .int 0, .int 0, .long 0, .ref y1, .ref y2, .ref y3, .ref y4, .ref y5, .int 0, .int 0])), (l2, .inr (0, [.int 0, .ref z.1, .int 0]))] := hD
  have hK : va_K (dC, dI) pcl [] s := hK
  rcases hw with ⟨rfl, p3⟩ | ⟨rfl, p4⟩
  · refine lv_if_ne (tgt := 16) hx hb dX17_find_7 (by decide) (fun _ => ?_) (fun h9 => absurd h9 (by decide))
    refine lv_aload_n hx hb dX17_find_16 rfl (lv_at hl 0 rfl) ?_
    refine lv_iload_n hx hb dX17_find_17 rfl (lv_at hl 1 rfl) ?_
    have hPc := hP.sub (ws' := [(h0, .inr (14, [.ref l1, .ref l2, .ref l3, .ref l4, .ref l5, .ref l6, .ref l7, .ref l8, .ref l9, .ref ce, .null, .int 0, .int 0, .int 0, .int 0, .int 0, .int 0, .int 0, .int 0, .int 0, .int 0, .int 0, .int 0, .long 0, .ref y1, .ref y2, .ref y3, .ref y4, .ref y5, .int 0, .int 0])), (l2, .inr (0, [.int 0, .ref z.1, .int 0]))]) [0, 1] rfl
    have hDc := hD.sub (ws' := [(h0, .inr (14, [.ref l1, .ref l2, .ref l3, .ref l4, .ref l5, .ref l6, .ref l7, .ref l8, .ref l9, .ref ce, .null, .int 0, .int 0, .int 0, .int 0, .int 0, .int 0, .int 0, .int 0, .int 0, .int 0, .int 0, .int 0, .long 0, .ref y1, .ref y2, .ref y3, .ref y4, .ref y5, .int 0, .int 0])), (l2, .inr (0, [.int 0, .ref z.1, .int 0]))]) [0, 1] (by decide) rfl
    have hKc := hK.sub (tys' := []) [] rfl
    have hFc := va_free (wc := [(h0, .inr (14, [.ref l1, .ref l2, .ref l3, .ref l4, .ref l5, .ref l6, .ref l7, .ref l8, .ref l9, .ref ce, .null, .int 0, .int 0, .int 0, .int 0, .int 0, .int 0, .int 0, .int 0, .int 0, .int 0, .int 0, .int 0, .long 0, .ref y1, .ref y2, .ref y3, .ref y4, .ref y5, .int 0, .int 0])), (l2, .inr (0, [.int 0, .ref z.1, .int 0]))]) hD hS hA [0, 1] rfl
    refine va_calli (va_runV (As := [.int n]) (rest := []) ⟨hx, hb, hml, hown, hts⟩ (c_X17_found l dC dI z h0 l1 l2 l3 l4 l5 l6 l7 l8 l9 ce y1 y2 y3 y4 y5 n H.size) (cwV 1 hts (ws_goodV e257 e258 e260 e212 e259) rfl rfl rfl ⟨rfl, by decide +kernel, by decide +kernel, by decide +kernel⟩ ⟨Nat.le_of_ble_eq_true rfl, Nat.le_of_ble_eq_true rfl⟩) ⟨pPre_blind, va_recv hKc hPc (ci := 14) (q0 := 0) rfl rfl, fun U hU hW => ⟨rfl, pPre_at hPc hKc hDc hE hS hFc U hU hW⟩⟩ rfl rfl hl.1 rfl (lv_room (Nat.le_of_ble_eq_true rfl)) dX17_find_18 ⟨Nat.le_of_ble_eq_true rfl, Nat.le_of_ble_eq_true rfl⟩) hS (fun q _ h => hFc q h) hFc (fun r5 u6 t H1 locs ht hvm hw hB hz1 hk1 hS => ?_)
    obtain ⟨hP1, hK1, hD1⟩ := hB
    rw [ht] at hP1
    have hK1 := va_K.moved hvm.symm hK1
    obtain ⟨hP, hD⟩ := va_join (wr := []) (w1 := [(h0, .inr (14, [.ref l1, .ref l2, .ref l3, .ref l4, .ref l5, .ref l6, .ref l7, .ref l8, .ref l9, .ref ce, .null, .int 0, .int 0, .int 0, .int 0, .int 0, .int 0, .int 0, .int 0, .int 0, .int 0, .int 0, .int 0, .long 0, .ref y1, .ref y2, .ref y3, .ref y4, .ref y5, .int 0, .int 0])), (l2, .inr (0, [.int 0, .ref z.1, .int 0]))]) hP hD [0, 1] [] rfl rfl (by decide) (by decide) hk1 hFc hP1 hD1
    have hK := hK.app hK1
    generalize H1 = H at hP hS ⊢
    have hP : va_P (dC, dI) pcl [(h0, .inr (14, [.ref l1, .ref l2, .ref l3, .ref l4, .ref l5, .ref l6, .ref l7, .ref l8, .ref l9, .ref ce, .null, .int 0, .int 0, .int 0, .int 0, .int 0, .int 0, .int 0, .int 0, .int 0, .int 0, .int 0, .int 0, .long 0, .ref y1, .ref y2, .ref y3, .ref y4, .ref y5, .int 0, .int 0])), (l2, .inr (0, [.int 0, .ref z.1, .int 0]))] H := hP
    have hD : va_D A [(h0, .inr (14, [.ref l1, .ref l2, .ref l3, .ref l4, .ref l5, .ref l6, .ref l7, .ref l8, .ref l9, .ref ce, .null, .int 0, .int 0, .int 0, .int 0, .int 0, .int 0, .int 0, .int 0, .int 0, .int 0, .int 0, .int 0, .long 0, .ref y1, .ref y2, .ref y3, .ref y4, .ref y5, .int 0, .int 0])), (l2, .inr (0, [.int 0, .ref z.1, .int 0]))] := hD
    have hK : va_K (dC, dI) pcl [] s := hK
    subst hw
    refine lv_istore_n (lv' := [(2, .int (-1)), (0, .ref h0), (1, .int n)]) hx hb dX17_find_21 rfl hl (by decide) rfl (fun ls hl => ?_)
    refine lv_iload_n hx hb dX17_find_22 rfl (lv_at hl 0 rfl) ?_
    refine lv_iconst (v := (-1)) hx hb dX17_find_23 (by decide) ?_
    refine lv_icmp_ne (tgt := 35) hx hb dX17_find_24 (by decide) (fun h9 => absurd (by decide) h9) (fun _ => ?_)
    refine lv_aload_n hx hb dX17_find_27 rfl (lv_at hl 1 rfl) ?_
    refine lv_iconst (v := 2) hx hb dX17_find_28 (by decide) ?_
    have hPc := hP.sub (ws' := [(h0, .inr (14, [.ref l1, .ref l2, .ref l3, .ref l4, .ref l5, .ref l6, .ref l7, .ref l8, .ref l9, .ref ce, .null, .int 0, .int 0, .int 0, .int 0, .int 0, .int 0, .int 0, .int 0, .int 0, .int 0, .int 0, .int 0, .long 0, .ref y1, .ref y2, .ref y3, .ref y4, .ref y5, .int 0, .int 0]))]) [0] rfl
    have hDc := hD.sub (ws' := [(h0, .inr (14, [.ref l1, .ref l2, .ref l3, .ref l4, .ref l5, .ref l6, .ref l7, .ref l8, .ref l9, .ref ce, .null, .int 0, .int 0, .int 0, .int 0, .int 0, .int 0, .int 0, .int 0, .int 0, .int 0, .int 0, .int 0, .long 0, .ref y1, .ref y2, .ref y3, .ref y4, .ref y5, .int 0, .int 0]))]) [0] (by decide) rfl
    have hKc := hK.sub (tys' := []) [] rfl
    have hFc := va_free (wc := [(h0, .inr (14, [.ref l1, .ref l2, .ref l3, .ref l4, .ref l5, .ref l6, .ref l7, .ref l8, .ref l9, .ref ce, .null, .int 0, .int 0, .int 0, .int 0, .int 0, .int 0, .int 0, .int 0, .int 0, .int 0, .int 0, .int 0, .long 0, .ref y1, .ref y2, .ref y3, .ref y4, .ref y5, .int 0, .int 0]))]) hD hS hA [0] rfl
    refine va_calli (va_runV (As := [.int 2]) (rest := []) ⟨hx, hb, hml, hown, hts⟩ (c_X17_fails l dC dI z h0 l1 l2 l3 l4 l5 l6 l7 l8 l9 ce y1 y2 y3 y4 y5 2 H.size) (cwV 1 hts (ws_goodV e215 e216 e218 e212 e217) rfl rfl rfl ⟨rfl, by decide +kernel, by decide +kernel, by decide +kernel⟩ ⟨Nat.le_of_ble_eq_true rfl, Nat.le_of_ble_eq_true rfl⟩) ⟨pPre_blind, va_recv hKc hPc (ci := 14) (q0 := 0) rfl rfl, fun U hU hW => ⟨rfl, pPre_at hPc hKc hDc hE hS hFc U hU hW⟩⟩ rfl rfl hl.1 rfl (lv_room (Nat.le_of_ble_eq_true rfl)) dX17_find_29 ⟨Nat.le_of_ble_eq_true rfl, Nat.le_of_ble_eq_true rfl⟩) hS (fun q _ h => hFc q h) hFc (fun r7 u8 t H1 locs ht hvm hw hB hz1 hk1 hS => ?_)
    obtain ⟨hP1, hK1, hD1⟩ := hB
    rw [ht] at hP1
    have hK1 := va_K.moved hvm.symm hK1
    obtain ⟨hP, hD⟩ := va_join (wr := [(l2, .inr (0, [.int 0, .ref z.1, .int 0]))]) (w1 := [(h0, .inr (14, [.ref l1, .ref l2, .ref l3, .ref l4, .ref l5, .ref l6, .ref l7, .ref l8, .ref l9, .ref ce, .null, .int 0, .int 0, .int 2, .int 0, .int 0, .int 0, .int 0, .int 0, .int 0, .int 0, .int 0, .int 0, .long 0, .ref y1, .ref y2, .ref y3, .ref y4, .ref y5, .int 0, .int 0]))]) hP hD [0] [1] rfl rfl (by decide) (by decide) hk1 hFc hP1 hD1
    have hK := hK.app hK1
    generalize H1 = H at hP hS ⊢
    have hP : va_P (dC, dI) pcl [(l2, .inr (0, [.int 0, .ref z.1, .int 0])), (h0, .inr (14, [.ref l1, .ref l2, .ref l3, .ref l4, .ref l5, .ref l6, .ref l7, .ref l8, .ref l9, .ref ce, .null, .int 0, .int 0, .int 2, .int 0, .int 0, .int 0, .int 0, .int 0, .int 0, .int 0, .int 0, .int 0, .long 0, .ref y1, .ref y2, .ref y3, .ref y4, .ref y5, .int 0, .int 0]))] H := hP
    have hD : va_D A [(l2, .inr (0, [.int 0, .ref z.1, .int 0])), (h0, .inr (14, [.ref l1, .ref l2, .ref l3, .ref l4, .ref l5, .ref l6, .ref l7, .ref l8, .ref l9, .ref ce, .null, .int 0, .int 0, .int 2, .int 0, .int 0, .int 0, .int 0, .int 0, .int 0, .int 0, .int 0, .int 0, .long 0, .ref y1, .ref y2, .ref y3, .ref y4, .ref y5, .int 0, .int 0]))] := hD
    have hK : va_K (dC, dI) pcl [] s := hK
    subst hw
    refine lv_goto (tgt := 40) hx hb dX17_find_32 (by decide) ?_
    have hP9 := hP.sub (ws' := [(h0, .inr (14, [.ref l1, .ref l2, .ref l3, .ref l4, .ref l5, .ref l6, .ref l7, .ref l8, .ref l9, .ref ce, .null, .int 0, .int 0, .int 2, .int 0, .int 0, .int 0, .int 0, .int 0, .int 0, .int 0, .int 0, .int 0, .long 0, .ref y1, .ref y2, .ref y3, .ref y4, .ref y5, .int 0, .int 0]))]) [1] rfl
    have hD9 := hD.sub (ws' := [(h0, .inr (14, [.ref l1, .ref l2, .ref l3, .ref l4, .ref l5, .ref l6, .ref l7, .ref l8, .ref l9, .ref ce, .null, .int 0, .int 0, .int 2, .int 0, .int 0, .int 0, .int 0, .int 0, .int 0, .int 0, .int 0, .int 0, .long 0, .ref y1, .ref y2, .ref y3, .ref y4, .ref y5, .int 0, .int 0]))]) [1] (by decide) rfl
    have hK9 := hK.sub (tys' := []) [] rfl
    refine W.widen (k := 0) (n := 0) (Nat.le_of_ble_eq_true rfl) (Nat.le_of_ble_eq_true rfl) ?_
    exact W.iret (v := 0) hx hb hr (fun t ht hW => ⟨⟨0, 2, rfl, (Or.inl ⟨rfl, rfl, p3⟩), by rw [ht]; exact hP9, va_K.moved hW.alike hK9, hD9⟩, hS.F ht⟩) hS.2.2 dX17_find_40
  · refine lv_if_ne (tgt := 16) hx hb dX17_find_7 (by decide) (fun h9 => absurd (by decide) h9) (fun _ => ?_)
    refine lv_aload_n hx hb dX17_find_10 rfl (lv_at hl 0 rfl) ?_
    refine lv_iconst (v := 1) hx hb dX17_find_11 (by decide) ?_
    have hPc := hP.sub (ws' := [(h0, .inr (14, [.ref l1, .ref l2, .ref l3, .ref l4, .ref l5, .ref l6, .ref l7, .ref l8, .ref l9, .ref ce, .null, .int 0, .int 0, .int 0, .int 0, .int 0, .int 0, .int 0, .int 0, .int 0, .int 0, .int 0, .int 0, .long 0, .ref y1, .ref y2, .ref y3, .ref y4, .ref y5, .int 0, .int 0]))]) [0] rfl
    have hDc := hD.sub (ws' := [(h0, .inr (14, [.ref l1, .ref l2, .ref l3, .ref l4, .ref l5, .ref l6, .ref l7, .ref l8, .ref l9, .ref ce, .null, .int 0, .int 0, .int 0, .int 0, .int 0, .int 0, .int 0, .int 0, .int 0, .int 0, .int 0, .int 0, .long 0, .ref y1, .ref y2, .ref y3, .ref y4, .ref y5, .int 0, .int 0]))]) [0] (by decide) rfl
    have hKc := hK.sub (tys' := []) [] rfl
    have hFc := va_free (wc := [(h0, .inr (14, [.ref l1, .ref l2, .ref l3, .ref l4, .ref l5, .ref l6, .ref l7, .ref l8, .ref l9, .ref ce, .null, .int 0, .int 0, .int 0, .int 0, .int 0, .int 0, .int 0, .int 0, .int 0, .int 0, .int 0, .int 0, .long 0, .ref y1, .ref y2, .ref y3, .ref y4, .ref y5, .int 0, .int 0]))]) hD hS hA [0] rfl
    refine va_calli (va_runV (As := [.int 1]) (rest := []) ⟨hx, hb, hml, hown, hts⟩ (c_X17_fails l dC dI z h0 l1 l2 l3 l4 l5 l6 l7 l8 l9 ce y1 y2 y3 y4 y5 1 H.size) (cwV 1 hts (ws_goodV e215 e216 e218 e212 e217) rfl rfl rfl ⟨rfl, by decide +kernel, by decide +kernel, by decide +kernel⟩ ⟨Nat.le_of_ble_eq_true rfl, Nat.le_of_ble_eq_true rfl⟩) ⟨pPre_blind, va_recv hKc hPc (ci := 14) (q0 := 0) rfl rfl, fun U hU hW => ⟨rfl, pPre_at hPc hKc hDc hE hS hFc U hU hW⟩⟩ rfl rfl hl.1 rfl (lv_room (Nat.le_of_ble_eq_true rfl)) dX17_find_12 ⟨Nat.le_of_ble_eq_true rfl, Nat.le_of_ble_eq_true rfl⟩) hS (fun q _ h => hFc q h) hFc (fun r9 u10 t H1 locs ht hvm hw hB hz1 hk1 hS => ?_)
    obtain ⟨hP1, hK1, hD1⟩ := hB
    rw [ht] at hP1
    have hK1 := va_K.moved hvm.symm hK1
    obtain ⟨hP, hD⟩ := va_join (wr := [(l2, .inr (0, [.int 0, .ref z.1, .int 0]))]) (w1 := [(h0, .inr (14, [.ref l1, .ref l2, .ref l3, .ref l4, .ref l5, .ref l6, .ref l7, .ref l8, .ref l9, .ref ce, .null, .int 0, .int 0, .int 1, .int 0, .int 0, .int 0, .int 0, .int 0, .int 0, .int 0, .int 0, .int 0, .long 0, .ref y1, .ref y2, .ref y3, .ref y4, .ref y5, .int 0, .int 0]))]) hP hD [0] [1] rfl rfl (by decide) (by decide) hk1 hFc hP1 hD1
    have hK := hK.app hK1
    generalize H1 = H at hP hS ⊢
    have hP : va_P (dC, dI) pcl [(l2, .inr (0, [.int 0, .ref z.1, .int 0])), (h0, .inr (14, [.ref l1, .ref l2, .ref l3, .ref l4, .ref l5, .ref l6, .ref l7, .ref l8, .ref l9, .ref ce, .null, .int 0, .int 0, .int 1, .int 0, .int 0, .int 0, .int 0, .int 0, .int 0, .int 0, .int 0, .int 0, .long 0, .ref y1, .ref y2, .ref y3, .ref y4, .ref y5, .int 0, .int 0]))] H := hP
    have hD : va_D A [(l2, .inr (0, [.int 0, .ref z.1, .int 0])), (h0, .inr (14, [.ref l1, .ref l2, .ref l3, .ref l4, .ref l5, .ref l6, .ref l7, .ref l8, .ref l9, .ref ce, .null, .int 0, .int 0, .int 1, .int 0, .int 0, .int 0, .int 0, .int 0, .int 0, .int 0, .int 0, .int 0, .long 0, .ref y1, .ref y2, .ref y3, .ref y4, .ref y5, .int 0, .int 0]))] := hD
    have hK : va_K (dC, dI) pcl [] s := hK
    subst hw
    have hP9 := hP.sub (ws' := [(h0, .inr (14, [.ref l1, .ref l2, .ref l3, .ref l4, .ref l5, .ref l6, .ref l7, .ref l8, .ref l9, .ref ce, .null, .int 0, .int 0, .int 1, .int 0, .int 0, .int 0, .int 0, .int 0, .int 0, .int 0, .int 0, .int 0, .long 0, .ref y1, .ref y2, .ref y3, .ref y4, .ref y5, .int 0, .int 0]))]) [1] rfl
    have hD9 := hD.sub (ws' := [(h0, .inr (14, [.ref l1, .ref l2, .ref l3, .ref l4, .ref l5, .ref l6, .ref l7, .ref l8, .ref l9, .ref ce, .null, .int 0, .int 0, .int 1, .int 0, .int 0, .int 0, .int 0, .int 0, .int 0, .int 0, .int 0, .int 0, .long 0, .ref y1, .ref y2, .ref y3, .ref y4, .ref y5, .int 0, .int 0]))]) [1] (by decide) rfl
    have hK9 := hK.sub (tys' := []) [] rfl
    refine W.widen (k := 0) (n := 0) (Nat.le_of_ble_eq_true rfl) (Nat.le_of_ble_eq_true rfl) ?_
    exact W.iret (v := 0) hx hb hr (fun t ht hW => ⟨⟨0, 1, rfl, (Or.inr (⟨rfl, rfl, p4⟩)), by rw [ht]; exact hP9, va_K.moved hW.alike hK9, hD9⟩, hS.F ht⟩) hS.2.2 dX17_find_15
set_option maxHeartbeats 4000000 in
set_option maxRecDepth 100000 in
theorem c_X17_isEntry (l : Launch) (dC : Nat → ClassId) (dI : Nat → Nat → Nat) (z : pG) (h0 : Nat) (l1 : Nat) (l2 : Nat) (l3 : Nat) (l4 : Nat) (l5 : Nat) (l6 : Nat) (l7 : Nat) (l8 : Nat) (l9 : Nat) (ce : Nat) (y1 : Nat) (y2 : Nat) (y3 : Nat) (y4 : Nat) (y5 : Nat) (n : Int32) (sz : Nat) : Met l yX17_isEntry (ws_ yX17_isEntry cX17_isEntry 2 (some .boolean)) ({ frames := 1, cells := 0, slots := 0, locals := 22 }) (va_Pc [.ref h0, .int n] (pPre z dC dI [(h0, .inr (14, [.ref l1, .ref l2, .ref l3, .ref l4, .ref l5, .ref l6, .ref l7, .ref l8, .ref l9, .ref ce, .null, .int 0, .int 0, .int 0, .int 0, .int 0, .int 0, .int 0, .int 0, .int 0, .int 0, .int 0, .int 0, .long 0, .ref y1, .ref y2, .ref y3, .ref y4, .ref y5, .int 0, .int 0])), (l2, .inr (0, [.int 0, .ref z.1, .int 0]))] [] sz)) (va_Qi (fun (r : Int32) (_ : Unit) => r = 0) (fun _ t => pPost dC dI (va_A [(h0, .inr (14, [.ref l1, .ref l2, .ref l3, .ref l4, .ref l5, .ref l6, .ref l7, .ref l8, .ref l9, .ref ce, .null, .int 0, .int 0, .int 0, .int 0, .int 0, .int 0, .int 0, .int 0, .int 0, .int 0, .int 0, .int 0, .long 0, .ref y1, .ref y2, .ref y3, .ref y4, .ref y5, .int 0, .int 0])), (l2, .inr (0, [.int 0, .ref z.1, .int 0]))] sz) [(h0, .inr (14, [.ref l1, .ref l2, .ref l3, .ref l4, .ref l5, .ref l6, .ref l7, .ref l8, .ref l9, .ref ce, .null, .int 0, .int 0, .int 1, .int 0, .int 0, .int 0, .int 0, .int 0, .int 0, .int 0, .int 0, .int 0, .long 0, .ref y1, .ref y2, .ref y3, .ref y4, .ref y5, .int 0, .int 0]))] [] t) (va_A [(h0, .inr (14, [.ref l1, .ref l2, .ref l3, .ref l4, .ref l5, .ref l6, .ref l7, .ref l8, .ref l9, .ref ce, .null, .int 0, .int 0, .int 0, .int 0, .int 0, .int 0, .int 0, .int 0, .int 0, .int 0, .int 0, .int 0, .long 0, .ref y1, .ref y2, .ref y3, .ref y4, .ref y5, .int 0, .int 0])), (l2, .inr (0, [.int 0, .ref z.1, .int 0]))] sz)) 0 0 (va_A [(h0, .inr (14, [.ref l1, .ref l2, .ref l3, .ref l4, .ref l5, .ref l6, .ref l7, .ref l8, .ref l9, .ref ce, .null, .int 0, .int 0, .int 0, .int 0, .int 0, .int 0, .int 0, .int 0, .int 0, .int 0, .int 0, .int 0, .long 0, .ref y1, .ref y2, .ref y3, .ref y4, .ref y5, .int 0, .int 0])), (l2, .inr (0, [.int 0, .ref z.1, .int 0]))] sz) := by
  refine Met.ofW (cc := cX17_isEntry) (maxL := 2) (ret := (some .boolean)) (by decide) rfl ?_
  intro p e s m args below meth c s₁ B hml hv
  obtain ⟨rfl, hsz, hP, hK, hD0, hE⟩ := hv
  have hx := B.exec
  have hb := B.bytes
  have hr := B.returns
  have hts0 := atoms_spec (ws := ws_ yX17_isEntry cX17_isEntry 2 (some .boolean)) B.pre
  have hts := fun (w : Cond) (h : w ∈ pw) => hts0 w (List.mem_cons_of_mem _ h)
  have hown : s.vm.findClass RX17 = some m.cls := findClass_of_methodNamed B.named
  have hlocks := B.notSynchronized
  subst hsz
  have hD := hD0.self (sz := s.heap.size)
  generalize hAe : va_A [(h0, .inr (14, [.ref l1, .ref l2, .ref l3, .ref l4, .ref l5, .ref l6, .ref l7, .ref l8, .ref l9, .ref ce, .null, .int 0, .int 0, .int 0, .int 0, .int 0, .int 0, .int 0, .int 0, .int 0, .int 0, .int 0, .int 0, .long 0, .ref y1, .ref y2, .ref y3, .ref y4, .ref y5, .int 0, .int 0])), (l2, .inr (0, [.int 0, .ref z.1, .int 0]))] s.heap.size = A at hD hE ⊢
  have hA : ∀ q : Nat, s.heap.size ≤ q → A q := fun q h => by rw [← hAe]; exact Or.inr h
  have hS : va_S A s.heap s.heap [] := va_S.rf
  have hN := hE.1
  have hP : va_P (dC, dI) pcl [(h0, .inr (14, [.ref l1, .ref l2, .ref l3, .ref l4, .ref l5, .ref l6, .ref l7, .ref l8, .ref l9, .ref ce, .null, .int 0, .int 0, .int 0, .int 0, .int 0, .int 0, .int 0, .int 0, .int 0, .int 0, .int 0, .int 0, .long 0, .ref y1, .ref y2, .ref y3, .ref y4, .ref y5, .int 0, .int 0])), (l2, .inr (0, [.int 0, .ref z.1, .int 0]))] s.heap := hP
  have hl := lv_entry ([.ref h0, .int n]) (n := 2) (Nat.le_of_ble_eq_true rfl)
  rw [lg_entry_eq]
  generalize (lg_sl ([.ref h0, .int n]) ++ List.replicate (2 - (lg_sl ([.ref h0, .int n])).length) Slot.unset).toArray = ls at hl ⊢
  have hl : lv_has ls 2 [(0, .ref h0), (1, .int n)] := hl
  obtain ⟨H, hH0⟩ : ∃ H, H = s.heap := ⟨_, rfl⟩
  rw [← hH0] at hP ⊢
  have hS : va_S A s.heap H [] := by rw [hH0]; exact hS
  refine lv_aload_n hx hb dX17_isEntry_0 rfl (lv_at hl 0 rfl) ?_
  refine lv_iload_n hx hb dX17_isEntry_1 rfl (lv_at hl 1 rfl) ?_
  refine lv_iconst (v := 0) hx hb dX17_isEntry_2 (by decide) ?_
  refine lv_aload_n hx hb dX17_isEntry_3 rfl (lv_at hl 0 rfl) ?_
  refine va_get (D := (dC, dI)) (ci := 14) (v := .ref l2) (C := RX17) (T := TX17) (N := 31) hx hb hts pinX17 hown hK hP 0 rfl rfl 1 (by decide) (hts _ e190) (fun _ h9 => h9) rfl dX17_isEntry_4 ?_
  have hPc := hP.sub (ws' := [(l2, .inr (0, [.int 0, .ref z.1, .int 0]))]) [1] rfl
  have hDc := hD.sub (ws' := [(l2, .inr (0, [.int 0, .ref z.1, .int 0]))]) [1] (by decide) rfl
  have hKc := hK.sub (tys' := []) [] rfl
  have hFc := va_free (wc := [(l2, .inr (0, [.int 0, .ref z.1, .int 0]))]) hD hS hA [1] rfl
  refine va_calli (va_runV (As := []) (rest := [.int 0, .int n, .ref h0]) ⟨hx, hb, hml, hown, hts⟩ (c_Jx4a65c_size_8abf5 l dC dI z l2 0 z.1 0 H.size) (cwV 0 hts (ws_goodV e205 e206 e208 e185 e207) rfl rfl rfl ⟨rfl, by decide +kernel, by decide +kernel, by decide +kernel⟩ ⟨Nat.le_of_ble_eq_true rfl, Nat.le_of_ble_eq_true rfl⟩) ⟨pPre_blind, va_recv hKc hPc (ci := 0) (q0 := 0) rfl rfl, fun U hU hW => ⟨rfl, pPre_at hPc hKc hDc hE hS hFc U hU hW⟩⟩ rfl rfl hl.1 rfl (lv_room (Nat.le_of_ble_eq_true rfl)) dX17_isEntry_7 ⟨Nat.le_of_ble_eq_true rfl, Nat.le_of_ble_eq_true rfl⟩) hS (fun q _ h => hFc q h) hFc (fun r1 u2 t H1 locs ht hvm hw hB hz1 hk1 hS => ?_)
  obtain ⟨hP1, hK1, hD1⟩ := hB
  rw [ht] at hP1
  have hK1 := va_K.moved hvm.symm hK1
  obtain ⟨hP, hD⟩ := va_join (wr := [(h0, .inr (14, [.ref l1, .ref l2, .ref l3, .ref l4, .ref l5, .ref l6, .ref l7, .ref l8, .ref l9, .ref ce, .null, .int 0, .int 0, .int 0, .int 0, .int 0, .int 0, .int 0, .int 0, .int 0, .int 0, .int 0, .int 0, .long 0, .ref y1, .ref y2, .ref y3, .ref y4, .ref y5, .int 0, .int 0]))]) (w1 := [(l2, .inr (0, [.int 0, .ref z.1, .int 0]))]) hP hD [1] [0] rfl rfl (by decide) (by decide) hk1 hFc hP1 hD1
  have hK := hK.app hK1
  generalize H1 = H at hP hS ⊢
  have hP : va_P (dC, dI) pcl [(h0, .inr (14, [.ref l1, .ref l2, .ref l3, .ref l4, .ref l5, .ref l6, .ref l7, .ref l8, .ref l9, .ref ce, .null, .int 0, .int 0, .int 0, .int 0, .int 0, .int 0, .int 0, .int 0, .int 0, .int 0, .int 0, .int 0, .long 0, .ref y1, .ref y2, .ref y3, .ref y4, .ref y5, .int 0, .int 0])), (l2, .inr (0, [.int 0, .ref z.1, .int 0]))] H := hP
  have hD : va_D A [(h0, .inr (14, [.ref l1, .ref l2, .ref l3, .ref l4, .ref l5, .ref l6, .ref l7, .ref l8, .ref l9, .ref ce, .null, .int 0, .int 0, .int 0, .int 0, .int 0, .int 0, .int 0, .int 0, .int 0, .int 0, .int 0, .int 0, .long 0, .ref y1, .ref y2, .ref y3, .ref y4, .ref y5, .int 0, .int 0])), (l2, .inr (0, [.int 0, .ref z.1, .int 0]))] := hD
  have hK : va_K (dC, dI) pcl [] s := hK
  subst hw
  refine lv_iconst (v := 1) hx hb dX17_isEntry_10 (by decide) ?_
  refine lv_isub hx hb dX17_isEntry_11 ?_
  refine W.eq (g2 := F0 m 12 ls [.int (-1), .int 0, .int n, .ref h0]) (by rfl) ?_
  have hPc := hP.sub (ws' := []) [] rfl
  have hDc := hD.sub (ws' := []) [] (by decide) rfl
  have hKc := hK.sub (tys' := []) [] rfl
  have hFc := va_free (wc := []) hD hS hA [] rfl
  refine va_calli (va_runS (As := [.int n, .int 0, .int (-1)]) (rest := [.ref h0]) ⟨hx, hb, hml, hown, hts⟩ (c_X17_inE l dC dI z n H.size) (va_cwS 3 hts (ws_goodS e238 e239 e212 e240) rfl rfl rfl ⟨by decide +kernel, by decide +kernel, by decide +kernel⟩ ⟨Nat.le_of_ble_eq_true rfl, Nat.le_of_ble_eq_true rfl⟩) ⟨pPre_blind, fun U hU hW => ⟨rfl, pPre_at hPc hKc hDc hE hS hFc U hU hW⟩⟩ rfl rfl hl.1 rfl (lv_room (Nat.le_of_ble_eq_true rfl)) dX17_isEntry_12 ⟨Nat.le_of_ble_eq_true rfl, Nat.le_of_ble_eq_true rfl⟩) hS (fun q _ h => hFc q h) hFc (fun r3 u4 t H1 locs ht hvm hw hB hz1 hk1 hS => ?_)
  obtain ⟨hP1, hK1, hD1⟩ := hB
  rw [ht] at hP1
  have hK1 := va_K.moved hvm.symm hK1
  obtain ⟨hP, hD⟩ := va_join (wr := [(h0, .inr (14, [.ref l1, .ref l2, .ref l3, .ref l4, .ref l5, .ref l6, .ref l7, .ref l8, .ref l9, .ref ce, .null, .int 0, .int 0, .int 0, .int 0, .int 0, .int 0, .int 0, .int 0, .int 0, .int 0, .int 0, .int 0, .long 0, .ref y1, .ref y2, .ref y3, .ref y4, .ref y5, .int 0, .int 0])), (l2, .inr (0, [.int 0, .ref z.1, .int 0]))]) (w1 := []) hP hD [] [0, 1] rfl rfl (by decide) (by decide) hk1 hFc hP1 hD1
  have hK := hK.app hK1
  generalize H1 = H at hP hS ⊢
  have hP : va_P (dC, dI) pcl [(h0, .inr (14, [.ref l1, .ref l2, .ref l3, .ref l4, .ref l5, .ref l6, .ref l7, .ref l8, .ref l9, .ref ce, .null, .int 0, .int 0, .int 0, .int 0, .int 0, .int 0, .int 0, .int 0, .int 0, .int 0, .int 0, .int 0, .long 0, .ref y1, .ref y2, .ref y3, .ref y4, .ref y5, .int 0, .int 0])), (l2, .inr (0, [.int 0, .ref z.1, .int 0]))] H := hP
  have hD : va_D A [(h0, .inr (14, [.ref l1, .ref l2, .ref l3, .ref l4, .ref l5, .ref l6, .ref l7, .ref l8, .ref l9, .ref ce, .null, .int 0, .int 0, .int 0, .int 0, .int 0, .int 0, .int 0, .int 0, .int 0, .int 0, .int 0, .int 0, .long 0, .ref y1, .ref y2, .ref y3, .ref y4, .ref y5, .int 0, .int 0])), (l2, .inr (0, [.int 0, .ref z.1, .int 0]))] := hD
  have hK : va_K (dC, dI) pcl [] s := hK
  subst hw
  refine lv_if_eq (tgt := 22) hx hb dX17_isEntry_15 (by decide) (fun _ => ?_) (fun h9 => absurd (by decide) h9)
  refine lv_iconst (v := 1) hx hb dX17_isEntry_22 (by decide) ?_
  refine va_put (D := (dC, dI)) (ci := 14) (v := .int 1) (ty := .int) (C := RX17) (T := TX17) (N := 31) hx hb hts pinX17 tyX17 tyX17_ok nmX17 hown hK hP hD hS 0 rfl rfl 13 (by decide) (hts _ e204) (fun _ h9 => h9) rfl (by decide +kernel) rfl rfl (Nat.le_of_ble_eq_true rfl) dX17_isEntry_23 (fun H locs hP hD hS => ?_)
  have hP : va_P (dC, dI) pcl [(h0, .inr (14, [.ref l1, .ref l2, .ref l3, .ref l4, .ref l5, .ref l6, .ref l7, .ref l8, .ref l9, .ref ce, .null, .int 0, .int 0, .int 1, .int 0, .int 0, .int 0, .int 0, .int 0, .int 0, .int 0, .int 0, .int 0, .long 0, .ref y1, .ref y2, .ref y3, .ref y4, .ref y5, .int 0, .int 0])), (l2, .inr (0, [.int 0, .ref z.1, .int 0]))] H := hP
  have hD : va_D A [(h0, .inr (14, [.ref l1, .ref l2, .ref l3, .ref l4, .ref l5, .ref l6, .ref l7, .ref l8, .ref l9, .ref ce, .null, .int 0, .int 0, .int 1, .int 0, .int 0, .int 0, .int 0, .int 0, .int 0, .int 0, .int 0, .int 0, .long 0, .ref y1, .ref y2, .ref y3, .ref y4, .ref y5, .int 0, .int 0])), (l2, .inr (0, [.int 0, .ref z.1, .int 0]))] := hD
  refine lv_aload_n hx hb dX17_isEntry_26 rfl (lv_at hl 0 rfl) ?_
  refine va_get (D := (dC, dI)) (ci := 14) (v := .int 1) (C := RX17) (T := TX17) (N := 31) hx hb hts pinX17 hown hK hP 0 rfl rfl 13 (by decide) (hts _ e204) (fun _ h9 => h9) rfl dX17_isEntry_27 ?_
  refine lv_if_ne (tgt := 37) hx hb dX17_isEntry_30 (by decide) (fun _ => ?_) (fun h9 => absurd h9 (by decide))
  refine lv_iconst (v := 0) hx hb dX17_isEntry_37 (by decide) ?_
  have hP9 := hP.sub (ws' := [(h0, .inr (14, [.ref l1, .ref l2, .ref l3, .ref l4, .ref l5, .ref l6, .ref l7, .ref l8, .ref l9, .ref ce, .null, .int 0, .int 0, .int 1, .int 0, .int 0, .int 0, .int 0, .int 0, .int 0, .int 0, .int 0, .int 0, .long 0, .ref y1, .ref y2, .ref y3, .ref y4, .ref y5, .int 0, .int 0]))]) [0] rfl
  have hD9 := hD.sub (ws' := [(h0, .inr (14, [.ref l1, .ref l2, .ref l3, .ref l4, .ref l5, .ref l6, .ref l7, .ref l8, .ref l9, .ref ce, .null, .int 0, .int 0, .int 1, .int 0, .int 0, .int 0, .int 0, .int 0, .int 0, .int 0, .int 0, .int 0, .long 0, .ref y1, .ref y2, .ref y3, .ref y4, .ref y5, .int 0, .int 0]))]) [0] (by decide) rfl
  have hK9 := hK.sub (tys' := []) [] rfl
  refine W.widen (k := 0) (n := 0) (Nat.le_of_ble_eq_true rfl) (Nat.le_of_ble_eq_true rfl) ?_
  exact W.zret (v := 0) hx hb hr rfl (fun t ht hW => ⟨⟨0, (), rfl, rfl, by rw [ht]; exact hP9, va_K.moved hW.alike hK9, hD9⟩, hS.F ht⟩) hS.2.2 dX17_isEntry_38
set_option maxHeartbeats 4000000 in
set_option maxRecDepth 100000 in
theorem c_X17_isOp (l : Launch) (dC : Nat → ClassId) (dI : Nat → Nat → Nat) (z : pG) (h0 : Nat) (l1 : Nat) (l2 : Nat) (l3 : Nat) (l4 : Nat) (l5 : Nat) (l6 : Nat) (l7 : Nat) (l8 : Nat) (l9 : Nat) (ce : Nat) (y1 : Nat) (y2 : Nat) (y3 : Nat) (y4 : Nat) (y5 : Nat) (n : Int32) (k : Int32) (sz : Nat) : Met l yX17_isOp (ws_ yX17_isOp cX17_isOp 3 (some .boolean)) ({ frames := 1, cells := 0, slots := 0, locals := 22 }) (va_Pc [.ref h0, .int n, .int k] (pPre z dC dI [(h0, .inr (14, [.ref l1, .ref l2, .ref l3, .ref l4, .ref l5, .ref l6, .ref l7, .ref l8, .ref l9, .ref ce, .null, .int 0, .int 0, .int 0, .int 0, .int 0, .int 0, .int 0, .int 0, .int 0, .int 0, .int 0, .int 0, .long 0, .ref y1, .ref y2, .ref y3, .ref y4, .ref y5, .int 0, .int 0])), (l2, .inr (0, [.int 0, .ref z.1, .int 0]))] [] sz)) (va_Qi (fun (r : Int32) (_ : Unit) => r = 0) (fun _ t => pPost dC dI (va_A [(h0, .inr (14, [.ref l1, .ref l2, .ref l3, .ref l4, .ref l5, .ref l6, .ref l7, .ref l8, .ref l9, .ref ce, .null, .int 0, .int 0, .int 0, .int 0, .int 0, .int 0, .int 0, .int 0, .int 0, .int 0, .int 0, .int 0, .long 0, .ref y1, .ref y2, .ref y3, .ref y4, .ref y5, .int 0, .int 0])), (l2, .inr (0, [.int 0, .ref z.1, .int 0]))] sz) [(h0, .inr (14, [.ref l1, .ref l2, .ref l3, .ref l4, .ref l5, .ref l6, .ref l7, .ref l8, .ref l9, .ref ce, .null, .int 0, .int 0, .int 1, .int 0, .int 0, .int 0, .int 0, .int 0, .int 0, .int 0, .int 0, .int 0, .long 0, .ref y1, .ref y2, .ref y3, .ref y4, .ref y5, .int 0, .int 0]))] [] t) (va_A [(h0, .inr (14, [.ref l1, .ref l2, .ref l3, .ref l4, .ref l5, .ref l6, .ref l7, .ref l8, .ref l9, .ref ce, .null, .int 0, .int 0, .int 0, .int 0, .int 0, .int 0, .int 0, .int 0, .int 0, .int 0, .int 0, .int 0, .long 0, .ref y1, .ref y2, .ref y3, .ref y4, .ref y5, .int 0, .int 0])), (l2, .inr (0, [.int 0, .ref z.1, .int 0]))] sz)) 0 0 (va_A [(h0, .inr (14, [.ref l1, .ref l2, .ref l3, .ref l4, .ref l5, .ref l6, .ref l7, .ref l8, .ref l9, .ref ce, .null, .int 0, .int 0, .int 0, .int 0, .int 0, .int 0, .int 0, .int 0, .int 0, .int 0, .int 0, .int 0, .long 0, .ref y1, .ref y2, .ref y3, .ref y4, .ref y5, .int 0, .int 0])), (l2, .inr (0, [.int 0, .ref z.1, .int 0]))] sz) := by
  refine Met.ofW (cc := cX17_isOp) (maxL := 3) (ret := (some .boolean)) (by decide) rfl ?_
  intro p e s m args below meth c s₁ B hml hv
  obtain ⟨rfl, hsz, hP, hK, hD0, hE⟩ := hv
  have hx := B.exec
  have hb := B.bytes
  have hr := B.returns
  have hts0 := atoms_spec (ws := ws_ yX17_isOp cX17_isOp 3 (some .boolean)) B.pre
  have hts := fun (w : Cond) (h : w ∈ pw) => hts0 w (List.mem_cons_of_mem _ h)
  have hown : s.vm.findClass RX17 = some m.cls := findClass_of_methodNamed B.named
  have hlocks := B.notSynchronized
  subst hsz
  have hD := hD0.self (sz := s.heap.size)
  generalize hAe : va_A [(h0, .inr (14, [.ref l1, .ref l2, .ref l3, .ref l4, .ref l5, .ref l6, .ref l7, .ref l8, .ref l9, .ref ce, .null, .int 0, .int 0, .int 0, .int 0, .int 0, .int 0, .int 0, .int 0, .int 0, .int 0, .int 0, .int 0, .long 0, .ref y1, .ref y2, .ref y3, .ref y4, .ref y5, .int 0, .int 0])), (l2, .inr (0, [.int 0, .ref z.1, .int 0]))] s.heap.size = A at hD hE ⊢
  have hA : ∀ q : Nat, s.heap.size ≤ q → A q := fun q h => by rw [← hAe]; exact Or.inr h
  have hS : va_S A s.heap s.heap [] := va_S.rf
  have hN := hE.1
  have hP : va_P (dC, dI) pcl [(h0, .inr (14, [.ref l1, .ref l2, .ref l3, .ref l4, .ref l5, .ref l6, .ref l7, .ref l8, .ref l9, .ref ce, .null, .int 0, .int 0, .int 0, .int 0, .int 0, .int 0, .int 0, .int 0, .int 0, .int 0, .int 0, .int 0, .long 0, .ref y1, .ref y2, .ref y3, .ref y4, .ref y5, .int 0, .int 0])), (l2, .inr (0, [.int 0, .ref z.1, .int 0]))] s.heap := hP
  have hl := lv_entry ([.ref h0, .int n, .int k]) (n := 3) (Nat.le_of_ble_eq_true rfl)
  rw [lg_entry_eq]
  generalize (lg_sl ([.ref h0, .int n, .int k]) ++ List.replicate (3 - (lg_sl ([.ref h0, .int n, .int k])).length) Slot.unset).toArray = ls at hl ⊢
  have hl : lv_has ls 3 [(0, .ref h0), (1, .int n), (2, .int k)] := hl
  obtain ⟨H, hH0⟩ : ∃ H, H = s.heap := ⟨_, rfl⟩
  rw [← hH0] at hP ⊢
  have hS : va_S A s.heap H [] := by rw [hH0]; exact hS
  refine lv_aload_n hx hb dX17_isOp_0 rfl (lv_at hl 0 rfl) ?_
  refine lv_iload_n hx hb dX17_isOp_1 rfl (lv_at hl 1 rfl) ?_
  refine lv_iconst (v := 0) hx hb dX17_isOp_2 (by decide) ?_
  refine lv_aload_n hx hb dX17_isOp_3 rfl (lv_at hl 0 rfl) ?_
  refine va_get (D := (dC, dI)) (ci := 14) (v := .ref l2) (C := RX17) (T := TX17) (N := 31) hx hb hts pinX17 hown hK hP 0 rfl rfl 1 (by decide) (hts _ e190) (fun _ h9 => h9) rfl dX17_isOp_4 ?_
  have hPc := hP.sub (ws' := [(l2, .inr (0, [.int 0, .ref z.1, .int 0]))]) [1] rfl
  have hDc := hD.sub (ws' := [(l2, .inr (0, [.int 0, .ref z.1, .int 0]))]) [1] (by decide) rfl
  have hKc := hK.sub (tys' := []) [] rfl
  have hFc := va_free (wc := [(l2, .inr (0, [.int 0, .ref z.1, .int 0]))]) hD hS hA [1] rfl
  refine va_calli (va_runV (As := []) (rest := [.int 0, .int n, .ref h0]) ⟨hx, hb, hml, hown, hts⟩ (c_Jx4a65c_size_8abf5 l dC dI z l2 0 z.1 0 H.size) (cwV 0 hts (ws_goodV e205 e206 e208 e185 e207) rfl rfl rfl ⟨rfl, by decide +kernel, by decide +kernel, by decide +kernel⟩ ⟨Nat.le_of_ble_eq_true rfl, Nat.le_of_ble_eq_true rfl⟩) ⟨pPre_blind, va_recv hKc hPc (ci := 0) (q0 := 0) rfl rfl, fun U hU hW => ⟨rfl, pPre_at hPc hKc hDc hE hS hFc U hU hW⟩⟩ rfl rfl hl.1 rfl (lv_room (Nat.le_of_ble_eq_true rfl)) dX17_isOp_7 ⟨Nat.le_of_ble_eq_true rfl, Nat.le_of_ble_eq_true rfl⟩) hS (fun q _ h => hFc q h) hFc (fun r1 u2 t H1 locs ht hvm hw hB hz1 hk1 hS => ?_)
  obtain ⟨hP1, hK1, hD1⟩ := hB
  rw [ht] at hP1
  have hK1 := va_K.moved hvm.symm hK1
  obtain ⟨hP, hD⟩ := va_join (wr := [(h0, .inr (14, [.ref l1, .ref l2, .ref l3, .ref l4, .ref l5, .ref l6, .ref l7, .ref l8, .ref l9, .ref ce, .null, .int 0, .int 0, .int 0, .int 0, .int 0, .int 0, .int 0, .int 0, .int 0, .int 0, .int 0, .int 0, .long 0, .ref y1, .ref y2, .ref y3, .ref y4, .ref y5, .int 0, .int 0]))]) (w1 := [(l2, .inr (0, [.int 0, .ref z.1, .int 0]))]) hP hD [1] [0] rfl rfl (by decide) (by decide) hk1 hFc hP1 hD1
  have hK := hK.app hK1
  generalize H1 = H at hP hS ⊢
  have hP : va_P (dC, dI) pcl [(h0, .inr (14, [.ref l1, .ref l2, .ref l3, .ref l4, .ref l5, .ref l6, .ref l7, .ref l8, .ref l9, .ref ce, .null, .int 0, .int 0, .int 0, .int 0, .int 0, .int 0, .int 0, .int 0, .int 0, .int 0, .int 0, .int 0, .long 0, .ref y1, .ref y2, .ref y3, .ref y4, .ref y5, .int 0, .int 0])), (l2, .inr (0, [.int 0, .ref z.1, .int 0]))] H := hP
  have hD : va_D A [(h0, .inr (14, [.ref l1, .ref l2, .ref l3, .ref l4, .ref l5, .ref l6, .ref l7, .ref l8, .ref l9, .ref ce, .null, .int 0, .int 0, .int 0, .int 0, .int 0, .int 0, .int 0, .int 0, .int 0, .int 0, .int 0, .int 0, .long 0, .ref y1, .ref y2, .ref y3, .ref y4, .ref y5, .int 0, .int 0])), (l2, .inr (0, [.int 0, .ref z.1, .int 0]))] := hD
  have hK : va_K (dC, dI) pcl [] s := hK
  subst hw
  refine lv_iconst (v := 1) hx hb dX17_isOp_10 (by decide) ?_
  refine lv_isub hx hb dX17_isOp_11 ?_
  refine W.eq (g2 := F0 m 12 ls [.int (-1), .int 0, .int n, .ref h0]) (by rfl) ?_
  have hPc := hP.sub (ws' := []) [] rfl
  have hDc := hD.sub (ws' := []) [] (by decide) rfl
  have hKc := hK.sub (tys' := []) [] rfl
  have hFc := va_free (wc := []) hD hS hA [] rfl
  refine va_calli (va_runS (As := [.int n, .int 0, .int (-1)]) (rest := [.ref h0]) ⟨hx, hb, hml, hown, hts⟩ (c_X17_inE l dC dI z n H.size) (va_cwS 3 hts (ws_goodS e238 e239 e212 e240) rfl rfl rfl ⟨by decide +kernel, by decide +kernel, by decide +kernel⟩ ⟨Nat.le_of_ble_eq_true rfl, Nat.le_of_ble_eq_true rfl⟩) ⟨pPre_blind, fun U hU hW => ⟨rfl, pPre_at hPc hKc hDc hE hS hFc U hU hW⟩⟩ rfl rfl hl.1 rfl (lv_room (Nat.le_of_ble_eq_true rfl)) dX17_isOp_12 ⟨Nat.le_of_ble_eq_true rfl, Nat.le_of_ble_eq_true rfl⟩) hS (fun q _ h => hFc q h) hFc (fun r3 u4 t H1 locs ht hvm hw hB hz1 hk1 hS => ?_)
  obtain ⟨hP1, hK1, hD1⟩ := hB
  rw [ht] at hP1
  have hK1 := va_K.moved hvm.symm hK1
  obtain ⟨hP, hD⟩ := va_join (wr := [(h0, .inr (14, [.ref l1, .ref l2, .ref l3, .ref l4, .ref l5, .ref l6, .ref l7, .ref l8, .ref l9, .ref ce, .null, .int 0, .int 0, .int 0, .int 0, .int 0, .int 0, .int 0, .int 0, .int 0, .int 0, .int 0, .int 0, .long 0, .ref y1, .ref y2, .ref y3, .ref y4, .ref y5, .int 0, .int 0])), (l2, .inr (0, [.int 0, .ref z.1, .int 0]))]) (w1 := []) hP hD [] [0, 1] rfl rfl (by decide) (by decide) hk1 hFc hP1 hD1
  have hK := hK.app hK1
  generalize H1 = H at hP hS ⊢
  have hP : va_P (dC, dI) pcl [(h0, .inr (14, [.ref l1, .ref l2, .ref l3, .ref l4, .ref l5, .ref l6, .ref l7, .ref l8, .ref l9, .ref ce, .null, .int 0, .int 0, .int 0, .int 0, .int 0, .int 0, .int 0, .int 0, .int 0, .int 0, .int 0, .int 0, .long 0, .ref y1, .ref y2, .ref y3, .ref y4, .ref y5, .int 0, .int 0])), (l2, .inr (0, [.int 0, .ref z.1, .int 0]))] H := hP
  have hD : va_D A [(h0, .inr (14, [.ref l1, .ref l2, .ref l3, .ref l4, .ref l5, .ref l6, .ref l7, .ref l8, .ref l9, .ref ce, .null, .int 0, .int 0, .int 0, .int 0, .int 0, .int 0, .int 0, .int 0, .int 0, .int 0, .int 0, .int 0, .long 0, .ref y1, .ref y2, .ref y3, .ref y4, .ref y5, .int 0, .int 0])), (l2, .inr (0, [.int 0, .ref z.1, .int 0]))] := hD
  have hK : va_K (dC, dI) pcl [] s := hK
  subst hw
  refine lv_if_eq (tgt := 49) hx hb dX17_isOp_15 (by decide) (fun _ => ?_) (fun h9 => absurd (by decide) h9)
  refine lv_iconst (v := 1) hx hb dX17_isOp_49 (by decide) ?_
  refine va_put (D := (dC, dI)) (ci := 14) (v := .int 1) (ty := .int) (C := RX17) (T := TX17) (N := 31) hx hb hts pinX17 tyX17 tyX17_ok nmX17 hown hK hP hD hS 0 rfl rfl 13 (by decide) (hts _ e204) (fun _ h9 => h9) rfl (by decide +kernel) rfl rfl (Nat.le_of_ble_eq_true rfl) dX17_isOp_50 (fun H locs hP hD hS => ?_)
  have hP : va_P (dC, dI) pcl [(h0, .inr (14, [.ref l1, .ref l2, .ref l3, .ref l4, .ref l5, .ref l6, .ref l7, .ref l8, .ref l9, .ref ce, .null, .int 0, .int 0, .int 1, .int 0, .int 0, .int 0, .int 0, .int 0, .int 0, .int 0, .int 0, .int 0, .long 0, .ref y1, .ref y2, .ref y3, .ref y4, .ref y5, .int 0, .int 0])), (l2, .inr (0, [.int 0, .ref z.1, .int 0]))] H := hP
  have hD : va_D A [(h0, .inr (14, [.ref l1, .ref l2, .ref l3, .ref l4, .ref l5, .ref l6, .ref l7, .ref l8, .ref l9, .ref ce, .null, .int 0, .int 0, .int 1, .int 0, .int 0, .int 0, .int 0, .int 0, .int 0, .int 0, .int 0, .int 0, .long 0, .ref y1, .ref y2, .ref y3, .ref y4, .ref y5, .int 0, .int 0])), (l2, .inr (0, [.int 0, .ref z.1, .int 0]))] := hD
  refine lv_aload_n hx hb dX17_isOp_53 rfl (lv_at hl 0 rfl) ?_
  refine va_get (D := (dC, dI)) (ci := 14) (v := .int 1) (C := RX17) (T := TX17) (N := 31) hx hb hts pinX17 hown hK hP 0 rfl rfl 13 (by decide) (hts _ e204) (fun _ h9 => h9) rfl dX17_isOp_54 ?_
  refine lv_if_ne (tgt := 64) hx hb dX17_isOp_57 (by decide) (fun _ => ?_) (fun h9 => absurd h9 (by decide))
  refine lv_iconst (v := 0) hx hb dX17_isOp_64 (by decide) ?_
  have hP9 := hP.sub (ws' := [(h0, .inr (14, [.ref l1, .ref l2, .ref l3, .ref l4, .ref l5, .ref l6, .ref l7, .ref l8, .ref l9, .ref ce, .null, .int 0, .int 0, .int 1, .int 0, .int 0, .int 0, .int 0, .int 0, .int 0, .int 0, .int 0, .int 0, .long 0, .ref y1, .ref y2, .ref y3, .ref y4, .ref y5, .int 0, .int 0]))]) [0] rfl
  have hD9 := hD.sub (ws' := [(h0, .inr (14, [.ref l1, .ref l2, .ref l3, .ref l4, .ref l5, .ref l6, .ref l7, .ref l8, .ref l9, .ref ce, .null, .int 0, .int 0, .int 1, .int 0, .int 0, .int 0, .int 0, .int 0, .int 0, .int 0, .int 0, .int 0, .long 0, .ref y1, .ref y2, .ref y3, .ref y4, .ref y5, .int 0, .int 0]))]) [0] (by decide) rfl
  have hK9 := hK.sub (tys' := []) [] rfl
  refine W.widen (k := 0) (n := 0) (Nat.le_of_ble_eq_true rfl) (Nat.le_of_ble_eq_true rfl) ?_
  exact W.zret (v := 0) hx hb hr rfl (fun t ht hW => ⟨⟨0, (), rfl, rfl, by rw [ht]; exact hP9, va_K.moved hW.alike hK9, hD9⟩, hS.F ht⟩) hS.2.2 dX17_isOp_65
set_option maxHeartbeats 4000000 in
set_option maxRecDepth 100000 in
theorem c_X17_enter (l : Launch) (dC : Nat → ClassId) (dI : Nat → Nat → Nat) (z : pG) (h0 : Nat) (l1 : Nat) (l2 : Nat) (l3 : Nat) (l4 : Nat) (l5 : Nat) (l6 : Nat) (l7 : Nat) (l8 : Nat) (l9 : Nat) (ce : Nat) (y1 : Nat) (y2 : Nat) (y3 : Nat) (y4 : Nat) (y5 : Nat) (sz : Nat) : Met l yX17_enter (wsW_ yX17_enter cX17_enter 2 (some .char) [(35, 89, 92, 81), (35, 89, 104, 89)]) ({ frames := 1, cells := 0, slots := 0, locals := 23 }) (va_Pc [.ref h0] (pPre z dC dI [(h0, .inr (14, [.ref l1, .ref l2, .ref l3, .ref l4, .ref l5, .ref l6, .ref l7, .ref l8, .ref l9, .ref ce, .null, .int 0, .int 0, .int 0, .int 0, .int 0, .int 0, .int 0, .int 0, .int 0, .int 0, .int 0, .int 0, .long 0, .ref y1, .ref y2, .ref y3, .ref y4, .ref y5, .int 0, .int 0])), (l1, .inr (0, [.int 0, .ref z.1, .int 0])), (l8, .inr (0, [.int 0, .ref z.1, .int 0]))] [] sz)) (va_Qi (fun (r : Int32) (_ : Unit) => r = 111) (fun _ t => pPost dC dI (va_A [(h0, .inr (14, [.ref l1, .ref l2, .ref l3, .ref l4, .ref l5, .ref l6, .ref l7, .ref l8, .ref l9, .ref ce, .null, .int 0, .int 0, .int 0, .int 0, .int 0, .int 0, .int 0, .int 0, .int 0, .int 0, .int 0, .int 0, .long 0, .ref y1, .ref y2, .ref y3, .ref y4, .ref y5, .int 0, .int 0])), (l1, .inr (0, [.int 0, .ref z.1, .int 0])), (l8, .inr (0, [.int 0, .ref z.1, .int 0]))] sz) [(h0, .inr (14, [.ref l1, .ref l2, .ref l3, .ref l4, .ref l5, .ref l6, .ref l7, .ref l8, .ref l9, .ref ce, .null, .int 0, .int 0, .int 0, .int 0, .int 0, .int 0, .int 0, .int 0, .int 0, .int 1, .int 0, .int 0, .long 0, .ref y1, .ref y2, .ref y3, .ref y4, .ref y5, .int 0, .int 0]))] [] t) (va_A [(h0, .inr (14, [.ref l1, .ref l2, .ref l3, .ref l4, .ref l5, .ref l6, .ref l7, .ref l8, .ref l9, .ref ce, .null, .int 0, .int 0, .int 0, .int 0, .int 0, .int 0, .int 0, .int 0, .int 0, .int 0, .int 0, .int 0, .long 0, .ref y1, .ref y2, .ref y3, .ref y4, .ref y5, .int 0, .int 0])), (l1, .inr (0, [.int 0, .ref z.1, .int 0])), (l8, .inr (0, [.int 0, .ref z.1, .int 0]))] sz)) 0 0 (va_A [(h0, .inr (14, [.ref l1, .ref l2, .ref l3, .ref l4, .ref l5, .ref l6, .ref l7, .ref l8, .ref l9, .ref ce, .null, .int 0, .int 0, .int 0, .int 0, .int 0, .int 0, .int 0, .int 0, .int 0, .int 0, .int 0, .int 0, .long 0, .ref y1, .ref y2, .ref y3, .ref y4, .ref y5, .int 0, .int 0])), (l1, .inr (0, [.int 0, .ref z.1, .int 0])), (l8, .inr (0, [.int 0, .ref z.1, .int 0]))] sz) := by
  refine va_MetW (cc := cX17_enter) (maxL := 2) (ret := (some .char)) (hh := [(35, 89, 92, 81), (35, 89, 104, 89)]) (by decide) rfl ?_
  intro p e s m args below meth c s₁ B hml hv
  obtain ⟨rfl, hsz, hP, hK, hD0, hE⟩ := hv
  have hx := B.exec
  have hb := B.bytes
  have hr := B.returns
  have hts0 := atoms_spec (ws := wsW_ yX17_enter cX17_enter 2 (some .char) [(35, 89, 92, 81), (35, 89, 104, 89)]) B.pre
  have htb := vx_table (x := yX17_enter) B (hts0 _ List.mem_cons_self)
  have hts := fun (w : Cond) (h : w ∈ pw) => hts0 w (List.mem_cons_of_mem _ h)
  have hown : s.vm.findClass RX17 = some m.cls := findClass_of_methodNamed B.named
  have hlocks := B.notSynchronized
  subst hsz
  have hD := hD0.self (sz := s.heap.size)
  generalize hAe : va_A [(h0, .inr (14, [.ref l1, .ref l2, .ref l3, .ref l4, .ref l5, .ref l6, .ref l7, .ref l8, .ref l9, .ref ce, .null, .int 0, .int 0, .int 0, .int 0, .int 0, .int 0, .int 0, .int 0, .int 0, .int 0, .int 0, .int 0, .long 0, .ref y1, .ref y2, .ref y3, .ref y4, .ref y5, .int 0, .int 0])), (l1, .inr (0, [.int 0, .ref z.1, .int 0])), (l8, .inr (0, [.int 0, .ref z.1, .int 0]))] s.heap.size = A at hD hE ⊢
  have hA : ∀ q : Nat, s.heap.size ≤ q → A q := fun q h => by rw [← hAe]; exact Or.inr h
  have hS : va_S A s.heap s.heap [] := va_S.rf
  have hN := hE.1
  have hP : va_P (dC, dI) pcl [(h0, .inr (14, [.ref l1, .ref l2, .ref l3, .ref l4, .ref l5, .ref l6, .ref l7, .ref l8, .ref l9, .ref ce, .null, .int 0, .int 0, .int 0, .int 0, .int 0, .int 0, .int 0, .int 0, .int 0, .int 0, .int 0, .int 0, .long 0, .ref y1, .ref y2, .ref y3, .ref y4, .ref y5, .int 0, .int 0])), (l1, .inr (0, [.int 0, .ref z.1, .int 0])), (l8, .inr (0, [.int 0, .ref z.1, .int 0]))] s.heap := hP
  have hl := lv_entry ([.ref h0]) (n := 2) (Nat.le_of_ble_eq_true rfl)
  rw [lg_entry_eq]
  generalize (lg_sl ([.ref h0]) ++ List.replicate (2 - (lg_sl ([.ref h0])).length) Slot.unset).toArray = ls at hl ⊢
  have hl : lv_has ls 2 [(0, .ref h0)] := hl
  obtain ⟨H, hH0⟩ : ∃ H, H = s.heap := ⟨_, rfl⟩
  rw [← hH0] at hP ⊢
  have hS : va_S A s.heap H [] := by rw [hH0]; exact hS
  refine lv_aload_n hx hb dX17_enter_0 rfl (lv_at hl 0 rfl) ?_
  refine lv_iconst (v := 0) hx hb dX17_enter_1 (by decide) ?_
  refine va_put (D := (dC, dI)) (ci := 14) (v := .int 0) (ty := .int) (C := RX17) (T := TX17) (N := 31) hx hb hts pinX17 tyX17 tyX17_ok nmX17 hown hK hP hD hS 0 rfl rfl 13 (by decide) (hts _ e204) (fun _ h9 => h9) rfl (by decide +kernel) rfl rfl (Nat.le_of_ble_eq_true rfl) dX17_enter_2 (fun H locs hP hD hS => ?_)
  have hP : va_P (dC, dI) pcl [(h0, .inr (14, [.ref l1, .ref l2, .ref l3, .ref l4, .ref l5, .ref l6, .ref l7, .ref l8, .ref l9, .ref ce, .null, .int 0, .int 0, .int 0, .int 0, .int 0, .int 0, .int 0, .int 0, .int 0, .int 0, .int 0, .int 0, .long 0, .ref y1, .ref y2, .ref y3, .ref y4, .ref y5, .int 0, .int 0])), (l1, .inr (0, [.int 0, .ref z.1, .int 0])), (l8, .inr (0, [.int 0, .ref z.1, .int 0]))] H := hP
  have hD : va_D A [(h0, .inr (14, [.ref l1, .ref l2, .ref l3, .ref l4, .ref l5, .ref l6, .ref l7, .ref l8, .ref l9, .ref ce, .null, .int 0, .int 0, .int 0, .int 0, .int 0, .int 0, .int 0, .int 0, .int 0, .int 0, .int 0, .int 0, .long 0, .ref y1, .ref y2, .ref y3, .ref y4, .ref y5, .int 0, .int 0])), (l1, .inr (0, [.int 0, .ref z.1, .int 0])), (l8, .inr (0, [.int 0, .ref z.1, .int 0]))] := hD
  refine lv_aload_n hx hb dX17_enter_5 rfl (lv_at hl 0 rfl) ?_
  refine lv_dup hx hb dX17_enter_6 rfl ?_
  refine va_get (D := (dC, dI)) (ci := 14) (v := .int 0) (C := RX17) (T := TX17) (N := 31) hx hb hts pinX17 hown hK hP 0 rfl rfl 20 (by decide) (hts _ e241) (fun _ h9 => h9) rfl dX17_enter_7 ?_
  refine lv_iconst (v := 1) hx hb dX17_enter_10 (by decide) ?_
  refine lv_iadd hx hb dX17_enter_11 ?_
  refine W.eq (g2 := F0 m 12 ls [.int 1, .ref h0]) (by rfl) ?_
  refine va_put (D := (dC, dI)) (ci := 14) (v := .int 1) (ty := .int) (C := RX17) (T := TX17) (N := 31) hx hb hts pinX17 tyX17 tyX17_ok nmX17 hown hK hP hD hS 0 rfl rfl 20 (by decide) (hts _ e241) (fun _ h9 => h9) rfl (by decide +kernel) rfl rfl (Nat.le_of_ble_eq_true rfl) dX17_enter_12 (fun H locs hP hD hS => ?_)
  have hP : va_P (dC, dI) pcl [(h0, .inr (14, [.ref l1, .ref l2, .ref l3, .ref l4, .ref l5, .ref l6, .ref l7, .ref l8, .ref l9, .ref ce, .null, .int 0, .int 0, .int 0, .int 0, .int 0, .int 0, .int 0, .int 0, .int 0, .int 1, .int 0, .int 0, .long 0, .ref y1, .ref y2, .ref y3, .ref y4, .ref y5, .int 0, .int 0])), (l1, .inr (0, [.int 0, .ref z.1, .int 0])), (l8, .inr (0, [.int 0, .ref z.1, .int 0]))] H := hP
  have hD : va_D A [(h0, .inr (14, [.ref l1, .ref l2, .ref l3, .ref l4, .ref l5, .ref l6, .ref l7, .ref l8, .ref l9, .ref ce, .null, .int 0, .int 0, .int 0, .int 0, .int 0, .int 0, .int 0, .int 0, .int 0, .int 1, .int 0, .int 0, .long 0, .ref y1, .ref y2, .ref y3, .ref y4, .ref y5, .int 0, .int 0])), (l1, .inr (0, [.int 0, .ref z.1, .int 0])), (l8, .inr (0, [.int 0, .ref z.1, .int 0]))] := hD
  refine lv_aload_n hx hb dX17_enter_15 rfl (lv_at hl 0 rfl) ?_
  refine lv_iconst (v := 0) hx hb dX17_enter_16 (by decide) ?_
  refine va_put (D := (dC, dI)) (ci := 14) (v := .int 0) (ty := .int) (C := RX17) (T := TX17) (N := 31) hx hb hts pinX17 tyX17 tyX17_ok nmX17 hown hK hP hD hS 0 rfl rfl 17 (by decide) (hts _ e242) (fun _ h9 => h9) rfl (by decide +kernel) rfl rfl (Nat.le_of_ble_eq_true rfl) dX17_enter_17 (fun H locs hP hD hS => ?_)
  have hP : va_P (dC, dI) pcl [(h0, .inr (14, [.ref l1, .ref l2, .ref l3, .ref l4, .ref l5, .ref l6, .ref l7, .ref l8, .ref l9, .ref ce, .null, .int 0, .int 0, .int 0, .int 0, .int 0, .int 0, .int 0, .int 0, .int 0, .int 1, .int 0, .int 0, .long 0, .ref y1, .ref y2, .ref y3, .ref y4, .ref y5, .int 0, .int 0])), (l1, .inr (0, [.int 0, .ref z.1, .int 0])), (l8, .inr (0, [.int 0, .ref z.1, .int 0]))] H := hP
  have hD : va_D A [(h0, .inr (14, [.ref l1, .ref l2, .ref l3, .ref l4, .ref l5, .ref l6, .ref l7, .ref l8, .ref l9, .ref ce, .null, .int 0, .int 0, .int 0, .int 0, .int 0, .int 0, .int 0, .int 0, .int 0, .int 1, .int 0, .int 0, .long 0, .ref y1, .ref y2, .ref y3, .ref y4, .ref y5, .int 0, .int 0])), (l1, .inr (0, [.int 0, .ref z.1, .int 0])), (l8, .inr (0, [.int 0, .ref z.1, .int 0]))] := hD
  refine lv_aload_n hx hb dX17_enter_20 rfl (lv_at hl 0 rfl) ?_
  refine lv_iconst (v := 0) hx hb dX17_enter_21 (by decide) ?_
  refine va_put (D := (dC, dI)) (ci := 14) (v := .int 0) (ty := .int) (C := RX17) (T := TX17) (N := 31) hx hb hts pinX17 tyX17 tyX17_ok nmX17 hown hK hP hD hS 0 rfl rfl 18 (by decide) (hts _ e243) (fun _ h9 => h9) rfl (by decide +kernel) rfl rfl (Nat.le_of_ble_eq_true rfl) dX17_enter_22 (fun H locs hP hD hS => ?_)
  have hP : va_P (dC, dI) pcl [(h0, .inr (14, [.ref l1, .ref l2, .ref l3, .ref l4, .ref l5, .ref l6, .ref l7, .ref l8, .ref l9, .ref ce, .null, .int 0, .int 0, .int 0, .int 0, .int 0, .int 0, .int 0, .int 0, .int 0, .int 1, .int 0, .int 0, .long 0, .ref y1, .ref y2, .ref y3, .ref y4, .ref y5, .int 0, .int 0])), (l1, .inr (0, [.int 0, .ref z.1, .int 0])), (l8, .inr (0, [.int 0, .ref z.1, .int 0]))] H := hP
  have hD : va_D A [(h0, .inr (14, [.ref l1, .ref l2, .ref l3, .ref l4, .ref l5, .ref l6, .ref l7, .ref l8, .ref l9, .ref ce, .null, .int 0, .int 0, .int 0, .int 0, .int 0, .int 0, .int 0, .int 0, .int 0, .int 1, .int 0, .int 0, .long 0, .ref y1, .ref y2, .ref y3, .ref y4, .ref y5, .int 0, .int 0])), (l1, .inr (0, [.int 0, .ref z.1, .int 0])), (l8, .inr (0, [.int 0, .ref z.1, .int 0]))] := hD
  refine lv_aload_n hx hb dX17_enter_25 rfl (lv_at hl 0 rfl) ?_
  refine lv_iconst (v := 0) hx hb dX17_enter_26 (by decide) ?_
  refine va_put (D := (dC, dI)) (ci := 14) (v := .int 0) (ty := .int) (C := RX17) (T := TX17) (N := 31) hx hb hts pinX17 tyX17 tyX17_ok nmX17 hown hK hP hD hS 0 rfl rfl 19 (by decide) (hts _ e244) (fun _ h9 => h9) rfl (by decide +kernel) rfl rfl (Nat.le_of_ble_eq_true rfl) dX17_enter_27 (fun H locs hP hD hS => ?_)
  have hP : va_P (dC, dI) pcl [(h0, .inr (14, [.ref l1, .ref l2, .ref l3, .ref l4, .ref l5, .ref l6, .ref l7, .ref l8, .ref l9, .ref ce, .null, .int 0, .int 0, .int 0, .int 0, .int 0, .int 0, .int 0, .int 0, .int 0, .int 1, .int 0, .int 0, .long 0, .ref y1, .ref y2, .ref y3, .ref y4, .ref y5, .int 0, .int 0])), (l1, .inr (0, [.int 0, .ref z.1, .int 0])), (l8, .inr (0, [.int 0, .ref z.1, .int 0]))] H := hP
  have hD : va_D A [(h0, .inr (14, [.ref l1, .ref l2, .ref l3, .ref l4, .ref l5, .ref l6, .ref l7, .ref l8, .ref l9, .ref ce, .null, .int 0, .int 0, .int 0, .int 0, .int 0, .int 0, .int 0, .int 0, .int 0, .int 1, .int 0, .int 0, .long 0, .ref y1, .ref y2, .ref y3, .ref y4, .ref y5, .int 0, .int 0])), (l1, .inr (0, [.int 0, .ref z.1, .int 0])), (l8, .inr (0, [.int 0, .ref z.1, .int 0]))] := hD
  refine lv_aload_n hx hb dX17_enter_30 rfl (lv_at hl 0 rfl) ?_
  refine lv_iconst (v := 0) hx hb dX17_enter_31 (by decide) ?_
  refine va_put (D := (dC, dI)) (ci := 14) (v := .int 0) (ty := .boolean) (C := RX17) (T := TX17) (N := 31) hx hb hts pinX17 tyX17 tyX17_ok nmX17 hown hK hP hD hS 0 rfl rfl 12 (by decide) (hts _ e245) (fun _ h9 => h9) rfl (by decide +kernel) rfl rfl (Nat.le_of_ble_eq_true rfl) dX17_enter_32 (fun H locs hP hD hS => ?_)
  have hP : va_P (dC, dI) pcl [(h0, .inr (14, [.ref l1, .ref l2, .ref l3, .ref l4, .ref l5, .ref l6, .ref l7, .ref l8, .ref l9, .ref ce, .null, .int 0, .int 0, .int 0, .int 0, .int 0, .int 0, .int 0, .int 0, .int 0, .int 1, .int 0, .int 0, .long 0, .ref y1, .ref y2, .ref y3, .ref y4, .ref y5, .int 0, .int 0])), (l1, .inr (0, [.int 0, .ref z.1, .int 0])), (l8, .inr (0, [.int 0, .ref z.1, .int 0]))] H := hP
  have hD : va_D A [(h0, .inr (14, [.ref l1, .ref l2, .ref l3, .ref l4, .ref l5, .ref l6, .ref l7, .ref l8, .ref l9, .ref ce, .null, .int 0, .int 0, .int 0, .int 0, .int 0, .int 0, .int 0, .int 0, .int 0, .int 1, .int 0, .int 0, .long 0, .ref y1, .ref y2, .ref y3, .ref y4, .ref y5, .int 0, .int 0])), (l1, .inr (0, [.int 0, .ref z.1, .int 0])), (l8, .inr (0, [.int 0, .ref z.1, .int 0]))] := hD
  refine lv_aload_n hx hb dX17_enter_35 rfl (lv_at hl 0 rfl) ?_
  refine va_get (D := (dC, dI)) (ci := 14) (v := .int 0) (C := RX17) (T := TX17) (N := 31) hx hb hts pinX17 hown hK hP 0 rfl rfl 17 (by decide) (hts _ e242) (fun _ h9 => h9) rfl dX17_enter_36 ?_
  refine lv_aload_n hx hb dX17_enter_39 rfl (lv_at hl 0 rfl) ?_
  refine va_get (D := (dC, dI)) (ci := 14) (v := .ref l1) (C := RX17) (T := TX17) (N := 31) hx hb hts pinX17 hown hK hP 0 rfl rfl 0 (by decide) (hts _ e189) (fun _ h9 => h9) rfl dX17_enter_40 ?_
  have hPc := hP.sub (ws' := [(l1, .inr (0, [.int 0, .ref z.1, .int 0]))]) [1] rfl
  have hDc := hD.sub (ws' := [(l1, .inr (0, [.int 0, .ref z.1, .int 0]))]) [1] (by decide) rfl
  have hKc := hK.sub (tys' := []) [] rfl
  have hFc := va_free (wc := [(l1, .inr (0, [.int 0, .ref z.1, .int 0]))]) hD hS hA [1] rfl
  refine va_calli (va_runV (As := []) (rest := [.int 0]) ⟨hx, hb, hml, hown, hts⟩ (c_Jx4a65c_size_8abf5 l dC dI z l1 0 z.1 0 H.size) (cwV 0 hts (ws_goodV e205 e206 e208 e185 e207) rfl rfl rfl ⟨rfl, by decide +kernel, by decide +kernel, by decide +kernel⟩ ⟨Nat.le_of_ble_eq_true rfl, Nat.le_of_ble_eq_true rfl⟩) ⟨pPre_blind, va_recv hKc hPc (ci := 0) (q0 := 0) rfl rfl, fun U hU hW => ⟨rfl, pPre_at hPc hKc hDc hE hS hFc U hU hW⟩⟩ rfl rfl hl.1 rfl (lv_room (Nat.le_of_ble_eq_true rfl)) dX17_enter_43 ⟨Nat.le_of_ble_eq_true rfl, Nat.le_of_ble_eq_true rfl⟩) hS (fun q _ h => hFc q h) hFc (fun r1 u2 t H1 locs ht hvm hw hB hz1 hk1 hS => ?_)
  obtain ⟨hP1, hK1, hD1⟩ := hB
  rw [ht] at hP1
  have hK1 := va_K.moved hvm.symm hK1
  obtain ⟨hP, hD⟩ := va_join (wr := [(h0, .inr (14, [.ref l1, .ref l2, .ref l3, .ref l4, .ref l5, .ref l6, .ref l7, .ref l8, .ref l9, .ref ce, .null, .int 0, .int 0, .int 0, .int 0, .int 0, .int 0, .int 0, .int 0, .int 0, .int 1, .int 0, .int 0, .long 0, .ref y1, .ref y2, .ref y3, .ref y4, .ref y5, .int 0, .int 0])), (l8, .inr (0, [.int 0, .ref z.1, .int 0]))]) (w1 := [(l1, .inr (0, [.int 0, .ref z.1, .int 0]))]) hP hD [1] [0, 2] rfl rfl (by decide) (by decide) hk1 hFc hP1 hD1
  have hK := hK.app hK1
  generalize H1 = H at hP hS ⊢
  have hP : va_P (dC, dI) pcl [(h0, .inr (14, [.ref l1, .ref l2, .ref l3, .ref l4, .ref l5, .ref l6, .ref l7, .ref l8, .ref l9, .ref ce, .null, .int 0, .int 0, .int 0, .int 0, .int 0, .int 0, .int 0, .int 0, .int 0, .int 1, .int 0, .int 0, .long 0, .ref y1, .ref y2, .ref y3, .ref y4, .ref y5, .int 0, .int 0])), (l8, .inr (0, [.int 0, .ref z.1, .int 0])), (l1, .inr (0, [.int 0, .ref z.1, .int 0]))] H := hP
  have hD : va_D A [(h0, .inr (14, [.ref l1, .ref l2, .ref l3, .ref l4, .ref l5, .ref l6, .ref l7, .ref l8, .ref l9, .ref ce, .null, .int 0, .int 0, .int 0, .int 0, .int 0, .int 0, .int 0, .int 0, .int 0, .int 1, .int 0, .int 0, .long 0, .ref y1, .ref y2, .ref y3, .ref y4, .ref y5, .int 0, .int 0])), (l8, .inr (0, [.int 0, .ref z.1, .int 0])), (l1, .inr (0, [.int 0, .ref z.1, .int 0]))] := hD
  have hK : va_K (dC, dI) pcl [] s := hK
  subst hw
  refine lv_icmp_ge (tgt := 82) hx hb dX17_enter_46 (by decide) (fun _ => ?_) (fun h9 => absurd (by decide) h9)
  refine lv_aload_n hx hb dX17_enter_82 rfl (lv_at hl 0 rfl) ?_
  refine va_get (D := (dC, dI)) (ci := 14) (v := .ref l8) (C := RX17) (T := TX17) (N := 31) hx hb hts pinX17 hown hK hP 0 rfl rfl 7 (by decide) (hts _ e196) (fun _ h9 => h9) rfl dX17_enter_83 ?_
  have hPc := hP.sub (ws' := [(l8, .inr (0, [.int 0, .ref z.1, .int 0]))]) [1] rfl
  have hDc := hD.sub (ws' := [(l8, .inr (0, [.int 0, .ref z.1, .int 0]))]) [1] (by decide) rfl
  have hKc := hK.sub (tys' := []) [] rfl
  have hFc := va_free (wc := [(l8, .inr (0, [.int 0, .ref z.1, .int 0]))]) hD hS hA [1] rfl
  refine va_callv (va_runV (As := []) (rest := []) ⟨hx, hb, hml, hown, hts⟩ (c_Jx4a65c_clear_da8c8 l dC dI z l8 H.size) (cwV 0 hts (ws_goodV e246 e247 e249 e185 e248) rfl rfl rfl ⟨rfl, by decide +kernel, by decide +kernel, by decide +kernel⟩ ⟨Nat.le_of_ble_eq_true rfl, Nat.le_of_ble_eq_true rfl⟩) ⟨pPre_blind, va_recv hKc hPc (ci := 0) (q0 := 0) rfl rfl, fun U hU hW => ⟨rfl, pPre_at hPc hKc hDc hE hS hFc U hU hW⟩⟩ rfl rfl hl.1 rfl (lv_room (Nat.le_of_ble_eq_true rfl)) dX17_enter_86 ⟨Nat.le_of_ble_eq_true rfl, Nat.le_of_ble_eq_true rfl⟩) hS (fun q _ h => hFc q h) hFc (fun u4 t H1 locs ht hvm hw hB hz1 hk1 hS => ?_)
  obtain ⟨hP1, hK1, hD1⟩ := hB
  rw [ht] at hP1
  have hK1 := va_K.moved hvm.symm hK1
  obtain ⟨hP, hD⟩ := va_join (wr := [(h0, .inr (14, [.ref l1, .ref l2, .ref l3, .ref l4, .ref l5, .ref l6, .ref l7, .ref l8, .ref l9, .ref ce, .null, .int 0, .int 0, .int 0, .int 0, .int 0, .int 0, .int 0, .int 0, .int 0, .int 1, .int 0, .int 0, .long 0, .ref y1, .ref y2, .ref y3, .ref y4, .ref y5, .int 0, .int 0])), (l1, .inr (0, [.int 0, .ref z.1, .int 0]))]) (w1 := [(l8, .inr (0, [.int 1, .ref z.1, .int 0]))]) hP hD [1] [0, 2] rfl rfl (by decide) (by decide) hk1 hFc hP1 hD1
  have hK := hK.app hK1
  generalize H1 = H at hP hS ⊢
  have hP : va_P (dC, dI) pcl [(h0, .inr (14, [.ref l1, .ref l2, .ref l3, .ref l4, .ref l5, .ref l6, .ref l7, .ref l8, .ref l9, .ref ce, .null, .int 0, .int 0, .int 0, .int 0, .int 0, .int 0, .int 0, .int 0, .int 0, .int 1, .int 0, .int 0, .long 0, .ref y1, .ref y2, .ref y3, .ref y4, .ref y5, .int 0, .int 0])), (l1, .inr (0, [.int 0, .ref z.1, .int 0])), (l8, .inr (0, [.int 1, .ref z.1, .int 0]))] H := hP
  have hD : va_D A [(h0, .inr (14, [.ref l1, .ref l2, .ref l3, .ref l4, .ref l5, .ref l6, .ref l7, .ref l8, .ref l9, .ref ce, .null, .int 0, .int 0, .int 0, .int 0, .int 0, .int 0, .int 0, .int 0, .int 0, .int 1, .int 0, .int 0, .long 0, .ref y1, .ref y2, .ref y3, .ref y4, .ref y5, .int 0, .int 0])), (l1, .inr (0, [.int 0, .ref z.1, .int 0])), (l8, .inr (0, [.int 1, .ref z.1, .int 0]))] := hD
  have hK : va_K (dC, dI) pcl [] s := hK
  refine lv_goto (tgt := 118) hx hb dX17_enter_89 (by decide) ?_
  refine lv_aload_n hx hb dX17_enter_118 rfl (lv_at hl 0 rfl) ?_
  refine va_get (D := (dC, dI)) (ci := 14) (v := .ref l1) (C := RX17) (T := TX17) (N := 31) hx hb hts pinX17 hown hK hP 0 rfl rfl 0 (by decide) (hts _ e189) (fun _ h9 => h9) rfl dX17_enter_119 ?_
  have hPc := hP.sub (ws' := [(l1, .inr (0, [.int 0, .ref z.1, .int 0]))]) [1] rfl
  have hDc := hD.sub (ws' := [(l1, .inr (0, [.int 0, .ref z.1, .int 0]))]) [1] (by decide) rfl
  have hKc := hK.sub (tys' := []) [] rfl
  have hFc := va_free (wc := [(l1, .inr (0, [.int 0, .ref z.1, .int 0]))]) hD hS hA [1] rfl
  refine va_callv (va_runV (As := []) (rest := []) ⟨hx, hb, hml, hown, hts⟩ (c_Jx4a65c_clear_da8c8 l dC dI z l1 H.size) (cwV 0 hts (ws_goodV e246 e247 e249 e185 e248) rfl rfl rfl ⟨rfl, by decide +kernel, by decide +kernel, by decide +kernel⟩ ⟨Nat.le_of_ble_eq_true rfl, Nat.le_of_ble_eq_true rfl⟩) ⟨pPre_blind, va_recv hKc hPc (ci := 0) (q0 := 0) rfl rfl, fun U hU hW => ⟨rfl, pPre_at hPc hKc hDc hE hS hFc U hU hW⟩⟩ rfl rfl hl.1 rfl (lv_room (Nat.le_of_ble_eq_true rfl)) dX17_enter_122 ⟨Nat.le_of_ble_eq_true rfl, Nat.le_of_ble_eq_true rfl⟩) hS (fun q _ h => hFc q h) hFc (fun u6 t H1 locs ht hvm hw hB hz1 hk1 hS => ?_)
  obtain ⟨hP1, hK1, hD1⟩ := hB
  rw [ht] at hP1
  have hK1 := va_K.moved hvm.symm hK1
  obtain ⟨hP, hD⟩ := va_join (wr := [(h0, .inr (14, [.ref l1, .ref l2, .ref l3, .ref l4, .ref l5, .ref l6, .ref l7, .ref l8, .ref l9, .ref ce, .null, .int 0, .int 0, .int 0, .int 0, .int 0, .int 0, .int 0, .int 0, .int 0, .int 1, .int 0, .int 0, .long 0, .ref y1, .ref y2, .ref y3, .ref y4, .ref y5, .int 0, .int 0])), (l8, .inr (0, [.int 1, .ref z.1, .int 0]))]) (w1 := [(l1, .inr (0, [.int 1, .ref z.1, .int 0]))]) hP hD [1] [0, 2] rfl rfl (by decide) (by decide) hk1 hFc hP1 hD1
  have hK := hK.app hK1
  generalize H1 = H at hP hS ⊢
  have hP : va_P (dC, dI) pcl [(h0, .inr (14, [.ref l1, .ref l2, .ref l3, .ref l4, .ref l5, .ref l6, .ref l7, .ref l8, .ref l9, .ref ce, .null, .int 0, .int 0, .int 0, .int 0, .int 0, .int 0, .int 0, .int 0, .int 0, .int 1, .int 0, .int 0, .long 0, .ref y1, .ref y2, .ref y3, .ref y4, .ref y5, .int 0, .int 0])), (l8, .inr (0, [.int 1, .ref z.1, .int 0])), (l1, .inr (0, [.int 1, .ref z.1, .int 0]))] H := hP
  have hD : va_D A [(h0, .inr (14, [.ref l1, .ref l2, .ref l3, .ref l4, .ref l5, .ref l6, .ref l7, .ref l8, .ref l9, .ref ce, .null, .int 0, .int 0, .int 0, .int 0, .int 0, .int 0, .int 0, .int 0, .int 0, .int 1, .int 0, .int 0, .long 0, .ref y1, .ref y2, .ref y3, .ref y4, .ref y5, .int 0, .int 0])), (l8, .inr (0, [.int 1, .ref z.1, .int 0])), (l1, .inr (0, [.int 1, .ref z.1, .int 0]))] := hD
  have hK : va_K (dC, dI) pcl [] s := hK
  refine lv_aload_n hx hb dX17_enter_125 rfl (lv_at hl 0 rfl) ?_
  refine va_get (D := (dC, dI)) (ci := 14) (v := .int 0) (C := RX17) (T := TX17) (N := 31) hx hb hts pinX17 hown hK hP 0 rfl rfl 12 (by decide) (hts _ e245) (fun _ h9 => h9) rfl dX17_enter_126 ?_
  refine lv_if_eq (tgt := 137) hx hb dX17_enter_129 (by decide) (fun _ => ?_) (fun h9 => absurd (by decide) h9)
  refine lv_aload_n hx hb dX17_enter_137 rfl (lv_at hl 0 rfl) ?_
  refine va_get (D := (dC, dI)) (ci := 14) (v := .int 0) (C := RX17) (T := TX17) (N := 31) hx hb hts pinX17 hown hK hP 0 rfl rfl 11 (by decide) (hts _ e250) (fun _ h9 => h9) rfl dX17_enter_138 ?_
  refine lv_if_eq (tgt := 149) hx hb dX17_enter_141 (by decide) (fun _ => ?_) (fun h9 => absurd (by decide) h9)
  refine lv_bipush (v := 111) hx hb dX17_enter_149 (by decide) ?_
  have hP9 := hP.sub (ws' := [(h0, .inr (14, [.ref l1, .ref l2, .ref l3, .ref l4, .ref l5, .ref l6, .ref l7, .ref l8, .ref l9, .ref ce, .null, .int 0, .int 0, .int 0, .int 0, .int 0, .int 0, .int 0, .int 0, .int 0, .int 1, .int 0, .int 0, .long 0, .ref y1, .ref y2, .ref y3, .ref y4, .ref y5, .int 0, .int 0]))]) [0] rfl
  have hD9 := hD.sub (ws' := [(h0, .inr (14, [.ref l1, .ref l2, .ref l3, .ref l4, .ref l5, .ref l6, .ref l7, .ref l8, .ref l9, .ref ce, .null, .int 0, .int 0, .int 0, .int 0, .int 0, .int 0, .int 0, .int 0, .int 0, .int 1, .int 0, .int 0, .long 0, .ref y1, .ref y2, .ref y3, .ref y4, .ref y5, .int 0, .int 0]))]) [0] (by decide) rfl
  have hK9 := hK.sub (tys' := []) [] rfl
  refine W.widen (k := 0) (n := 0) (Nat.le_of_ble_eq_true rfl) (Nat.le_of_ble_eq_true rfl) ?_
  exact W.zret (v := 111) hx hb hr rfl (fun t ht hW => ⟨⟨111, (), rfl, rfl, by rw [ht]; exact hP9, va_K.moved hW.alike hK9, hD9⟩, hS.F ht⟩) hS.2.2 dX17_enter_151
set_option maxHeartbeats 4000000 in
set_option maxRecDepth 100000 in
theorem c_X17_error_ (l : Launch) (dC : Nat → ClassId) (dI : Nat → Nat → Nat) (z : pG) (h0 : Nat) (l1 : Nat) (l2 : Nat) (l3 : Nat) (l4 : Nat) (l5 : Nat) (l6 : Nat) (l7 : Nat) (l8 : Nat) (l9 : Nat) (ce : Nat) (y1 : Nat) (y2 : Nat) (y3 : Nat) (y4 : Nat) (y5 : Nat) (sz : Nat) : Met l yX17_error_ (ws_ yX17_error_ cX17_error_ 1 (some .int)) ({ frames := 1, cells := 0, slots := 0, locals := 21 }) (va_Pc [.ref h0] (pPre z dC dI [(h0, .inr (14, [.ref l1, .ref l2, .ref l3, .ref l4, .ref l5, .ref l6, .ref l7, .ref l8, .ref l9, .ref ce, .null, .int 0, .int 0, .int 0, .int 0, .int 0, .int 0, .int 0, .int 0, .int 0, .int 0, .int 0, .int 0, .long 0, .ref y1, .ref y2, .ref y3, .ref y4, .ref y5, .int 0, .int 0]))] [] sz)) (va_Qi (fun (r : Int32) (_ : Unit) => r = 0) (fun _ t => pPost dC dI (va_A [(h0, .inr (14, [.ref l1, .ref l2, .ref l3, .ref l4, .ref l5, .ref l6, .ref l7, .ref l8, .ref l9, .ref ce, .null, .int 0, .int 0, .int 0, .int 0, .int 0, .int 0, .int 0, .int 0, .int 0, .int 0, .int 0, .int 0, .long 0, .ref y1, .ref y2, .ref y3, .ref y4, .ref y5, .int 0, .int 0]))] sz) [(h0, .inr (14, [.ref l1, .ref l2, .ref l3, .ref l4, .ref l5, .ref l6, .ref l7, .ref l8, .ref l9, .ref ce, .null, .int 0, .int 0, .int 1, .int 0, .int 0, .int 0, .int 0, .int 0, .int 0, .int 0, .int 0, .int 0, .long 0, .ref y1, .ref y2, .ref y3, .ref y4, .ref y5, .int 0, .int 0]))] [] t) (va_A [(h0, .inr (14, [.ref l1, .ref l2, .ref l3, .ref l4, .ref l5, .ref l6, .ref l7, .ref l8, .ref l9, .ref ce, .null, .int 0, .int 0, .int 0, .int 0, .int 0, .int 0, .int 0, .int 0, .int 0, .int 0, .int 0, .int 0, .long 0, .ref y1, .ref y2, .ref y3, .ref y4, .ref y5, .int 0, .int 0]))] sz)) 0 0 (va_A [(h0, .inr (14, [.ref l1, .ref l2, .ref l3, .ref l4, .ref l5, .ref l6, .ref l7, .ref l8, .ref l9, .ref ce, .null, .int 0, .int 0, .int 0, .int 0, .int 0, .int 0, .int 0, .int 0, .int 0, .int 0, .int 0, .int 0, .long 0, .ref y1, .ref y2, .ref y3, .ref y4, .ref y5, .int 0, .int 0]))] sz) := by
  refine Met.ofW (cc := cX17_error_) (maxL := 1) (ret := (some .int)) (by decide) rfl ?_
  intro p e s m args below meth c s₁ B hml hv
  obtain ⟨rfl, hsz, hP, hK, hD0, hE⟩ := hv
  have hx := B.exec
  have hb := B.bytes
  have hr := B.returns
  have hts0 := atoms_spec (ws := ws_ yX17_error_ cX17_error_ 1 (some .int)) B.pre
  have hts := fun (w : Cond) (h : w ∈ pw) => hts0 w (List.mem_cons_of_mem _ h)
  have hown : s.vm.findClass RX17 = some m.cls := findClass_of_methodNamed B.named
  have hlocks := B.notSynchronized
  subst hsz
  have hD := hD0.self (sz := s.heap.size)
  generalize hAe : va_A [(h0, .inr (14, [.ref l1, .ref l2, .ref l3, .ref l4, .ref l5, .ref l6, .ref l7, .ref l8, .ref l9, .ref ce, .null, .int 0, .int 0, .int 0, .int 0, .int 0, .int 0, .int 0, .int 0, .int 0, .int 0, .int 0, .int 0, .long 0, .ref y1, .ref y2, .ref y3, .ref y4, .ref y5, .int 0, .int 0]))] s.heap.size = A at hD hE ⊢
  have hA : ∀ q : Nat, s.heap.size ≤ q → A q := fun q h => by rw [← hAe]; exact Or.inr h
  have hS : va_S A s.heap s.heap [] := va_S.rf
  have hN := hE.1
  have hP : va_P (dC, dI) pcl [(h0, .inr (14, [.ref l1, .ref l2, .ref l3, .ref l4, .ref l5, .ref l6, .ref l7, .ref l8, .ref l9, .ref ce, .null, .int 0, .int 0, .int 0, .int 0, .int 0, .int 0, .int 0, .int 0, .int 0, .int 0, .int 0, .int 0, .long 0, .ref y1, .ref y2, .ref y3, .ref y4, .ref y5, .int 0, .int 0]))] s.heap := hP
  have hl := lv_entry ([.ref h0]) (n := 1) (Nat.le_of_ble_eq_true rfl)
  rw [lg_entry_eq]
  generalize (lg_sl ([.ref h0]) ++ List.replicate (1 - (lg_sl ([.ref h0])).length) Slot.unset).toArray = ls at hl ⊢
  have hl : lv_has ls 1 [(0, .ref h0)] := hl
  obtain ⟨H, hH0⟩ : ∃ H, H = s.heap := ⟨_, rfl⟩
  rw [← hH0] at hP ⊢
  have hS : va_S A s.heap H [] := by rw [hH0]; exact hS
  refine lv_aload_n hx hb dX17_error__0 rfl (lv_at hl 0 rfl) ?_
  refine va_get (D := (dC, dI)) (ci := 14) (v := .int 0) (C := RX17) (T := TX17) (N := 31) hx hb hts pinX17 hown hK hP 0 rfl rfl 12 (by decide) (hts _ e245) (fun _ h9 => h9) rfl dX17_error__1 ?_
  refine lv_if_eq (tgt := 18) hx hb dX17_error__4 (by decide) (fun _ => ?_) (fun h9 => absurd (by decide) h9)
  refine lv_aload_n hx hb dX17_error__18 rfl (lv_at hl 0 rfl) ?_
  refine lv_iconst (v := 1) hx hb dX17_error__19 (by decide) ?_
  have hPc := hP.sub (ws' := [(h0, .inr (14, [.ref l1, .ref l2, .ref l3, .ref l4, .ref l5, .ref l6, .ref l7, .ref l8, .ref l9, .ref ce, .null, .int 0, .int 0, .int 0, .int 0, .int 0, .int 0, .int 0, .int 0, .int 0, .int 0, .int 0, .int 0, .long 0, .ref y1, .ref y2, .ref y3, .ref y4, .ref y5, .int 0, .int 0]))]) [0] rfl
  have hDc := hD.sub (ws' := [(h0, .inr (14, [.ref l1, .ref l2, .ref l3, .ref l4, .ref l5, .ref l6, .ref l7, .ref l8, .ref l9, .ref ce, .null, .int 0, .int 0, .int 0, .int 0, .int 0, .int 0, .int 0, .int 0, .int 0, .int 0, .int 0, .int 0, .long 0, .ref y1, .ref y2, .ref y3, .ref y4, .ref y5, .int 0, .int 0]))]) [0] (by decide) rfl
  have hKc := hK.sub (tys' := []) [] rfl
  have hFc := va_free (wc := [(h0, .inr (14, [.ref l1, .ref l2, .ref l3, .ref l4, .ref l5, .ref l6, .ref l7, .ref l8, .ref l9, .ref ce, .null, .int 0, .int 0, .int 0, .int 0, .int 0, .int 0, .int 0, .int 0, .int 0, .int 0, .int 0, .int 0, .long 0, .ref y1, .ref y2, .ref y3, .ref y4, .ref y5, .int 0, .int 0]))]) hD hS hA [0] rfl
  refine va_calli (va_runV (As := [.int 1]) (rest := []) ⟨hx, hb, hml, hown, hts⟩ (c_X17_fails l dC dI z h0 l1 l2 l3 l4 l5 l6 l7 l8 l9 ce y1 y2 y3 y4 y5 1 H.size) (cwV 1 hts (ws_goodV e215 e216 e218 e212 e217) rfl rfl rfl ⟨rfl, by decide +kernel, by decide +kernel, by decide +kernel⟩ ⟨Nat.le_of_ble_eq_true rfl, Nat.le_of_ble_eq_true rfl⟩) ⟨pPre_blind, va_recv hKc hPc (ci := 14) (q0 := 0) rfl rfl, fun U hU hW => ⟨rfl, pPre_at hPc hKc hDc hE hS hFc U hU hW⟩⟩ rfl rfl hl.1 rfl (lv_room (Nat.le_of_ble_eq_true rfl)) dX17_error__20 ⟨Nat.le_of_ble_eq_true rfl, Nat.le_of_ble_eq_true rfl⟩) hS (fun q _ h => hFc q h) hFc (fun r1 u2 t H1 locs ht hvm hw hB hz1 hk1 hS => ?_)
  obtain ⟨hP1, hK1, hD1⟩ := hB
  rw [ht] at hP1
  have hK1 := va_K.moved hvm.symm hK1
  obtain ⟨hP, hD⟩ := va_join (wr := []) (w1 := [(h0, .inr (14, [.ref l1, .ref l2, .ref l3, .ref l4, .ref l5, .ref l6, .ref l7, .ref l8, .ref l9, .ref ce, .null, .int 0, .int 0, .int 1, .int 0, .int 0, .int 0, .int 0, .int 0, .int 0, .int 0, .int 0, .int 0, .long 0, .ref y1, .ref y2, .ref y3, .ref y4, .ref y5, .int 0, .int 0]))]) hP hD [0] [] rfl rfl (by decide) (by decide) hk1 hFc hP1 hD1
  have hK := hK.app hK1
  generalize H1 = H at hP hS ⊢
  have hP : va_P (dC, dI) pcl [(h0, .inr (14, [.ref l1, .ref l2, .ref l3, .ref l4, .ref l5, .ref l6, .ref l7, .ref l8, .ref l9, .ref ce, .null, .int 0, .int 0, .int 1, .int 0, .int 0, .int 0, .int 0, .int 0, .int 0, .int 0, .int 0, .int 0, .long 0, .ref y1, .ref y2, .ref y3, .ref y4, .ref y5, .int 0, .int 0]))] H := hP
  have hD : va_D A [(h0, .inr (14, [.ref l1, .ref l2, .ref l3, .ref l4, .ref l5, .ref l6, .ref l7, .ref l8, .ref l9, .ref ce, .null, .int 0, .int 0, .int 1, .int 0, .int 0, .int 0, .int 0, .int 0, .int 0, .int 0, .int 0, .int 0, .long 0, .ref y1, .ref y2, .ref y3, .ref y4, .ref y5, .int 0, .int 0]))] := hD
  have hK : va_K (dC, dI) pcl [] s := hK
  subst hw
  have hP9 := hP.sub (ws' := [(h0, .inr (14, [.ref l1, .ref l2, .ref l3, .ref l4, .ref l5, .ref l6, .ref l7, .ref l8, .ref l9, .ref ce, .null, .int 0, .int 0, .int 1, .int 0, .int 0, .int 0, .int 0, .int 0, .int 0, .int 0, .int 0, .int 0, .long 0, .ref y1, .ref y2, .ref y3, .ref y4, .ref y5, .int 0, .int 0]))]) [0] rfl
  have hD9 := hD.sub (ws' := [(h0, .inr (14, [.ref l1, .ref l2, .ref l3, .ref l4, .ref l5, .ref l6, .ref l7, .ref l8, .ref l9, .ref ce, .null, .int 0, .int 0, .int 1, .int 0, .int 0, .int 0, .int 0, .int 0, .int 0, .int 0, .int 0, .int 0, .long 0, .ref y1, .ref y2, .ref y3, .ref y4, .ref y5, .int 0, .int 0]))]) [0] (by decide) rfl
  have hK9 := hK.sub (tys' := []) [] rfl
  refine W.widen (k := 0) (n := 0) (Nat.le_of_ble_eq_true rfl) (Nat.le_of_ble_eq_true rfl) ?_
  exact W.iret (v := 0) hx hb hr (fun t ht hW => ⟨⟨0, (), rfl, rfl, by rw [ht]; exact hP9, va_K.moved hW.alike hK9, hD9⟩, hS.F ht⟩) hS.2.2 dX17_error__23
set_option maxHeartbeats 4000000 in
set_option maxRecDepth 100000 in
theorem c_X17_trace (l : Launch) (dC : Nat → ClassId) (dI : Nat → Nat → Nat) (z : pG) (h0 : Nat) (l1 : Nat) (l2 : Nat) (l3 : Nat) (l4 : Nat) (l5 : Nat) (l6 : Nat) (l7 : Nat) (l8 : Nat) (l9 : Nat) (ce : Nat) (y1 : Nat) (y2 : Nat) (y3 : Nat) (y4 : Nat) (y5 : Nat) (sz : Nat) : Met l yX17_trace (ws_ yX17_trace cX17_trace 1 (some .int)) ({ frames := 1, cells := 0, slots := 0, locals := 21 }) (va_Pc [.ref h0] (pPre z dC dI [(h0, .inr (14, [.ref l1, .ref l2, .ref l3, .ref l4, .ref l5, .ref l6, .ref l7, .ref l8, .ref l9, .ref ce, .null, .int 0, .int 0, .int 0, .int 0, .int 0, .int 0, .int 0, .int 0, .int 0, .int 0, .int 0, .int 0, .long 0, .ref y1, .ref y2, .ref y3, .ref y4, .ref y5, .int 0, .int 0])), (l8, .inr (0, [.int 0, .ref z.1, .int 0]))] [] sz)) (va_Qi (fun (r : Int32) (_ : Unit) => r = 0) (fun _ t => pPost dC dI (va_A [(h0, .inr (14, [.ref l1, .ref l2, .ref l3, .ref l4, .ref l5, .ref l6, .ref l7, .ref l8, .ref l9, .ref ce, .null, .int 0, .int 0, .int 0, .int 0, .int 0, .int 0, .int 0, .int 0, .int 0, .int 0, .int 0, .int 0, .long 0, .ref y1, .ref y2, .ref y3, .ref y4, .ref y5, .int 0, .int 0])), (l8, .inr (0, [.int 0, .ref z.1, .int 0]))] sz) [(h0, .inr (14, [.ref l1, .ref l2, .ref l3, .ref l4, .ref l5, .ref l6, .ref l7, .ref l8, .ref l9, .ref ce, .null, .int 0, .int 0, .int 0, .int 0, .int 0, .int 0, .int 0, .int 0, .int 0, .int 0, .int 0, .int 0, .long 0, .ref y1, .ref y2, .ref y3, .ref y4, .ref y5, .int 0, .int 0]))] [] t) (va_A [(h0, .inr (14, [.ref l1, .ref l2, .ref l3, .ref l4, .ref l5, .ref l6, .ref l7, .ref l8, .ref l9, .ref ce, .null, .int 0, .int 0, .int 0, .int 0, .int 0, .int 0, .int 0, .int 0, .int 0, .int 0, .int 0, .int 0, .long 0, .ref y1, .ref y2, .ref y3, .ref y4, .ref y5, .int 0, .int 0])), (l8, .inr (0, [.int 0, .ref z.1, .int 0]))] sz)) 0 0 (va_A [(h0, .inr (14, [.ref l1, .ref l2, .ref l3, .ref l4, .ref l5, .ref l6, .ref l7, .ref l8, .ref l9, .ref ce, .null, .int 0, .int 0, .int 0, .int 0, .int 0, .int 0, .int 0, .int 0, .int 0, .int 0, .int 0, .int 0, .long 0, .ref y1, .ref y2, .ref y3, .ref y4, .ref y5, .int 0, .int 0])), (l8, .inr (0, [.int 0, .ref z.1, .int 0]))] sz) := by
  refine Met.ofW (cc := cX17_trace) (maxL := 1) (ret := (some .int)) (by decide) rfl ?_
  intro p e s m args below meth c s₁ B hml hv
  obtain ⟨rfl, hsz, hP, hK, hD0, hE⟩ := hv
  have hx := B.exec
  have hb := B.bytes
  have hr := B.returns
  have hts0 := atoms_spec (ws := ws_ yX17_trace cX17_trace 1 (some .int)) B.pre
  have hts := fun (w : Cond) (h : w ∈ pw) => hts0 w (List.mem_cons_of_mem _ h)
  have hown : s.vm.findClass RX17 = some m.cls := findClass_of_methodNamed B.named
  have hlocks := B.notSynchronized
  subst hsz
  have hD := hD0.self (sz := s.heap.size)
  generalize hAe : va_A [(h0, .inr (14, [.ref l1, .ref l2, .ref l3, .ref l4, .ref l5, .ref l6, .ref l7, .ref l8, .ref l9, .ref ce, .null, .int 0, .int 0, .int 0, .int 0, .int 0, .int 0, .int 0, .int 0, .int 0, .int 0, .int 0, .int 0, .long 0, .ref y1, .ref y2, .ref y3, .ref y4, .ref y5, .int 0, .int 0])), (l8, .inr (0, [.int 0, .ref z.1, .int 0]))] s.heap.size = A at hD hE ⊢
  have hA : ∀ q : Nat, s.heap.size ≤ q → A q := fun q h => by rw [← hAe]; exact Or.inr h
  have hS : va_S A s.heap s.heap [] := va_S.rf
  have hN := hE.1
  have hP : va_P (dC, dI) pcl [(h0, .inr (14, [.ref l1, .ref l2, .ref l3, .ref l4, .ref l5, .ref l6, .ref l7, .ref l8, .ref l9, .ref ce, .null, .int 0, .int 0, .int 0, .int 0, .int 0, .int 0, .int 0, .int 0, .int 0, .int 0, .int 0, .int 0, .long 0, .ref y1, .ref y2, .ref y3, .ref y4, .ref y5, .int 0, .int 0])), (l8, .inr (0, [.int 0, .ref z.1, .int 0]))] s.heap := hP
  have hl := lv_entry ([.ref h0]) (n := 1) (Nat.le_of_ble_eq_true rfl)
  rw [lg_entry_eq]
  generalize (lg_sl ([.ref h0]) ++ List.replicate (1 - (lg_sl ([.ref h0])).length) Slot.unset).toArray = ls at hl ⊢
  have hl : lv_has ls 1 [(0, .ref h0)] := hl
  obtain ⟨H, hH0⟩ : ∃ H, H = s.heap := ⟨_, rfl⟩
  rw [← hH0] at hP ⊢
  have hS : va_S A s.heap H [] := by rw [hH0]; exact hS
  refine lv_aload_n hx hb dX17_trace_0 rfl (lv_at hl 0 rfl) ?_
  refine lv_aload_n hx hb dX17_trace_1 rfl (lv_at hl 0 rfl) ?_
  refine va_get (D := (dC, dI)) (ci := 14) (v := .ref l8) (C := RX17) (T := TX17) (N := 31) hx hb hts pinX17 hown hK hP 0 rfl rfl 7 (by decide) (hts _ e196) (fun _ h9 => h9) rfl dX17_trace_2 ?_
  have hPc := hP.sub (ws' := [(l8, .inr (0, [.int 0, .ref z.1, .int 0]))]) [1] rfl
  have hDc := hD.sub (ws' := [(l8, .inr (0, [.int 0, .ref z.1, .int 0]))]) [1] (by decide) rfl
  have hKc := hK.sub (tys' := []) [] rfl
  have hFc := va_free (wc := [(l8, .inr (0, [.int 0, .ref z.1, .int 0]))]) hD hS hA [1] rfl
  refine va_calli (va_runV (As := []) (rest := [.ref h0]) ⟨hx, hb, hml, hown, hts⟩ (c_Jx4a65c_size_8abf5 l dC dI z l8 0 z.1 0 H.size) (cwV 0 hts (ws_goodV e205 e206 e208 e185 e207) rfl rfl rfl ⟨rfl, by decide +kernel, by decide +kernel, by decide +kernel⟩ ⟨Nat.le_of_ble_eq_true rfl, Nat.le_of_ble_eq_true rfl⟩) ⟨pPre_blind, va_recv hKc hPc (ci := 0) (q0 := 0) rfl rfl, fun U hU hW => ⟨rfl, pPre_at hPc hKc hDc hE hS hFc U hU hW⟩⟩ rfl rfl hl.1 rfl (lv_room (Nat.le_of_ble_eq_true rfl)) dX17_trace_5 ⟨Nat.le_of_ble_eq_true rfl, Nat.le_of_ble_eq_true rfl⟩) hS (fun q _ h => hFc q h) hFc (fun r1 u2 t H1 locs ht hvm hw hB hz1 hk1 hS => ?_)
  obtain ⟨hP1, hK1, hD1⟩ := hB
  rw [ht] at hP1
  have hK1 := va_K.moved hvm.symm hK1
  obtain ⟨hP, hD⟩ := va_join (wr := [(h0, .inr (14, [.ref l1, .ref l2, .ref l3, .ref l4, .ref l5, .ref l6, .ref l7, .ref l8, .ref l9, .ref ce, .null, .int 0, .int 0, .int 0, .int 0, .int 0, .int 0, .int 0, .int 0, .int 0, .int 0, .int 0, .int 0, .long 0, .ref y1, .ref y2, .ref y3, .ref y4, .ref y5, .int 0, .int 0]))]) (w1 := [(l8, .inr (0, [.int 0, .ref z.1, .int 0]))]) hP hD [1] [0] rfl rfl (by decide) (by decide) hk1 hFc hP1 hD1
  have hK := hK.app hK1
  generalize H1 = H at hP hS ⊢
  have hP : va_P (dC, dI) pcl [(h0, .inr (14, [.ref l1, .ref l2, .ref l3, .ref l4, .ref l5, .ref l6, .ref l7, .ref l8, .ref l9, .ref ce, .null, .int 0, .int 0, .int 0, .int 0, .int 0, .int 0, .int 0, .int 0, .int 0, .int 0, .int 0, .int 0, .long 0, .ref y1, .ref y2, .ref y3, .ref y4, .ref y5, .int 0, .int 0])), (l8, .inr (0, [.int 0, .ref z.1, .int 0]))] H := hP
  have hD : va_D A [(h0, .inr (14, [.ref l1, .ref l2, .ref l3, .ref l4, .ref l5, .ref l6, .ref l7, .ref l8, .ref l9, .ref ce, .null, .int 0, .int 0, .int 0, .int 0, .int 0, .int 0, .int 0, .int 0, .int 0, .int 0, .int 0, .int 0, .long 0, .ref y1, .ref y2, .ref y3, .ref y4, .ref y5, .int 0, .int 0])), (l8, .inr (0, [.int 0, .ref z.1, .int 0]))] := hD
  have hK : va_K (dC, dI) pcl [] s := hK
  subst hw
  have hPc := hP.sub (ws' := [(h0, .inr (14, [.ref l1, .ref l2, .ref l3, .ref l4, .ref l5, .ref l6, .ref l7, .ref l8, .ref l9, .ref ce, .null, .int 0, .int 0, .int 0, .int 0, .int 0, .int 0, .int 0, .int 0, .int 0, .int 0, .int 0, .int 0, .long 0, .ref y1, .ref y2, .ref y3, .ref y4, .ref y5, .int 0, .int 0]))]) [0] rfl
  have hDc := hD.sub (ws' := [(h0, .inr (14, [.ref l1, .ref l2, .ref l3, .ref l4, .ref l5, .ref l6, .ref l7, .ref l8, .ref l9, .ref ce, .null, .int 0, .int 0, .int 0, .int 0, .int 0, .int 0, .int 0, .int 0, .int 0, .int 0, .int 0, .int 0, .long 0, .ref y1, .ref y2, .ref y3, .ref y4, .ref y5, .int 0, .int 0]))]) [0] (by decide) rfl
  have hKc := hK.sub (tys' := []) [] rfl
  have hFc := va_free (wc := [(h0, .inr (14, [.ref l1, .ref l2, .ref l3, .ref l4, .ref l5, .ref l6, .ref l7, .ref l8, .ref l9, .ref ce, .null, .int 0, .int 0, .int 0, .int 0, .int 0, .int 0, .int 0, .int 0, .int 0, .int 0, .int 0, .int 0, .long 0, .ref y1, .ref y2, .ref y3, .ref y4, .ref y5, .int 0, .int 0]))]) hD hS hA [0] rfl
  refine va_calli (va_runV (As := [.int 0]) (rest := []) ⟨hx, hb, hml, hown, hts⟩ (c_X17_tell l dC dI z h0 l1 l2 l3 l4 l5 l6 l7 l8 l9 ce y1 y2 y3 y4 y5 0 H.size) (cwV 1 hts (ws_goodV e229 e230 e232 e212 e231) rfl rfl rfl ⟨rfl, by decide +kernel, by decide +kernel, by decide +kernel⟩ ⟨Nat.le_of_ble_eq_true rfl, Nat.le_of_ble_eq_true rfl⟩) ⟨pPre_blind, va_recv hKc hPc (ci := 14) (q0 := 0) rfl rfl, fun U hU hW => ⟨rfl, pPre_at hPc hKc hDc hE hS hFc U hU hW⟩⟩ rfl rfl hl.1 rfl (lv_room (Nat.le_of_ble_eq_true rfl)) dX17_trace_8 ⟨Nat.le_of_ble_eq_true rfl, Nat.le_of_ble_eq_true rfl⟩) hS (fun q _ h => hFc q h) hFc (fun r3 u4 t H1 locs ht hvm hw hB hz1 hk1 hS => ?_)
  obtain ⟨hP1, hK1, hD1⟩ := hB
  rw [ht] at hP1
  have hK1 := va_K.moved hvm.symm hK1
  obtain ⟨hP, hD⟩ := va_join (wr := [(l8, .inr (0, [.int 0, .ref z.1, .int 0]))]) (w1 := [(h0, .inr (14, [.ref l1, .ref l2, .ref l3, .ref l4, .ref l5, .ref l6, .ref l7, .ref l8, .ref l9, .ref ce, .null, .int 0, .int 0, .int 0, .int 0, .int 0, .int 0, .int 0, .int 0, .int 0, .int 0, .int 0, .int 0, .long 0, .ref y1, .ref y2, .ref y3, .ref y4, .ref y5, .int 0, .int 0]))]) hP hD [0] [1] rfl rfl (by decide) (by decide) hk1 hFc hP1 hD1
  have hK := hK.app hK1
  generalize H1 = H at hP hS ⊢
  have hP : va_P (dC, dI) pcl [(l8, .inr (0, [.int 0, .ref z.1, .int 0])), (h0, .inr (14, [.ref l1, .ref l2, .ref l3, .ref l4, .ref l5, .ref l6, .ref l7, .ref l8, .ref l9, .ref ce, .null, .int 0, .int 0, .int 0, .int 0, .int 0, .int 0, .int 0, .int 0, .int 0, .int 0, .int 0, .int 0, .long 0, .ref y1, .ref y2, .ref y3, .ref y4, .ref y5, .int 0, .int 0]))] H := hP
  have hD : va_D A [(l8, .inr (0, [.int 0, .ref z.1, .int 0])), (h0, .inr (14, [.ref l1, .ref l2, .ref l3, .ref l4, .ref l5, .ref l6, .ref l7, .ref l8, .ref l9, .ref ce, .null, .int 0, .int 0, .int 0, .int 0, .int 0, .int 0, .int 0, .int 0, .int 0, .int 0, .int 0, .int 0, .long 0, .ref y1, .ref y2, .ref y3, .ref y4, .ref y5, .int 0, .int 0]))] := hD
  have hK : va_K (dC, dI) pcl [] s := hK
  subst hw
  have hP9 := hP.sub (ws' := [(h0, .inr (14, [.ref l1, .ref l2, .ref l3, .ref l4, .ref l5, .ref l6, .ref l7, .ref l8, .ref l9, .ref ce, .null, .int 0, .int 0, .int 0, .int 0, .int 0, .int 0, .int 0, .int 0, .int 0, .int 0, .int 0, .int 0, .long 0, .ref y1, .ref y2, .ref y3, .ref y4, .ref y5, .int 0, .int 0]))]) [1] rfl
  have hD9 := hD.sub (ws' := [(h0, .inr (14, [.ref l1, .ref l2, .ref l3, .ref l4, .ref l5, .ref l6, .ref l7, .ref l8, .ref l9, .ref ce, .null, .int 0, .int 0, .int 0, .int 0, .int 0, .int 0, .int 0, .int 0, .int 0, .int 0, .int 0, .int 0, .long 0, .ref y1, .ref y2, .ref y3, .ref y4, .ref y5, .int 0, .int 0]))]) [1] (by decide) rfl
  have hK9 := hK.sub (tys' := []) [] rfl
  refine W.widen (k := 0) (n := 0) (Nat.le_of_ble_eq_true rfl) (Nat.le_of_ble_eq_true rfl) ?_
  exact W.iret (v := 0) hx hb hr (fun t ht hW => ⟨⟨0, (), rfl, rfl, by rw [ht]; exact hP9, va_K.moved hW.alike hK9, hD9⟩, hS.F ht⟩) hS.2.2 dX17_trace_11
set_option maxHeartbeats 4000000 in
set_option maxRecDepth 100000 in
theorem c_X17_depth (l : Launch) (dC : Nat → ClassId) (dI : Nat → Nat → Nat) (z : pG) (h0 : Nat) (l1 : Nat) (l2 : Nat) (l3 : Nat) (l4 : Nat) (l5 : Nat) (l6 : Nat) (l7 : Nat) (l8 : Nat) (l9 : Nat) (ce : Nat) (y1 : Nat) (y2 : Nat) (y3 : Nat) (y4 : Nat) (y5 : Nat) (sz : Nat) : Met l yX17_depth (ws_ yX17_depth cX17_depth 1 (some .int)) ({ frames := 1, cells := 0, slots := 0, locals := 21 }) (va_Pc [.ref h0] (pPre z dC dI [(h0, .inr (14, [.ref l1, .ref l2, .ref l3, .ref l4, .ref l5, .ref l6, .ref l7, .ref l8, .ref l9, .ref ce, .null, .int 0, .int 0, .int 0, .int 0, .int 0, .int 0, .int 0, .int 0, .int 0, .int 0, .int 0, .int 0, .long 0, .ref y1, .ref y2, .ref y3, .ref y4, .ref y5, .int 0, .int 0])), (l3, .inr (0, [.int 0, .ref z.1, .int 0]))] [] sz)) (va_Qi (fun (r : Int32) (_ : Unit) => r = 0) (fun _ t => pPost dC dI (va_A [(h0, .inr (14, [.ref l1, .ref l2, .ref l3, .ref l4, .ref l5, .ref l6, .ref l7, .ref l8, .ref l9, .ref ce, .null, .int 0, .int 0, .int 0, .int 0, .int 0, .int 0, .int 0, .int 0, .int 0, .int 0, .int 0, .int 0, .long 0, .ref y1, .ref y2, .ref y3, .ref y4, .ref y5, .int 0, .int 0])), (l3, .inr (0, [.int 0, .ref z.1, .int 0]))] sz) [(h0, .inr (14, [.ref l1, .ref l2, .ref l3, .ref l4, .ref l5, .ref l6, .ref l7, .ref l8, .ref l9, .ref ce, .null, .int 0, .int 0, .int 0, .int 0, .int 0, .int 0, .int 0, .int 0, .int 0, .int 0, .int 0, .int 0, .long 0, .ref y1, .ref y2, .ref y3, .ref y4, .ref y5, .int 0, .int 0]))] [] t) (va_A [(h0, .inr (14, [.ref l1, .ref l2, .ref l3, .ref l4, .ref l5, .ref l6, .ref l7, .ref l8, .ref l9, .ref ce, .null, .int 0, .int 0, .int 0, .int 0, .int 0, .int 0, .int 0, .int 0, .int 0, .int 0, .int 0, .int 0, .long 0, .ref y1, .ref y2, .ref y3, .ref y4, .ref y5, .int 0, .int 0])), (l3, .inr (0, [.int 0, .ref z.1, .int 0]))] sz)) 0 0 (va_A [(h0, .inr (14, [.ref l1, .ref l2, .ref l3, .ref l4, .ref l5, .ref l6, .ref l7, .ref l8, .ref l9, .ref ce, .null, .int 0, .int 0, .int 0, .int 0, .int 0, .int 0, .int 0, .int 0, .int 0, .int 0, .int 0, .int 0, .long 0, .ref y1, .ref y2, .ref y3, .ref y4, .ref y5, .int 0, .int 0])), (l3, .inr (0, [.int 0, .ref z.1, .int 0]))] sz) := by
  refine Met.ofW (cc := cX17_depth) (maxL := 1) (ret := (some .int)) (by decide) rfl ?_
  intro p e s m args below meth c s₁ B hml hv
  obtain ⟨rfl, hsz, hP, hK, hD0, hE⟩ := hv
  have hx := B.exec
  have hb := B.bytes
  have hr := B.returns
  have hts0 := atoms_spec (ws := ws_ yX17_depth cX17_depth 1 (some .int)) B.pre
  have hts := fun (w : Cond) (h : w ∈ pw) => hts0 w (List.mem_cons_of_mem _ h)
  have hown : s.vm.findClass RX17 = some m.cls := findClass_of_methodNamed B.named
  have hlocks := B.notSynchronized
  subst hsz
  have hD := hD0.self (sz := s.heap.size)
  generalize hAe : va_A [(h0, .inr (14, [.ref l1, .ref l2, .ref l3, .ref l4, .ref l5, .ref l6, .ref l7, .ref l8, .ref l9, .ref ce, .null, .int 0, .int 0, .int 0, .int 0, .int 0, .int 0, .int 0, .int 0, .int 0, .int 0, .int 0, .int 0, .long 0, .ref y1, .ref y2, .ref y3, .ref y4, .ref y5, .int 0, .int 0])), (l3, .inr (0, [.int 0, .ref z.1, .int 0]))] s.heap.size = A at hD hE ⊢
  have hA : ∀ q : Nat, s.heap.size ≤ q → A q := fun q h => by rw [← hAe]; exact Or.inr h
  have hS : va_S A s.heap s.heap [] := va_S.rf
  have hN := hE.1
  have hP : va_P (dC, dI) pcl [(h0, .inr (14, [.ref l1, .ref l2, .ref l3, .ref l4, .ref l5, .ref l6, .ref l7, .ref l8, .ref l9, .ref ce, .null, .int 0, .int 0, .int 0, .int 0, .int 0, .int 0, .int 0, .int 0, .int 0, .int 0, .int 0, .int 0, .long 0, .ref y1, .ref y2, .ref y3, .ref y4, .ref y5, .int 0, .int 0])), (l3, .inr (0, [.int 0, .ref z.1, .int 0]))] s.heap := hP
  have hl := lv_entry ([.ref h0]) (n := 1) (Nat.le_of_ble_eq_true rfl)
  rw [lg_entry_eq]
  generalize (lg_sl ([.ref h0]) ++ List.replicate (1 - (lg_sl ([.ref h0])).length) Slot.unset).toArray = ls at hl ⊢
  have hl : lv_has ls 1 [(0, .ref h0)] := hl
  obtain ⟨H, hH0⟩ : ∃ H, H = s.heap := ⟨_, rfl⟩
  rw [← hH0] at hP ⊢
  have hS : va_S A s.heap H [] := by rw [hH0]; exact hS
  refine lv_aload_n hx hb dX17_depth_0 rfl (lv_at hl 0 rfl) ?_
  refine lv_aload_n hx hb dX17_depth_1 rfl (lv_at hl 0 rfl) ?_
  refine va_get (D := (dC, dI)) (ci := 14) (v := .ref l3) (C := RX17) (T := TX17) (N := 31) hx hb hts pinX17 hown hK hP 0 rfl rfl 2 (by decide) (hts _ e191) (fun _ h9 => h9) rfl dX17_depth_2 ?_
  have hPc := hP.sub (ws' := [(l3, .inr (0, [.int 0, .ref z.1, .int 0]))]) [1] rfl
  have hDc := hD.sub (ws' := [(l3, .inr (0, [.int 0, .ref z.1, .int 0]))]) [1] (by decide) rfl
  have hKc := hK.sub (tys' := []) [] rfl
  have hFc := va_free (wc := [(l3, .inr (0, [.int 0, .ref z.1, .int 0]))]) hD hS hA [1] rfl
  refine va_calli (va_runV (As := []) (rest := [.ref h0]) ⟨hx, hb, hml, hown, hts⟩ (c_Jx4a65c_size_8abf5 l dC dI z l3 0 z.1 0 H.size) (cwV 0 hts (ws_goodV e205 e206 e208 e185 e207) rfl rfl rfl ⟨rfl, by decide +kernel, by decide +kernel, by decide +kernel⟩ ⟨Nat.le_of_ble_eq_true rfl, Nat.le_of_ble_eq_true rfl⟩) ⟨pPre_blind, va_recv hKc hPc (ci := 0) (q0 := 0) rfl rfl, fun U hU hW => ⟨rfl, pPre_at hPc hKc hDc hE hS hFc U hU hW⟩⟩ rfl rfl hl.1 rfl (lv_room (Nat.le_of_ble_eq_true rfl)) dX17_depth_5 ⟨Nat.le_of_ble_eq_true rfl, Nat.le_of_ble_eq_true rfl⟩) hS (fun q _ h => hFc q h) hFc (fun r1 u2 t H1 locs ht hvm hw hB hz1 hk1 hS => ?_)
  obtain ⟨hP1, hK1, hD1⟩ := hB
  rw [ht] at hP1
  have hK1 := va_K.moved hvm.symm hK1
  obtain ⟨hP, hD⟩ := va_join (wr := [(h0, .inr (14, [.ref l1, .ref l2, .ref l3, .ref l4, .ref l5, .ref l6, .ref l7, .ref l8, .ref l9, .ref ce, .null, .int 0, .int 0, .int 0, .int 0, .int 0, .int 0, .int 0, .int 0, .int 0, .int 0, .int 0, .int 0, .long 0, .ref y1, .ref y2, .ref y3, .ref y4, .ref y5, .int 0, .int 0]))]) (w1 := [(l3, .inr (0, [.int 0, .ref z.1, .int 0]))]) hP hD [1] [0] rfl rfl (by decide) (by decide) hk1 hFc hP1 hD1
  have hK := hK.app hK1
  generalize H1 = H at hP hS ⊢
  have hP : va_P (dC, dI) pcl [(h0, .inr (14, [.ref l1, .ref l2, .ref l3, .ref l4, .ref l5, .ref l6, .ref l7, .ref l8, .ref l9, .ref ce, .null, .int 0, .int 0, .int 0, .int 0, .int 0, .int 0, .int 0, .int 0, .int 0, .int 0, .int 0, .int 0, .long 0, .ref y1, .ref y2, .ref y3, .ref y4, .ref y5, .int 0, .int 0])), (l3, .inr (0, [.int 0, .ref z.1, .int 0]))] H := hP
  have hD : va_D A [(h0, .inr (14, [.ref l1, .ref l2, .ref l3, .ref l4, .ref l5, .ref l6, .ref l7, .ref l8, .ref l9, .ref ce, .null, .int 0, .int 0, .int 0, .int 0, .int 0, .int 0, .int 0, .int 0, .int 0, .int 0, .int 0, .int 0, .long 0, .ref y1, .ref y2, .ref y3, .ref y4, .ref y5, .int 0, .int 0])), (l3, .inr (0, [.int 0, .ref z.1, .int 0]))] := hD
  have hK : va_K (dC, dI) pcl [] s := hK
  subst hw
  have hPc := hP.sub (ws' := [(h0, .inr (14, [.ref l1, .ref l2, .ref l3, .ref l4, .ref l5, .ref l6, .ref l7, .ref l8, .ref l9, .ref ce, .null, .int 0, .int 0, .int 0, .int 0, .int 0, .int 0, .int 0, .int 0, .int 0, .int 0, .int 0, .int 0, .long 0, .ref y1, .ref y2, .ref y3, .ref y4, .ref y5, .int 0, .int 0]))]) [0] rfl
  have hDc := hD.sub (ws' := [(h0, .inr (14, [.ref l1, .ref l2, .ref l3, .ref l4, .ref l5, .ref l6, .ref l7, .ref l8, .ref l9, .ref ce, .null, .int 0, .int 0, .int 0, .int 0, .int 0, .int 0, .int 0, .int 0, .int 0, .int 0, .int 0, .int 0, .long 0, .ref y1, .ref y2, .ref y3, .ref y4, .ref y5, .int 0, .int 0]))]) [0] (by decide) rfl
  have hKc := hK.sub (tys' := []) [] rfl
  have hFc := va_free (wc := [(h0, .inr (14, [.ref l1, .ref l2, .ref l3, .ref l4, .ref l5, .ref l6, .ref l7, .ref l8, .ref l9, .ref ce, .null, .int 0, .int 0, .int 0, .int 0, .int 0, .int 0, .int 0, .int 0, .int 0, .int 0, .int 0, .int 0, .long 0, .ref y1, .ref y2, .ref y3, .ref y4, .ref y5, .int 0, .int 0]))]) hD hS hA [0] rfl
  refine va_calli (va_runV (As := [.int 0]) (rest := []) ⟨hx, hb, hml, hown, hts⟩ (c_X17_tell l dC dI z h0 l1 l2 l3 l4 l5 l6 l7 l8 l9 ce y1 y2 y3 y4 y5 0 H.size) (cwV 1 hts (ws_goodV e229 e230 e232 e212 e231) rfl rfl rfl ⟨rfl, by decide +kernel, by decide +kernel, by decide +kernel⟩ ⟨Nat.le_of_ble_eq_true rfl, Nat.le_of_ble_eq_true rfl⟩) ⟨pPre_blind, va_recv hKc hPc (ci := 14) (q0 := 0) rfl rfl, fun U hU hW => ⟨rfl, pPre_at hPc hKc hDc hE hS hFc U hU hW⟩⟩ rfl rfl hl.1 rfl (lv_room (Nat.le_of_ble_eq_true rfl)) dX17_depth_8 ⟨Nat.le_of_ble_eq_true rfl, Nat.le_of_ble_eq_true rfl⟩) hS (fun q _ h => hFc q h) hFc (fun r3 u4 t H1 locs ht hvm hw hB hz1 hk1 hS => ?_)
  obtain ⟨hP1, hK1, hD1⟩ := hB
  rw [ht] at hP1
  have hK1 := va_K.moved hvm.symm hK1
  obtain ⟨hP, hD⟩ := va_join (wr := [(l3, .inr (0, [.int 0, .ref z.1, .int 0]))]) (w1 := [(h0, .inr (14, [.ref l1, .ref l2, .ref l3, .ref l4, .ref l5, .ref l6, .ref l7, .ref l8, .ref l9, .ref ce, .null, .int 0, .int 0, .int 0, .int 0, .int 0, .int 0, .int 0, .int 0, .int 0, .int 0, .int 0, .int 0, .long 0, .ref y1, .ref y2, .ref y3, .ref y4, .ref y5, .int 0, .int 0]))]) hP hD [0] [1] rfl rfl (by decide) (by decide) hk1 hFc hP1 hD1
  have hK := hK.app hK1
  generalize H1 = H at hP hS ⊢
  have hP : va_P (dC, dI) pcl [(l3, .inr (0, [.int 0, .ref z.1, .int 0])), (h0, .inr (14, [.ref l1, .ref l2, .ref l3, .ref l4, .ref l5, .ref l6, .ref l7, .ref l8, .ref l9, .ref ce, .null, .int 0, .int 0, .int 0, .int 0, .int 0, .int 0, .int 0, .int 0, .int 0, .int 0, .int 0, .int 0, .long 0, .ref y1, .ref y2, .ref y3, .ref y4, .ref y5, .int 0, .int 0]))] H := hP
  have hD : va_D A [(l3, .inr (0, [.int 0, .ref z.1, .int 0])), (h0, .inr (14, [.ref l1, .ref l2, .ref l3, .ref l4, .ref l5, .ref l6, .ref l7, .ref l8, .ref l9, .ref ce, .null, .int 0, .int 0, .int 0, .int 0, .int 0, .int 0, .int 0, .int 0, .int 0, .int 0, .int 0, .int 0, .long 0, .ref y1, .ref y2, .ref y3, .ref y4, .ref y5, .int 0, .int 0]))] := hD
  have hK : va_K (dC, dI) pcl [] s := hK
  subst hw
  have hP9 := hP.sub (ws' := [(h0, .inr (14, [.ref l1, .ref l2, .ref l3, .ref l4, .ref l5, .ref l6, .ref l7, .ref l8, .ref l9, .ref ce, .null, .int 0, .int 0, .int 0, .int 0, .int 0, .int 0, .int 0, .int 0, .int 0, .int 0, .int 0, .int 0, .long 0, .ref y1, .ref y2, .ref y3, .ref y4, .ref y5, .int 0, .int 0]))]) [1] rfl
  have hD9 := hD.sub (ws' := [(h0, .inr (14, [.ref l1, .ref l2, .ref l3, .ref l4, .ref l5, .ref l6, .ref l7, .ref l8, .ref l9, .ref ce, .null, .int 0, .int 0, .int 0, .int 0, .int 0, .int 0, .int 0, .int 0, .int 0, .int 0, .int 0, .int 0, .long 0, .ref y1, .ref y2, .ref y3, .ref y4, .ref y5, .int 0, .int 0]))]) [1] (by decide) rfl
  have hK9 := hK.sub (tys' := []) [] rfl
  refine W.widen (k := 0) (n := 0) (Nat.le_of_ble_eq_true rfl) (Nat.le_of_ble_eq_true rfl) ?_
  exact W.iret (v := 0) hx hb hr (fun t ht hW => ⟨⟨0, (), rfl, rfl, by rw [ht]; exact hP9, va_K.moved hW.alike hK9, hD9⟩, hS.F ht⟩) hS.2.2 dX17_depth_11
set_option maxHeartbeats 4000000 in
set_option maxRecDepth 100000 in
theorem c_X17_second (l : Launch) (dC : Nat → ClassId) (dI : Nat → Nat → Nat) (z : pG) (h0 : Nat) (l1 : Nat) (l2 : Nat) (l3 : Nat) (l4 : Nat) (l5 : Nat) (l6 : Nat) (l7 : Nat) (l8 : Nat) (l9 : Nat) (ce : Nat) (y1 : Nat) (y2 : Nat) (y3 : Nat) (y4 : Nat) (y5 : Nat) (sz : Nat) : Met l yX17_second (ws_ yX17_second cX17_second 1 (some .int)) ({ frames := 1, cells := 0, slots := 0, locals := 21 }) (va_Pc [.ref h0] (pPre z dC dI [(h0, .inr (14, [.ref l1, .ref l2, .ref l3, .ref l4, .ref l5, .ref l6, .ref l7, .ref l8, .ref l9, .ref ce, .null, .int 0, .int 0, .int 0, .int 0, .int 0, .int 0, .int 0, .int 0, .int 0, .int 0, .int 0, .int 0, .long 0, .ref y1, .ref y2, .ref y3, .ref y4, .ref y5, .int 0, .int 0])), (l4, .inr (0, [.int 0, .ref z.1, .int 0]))] [] sz)) (va_Qi (fun (r : Int32) (_ : Unit) => r = 0) (fun _ t => pPost dC dI (va_A [(h0, .inr (14, [.ref l1, .ref l2, .ref l3, .ref l4, .ref l5, .ref l6, .ref l7, .ref l8, .ref l9, .ref ce, .null, .int 0, .int 0, .int 0, .int 0, .int 0, .int 0, .int 0, .int 0, .int 0, .int 0, .int 0, .int 0, .long 0, .ref y1, .ref y2, .ref y3, .ref y4, .ref y5, .int 0, .int 0])), (l4, .inr (0, [.int 0, .ref z.1, .int 0]))] sz) [(h0, .inr (14, [.ref l1, .ref l2, .ref l3, .ref l4, .ref l5, .ref l6, .ref l7, .ref l8, .ref l9, .ref ce, .null, .int 0, .int 0, .int 0, .int 0, .int 0, .int 0, .int 0, .int 0, .int 0, .int 0, .int 0, .int 0, .long 0, .ref y1, .ref y2, .ref y3, .ref y4, .ref y5, .int 0, .int 0]))] [] t) (va_A [(h0, .inr (14, [.ref l1, .ref l2, .ref l3, .ref l4, .ref l5, .ref l6, .ref l7, .ref l8, .ref l9, .ref ce, .null, .int 0, .int 0, .int 0, .int 0, .int 0, .int 0, .int 0, .int 0, .int 0, .int 0, .int 0, .int 0, .long 0, .ref y1, .ref y2, .ref y3, .ref y4, .ref y5, .int 0, .int 0])), (l4, .inr (0, [.int 0, .ref z.1, .int 0]))] sz)) 0 0 (va_A [(h0, .inr (14, [.ref l1, .ref l2, .ref l3, .ref l4, .ref l5, .ref l6, .ref l7, .ref l8, .ref l9, .ref ce, .null, .int 0, .int 0, .int 0, .int 0, .int 0, .int 0, .int 0, .int 0, .int 0, .int 0, .int 0, .int 0, .long 0, .ref y1, .ref y2, .ref y3, .ref y4, .ref y5, .int 0, .int 0])), (l4, .inr (0, [.int 0, .ref z.1, .int 0]))] sz) := by
  refine Met.ofW (cc := cX17_second) (maxL := 1) (ret := (some .int)) (by decide) rfl ?_
  intro p e s m args below meth c s₁ B hml hv
  obtain ⟨rfl, hsz, hP, hK, hD0, hE⟩ := hv
  have hx := B.exec
  have hb := B.bytes
  have hr := B.returns
  have hts0 := atoms_spec (ws := ws_ yX17_second cX17_second 1 (some .int)) B.pre
  have hts := fun (w : Cond) (h : w ∈ pw) => hts0 w (List.mem_cons_of_mem _ h)
  have hown : s.vm.findClass RX17 = some m.cls := findClass_of_methodNamed B.named
  have hlocks := B.notSynchronized
  subst hsz
  have hD := hD0.self (sz := s.heap.size)
  generalize hAe : va_A [(h0, .inr (14, [.ref l1, .ref l2, .ref l3, .ref l4, .ref l5, .ref l6, .ref l7, .ref l8, .ref l9, .ref ce, .null, .int 0, .int 0, .int 0, .int 0, .int 0, .int 0, .int 0, .int 0, .int 0, .int 0, .int 0, .int 0, .long 0, .ref y1, .ref y2, .ref y3, .ref y4, .ref y5, .int 0, .int 0])), (l4, .inr (0, [.int 0, .ref z.1, .int 0]))] s.heap.size = A at hD hE ⊢
  have hA : ∀ q : Nat, s.heap.size ≤ q → A q := fun q h => by rw [← hAe]; exact Or.inr h
  have hS : va_S A s.heap s.heap [] := va_S.rf
  have hN := hE.1
  have hP : va_P (dC, dI) pcl [(h0, .inr (14, [.ref l1, .ref l2, .ref l3, .ref l4, .ref l5, .ref l6, .ref l7, .ref l8, .ref l9, .ref ce, .null, .int 0, .int 0, .int 0, .int 0, .int 0, .int 0, .int 0, .int 0, .int 0, .int 0, .int 0, .int 0, .long 0, .ref y1, .ref y2, .ref y3, .ref y4, .ref y5, .int 0, .int 0])), (l4, .inr (0, [.int 0, .ref z.1, .int 0]))] s.heap := hP
  have hl := lv_entry ([.ref h0]) (n := 1) (Nat.le_of_ble_eq_true rfl)
  rw [lg_entry_eq]
  generalize (lg_sl ([.ref h0]) ++ List.replicate (1 - (lg_sl ([.ref h0])).length) Slot.unset).toArray = ls at hl ⊢
  have hl : lv_has ls 1 [(0, .ref h0)] := hl
  obtain ⟨H, hH0⟩ : ∃ H, H = s.heap := ⟨_, rfl⟩
  rw [← hH0] at hP ⊢
  have hS : va_S A s.heap H [] := by rw [hH0]; exact hS
  refine lv_aload_n hx hb dX17_second_0 rfl (lv_at hl 0 rfl) ?_
  refine lv_aload_n hx hb dX17_second_1 rfl (lv_at hl 0 rfl) ?_
  refine va_get (D := (dC, dI)) (ci := 14) (v := .ref l4) (C := RX17) (T := TX17) (N := 31) hx hb hts pinX17 hown hK hP 0 rfl rfl 3 (by decide) (hts _ e192) (fun _ h9 => h9) rfl dX17_second_2 ?_
  have hPc := hP.sub (ws' := [(l4, .inr (0, [.int 0, .ref z.1, .int 0]))]) [1] rfl
  have hDc := hD.sub (ws' := [(l4, .inr (0, [.int 0, .ref z.1, .int 0]))]) [1] (by decide) rfl
  have hKc := hK.sub (tys' := []) [] rfl
  have hFc := va_free (wc := [(l4, .inr (0, [.int 0, .ref z.1, .int 0]))]) hD hS hA [1] rfl
  refine va_calli (va_runV (As := []) (rest := [.ref h0]) ⟨hx, hb, hml, hown, hts⟩ (c_Jx4a65c_size_8abf5 l dC dI z l4 0 z.1 0 H.size) (cwV 0 hts (ws_goodV e205 e206 e208 e185 e207) rfl rfl rfl ⟨rfl, by decide +kernel, by decide +kernel, by decide +kernel⟩ ⟨Nat.le_of_ble_eq_true rfl, Nat.le_of_ble_eq_true rfl⟩) ⟨pPre_blind, va_recv hKc hPc (ci := 0) (q0 := 0) rfl rfl, fun U hU hW => ⟨rfl, pPre_at hPc hKc hDc hE hS hFc U hU hW⟩⟩ rfl rfl hl.1 rfl (lv_room (Nat.le_of_ble_eq_true rfl)) dX17_second_5 ⟨Nat.le_of_ble_eq_true rfl, Nat.le_of_ble_eq_true rfl⟩) hS (fun q _ h => hFc q h) hFc (fun r1 u2 t H1 locs ht hvm hw hB hz1 hk1 hS => ?_)
  obtain ⟨hP1, hK1, hD1⟩ := hB
  rw [ht] at hP1
  have hK1 := va_K.moved hvm.symm hK1
  obtain ⟨hP, hD⟩ := va_join (wr := [(h0, .inr (14, [.ref l1, .ref l2, .ref l3, .ref l4, .ref l5, .ref l6, .ref l7, .ref l8, .ref l9, .ref ce, .null, .int 0, .int 0, .int 0, .int 0, .int 0, .int 0, .int 0, .int 0, .int 0, .int 0, .int 0, .int 0, .long 0, .ref y1, .ref y2, .ref y3, .ref y4, .ref y5, .int 0, .int 0]))]) (w1 := [(l4, .inr (0, [.int 0, .ref z.1, .int 0]))]) hP hD [1] [0] rfl rfl (by decide) (by decide) hk1 hFc hP1 hD1
  have hK := hK.app hK1
  generalize H1 = H at hP hS ⊢
  have hP : va_P (dC, dI) pcl [(h0, .inr (14, [.ref l1, .ref l2, .ref l3, .ref l4, .ref l5, .ref l6, .ref l7, .ref l8, .ref l9, .ref ce, .null, .int 0, .int 0, .int 0, .int 0, .int 0, .int 0, .int 0, .int 0, .int 0, .int 0, .int 0, .int 0, .long 0, .ref y1, .ref y2, .ref y3, .ref y4, .ref y5, .int 0, .int 0])), (l4, .inr (0, [.int 0, .ref z.1, .int 0]))] H := hP
  have hD : va_D A [(h0, .inr (14, [.ref l1, .ref l2, .ref l3, .ref l4, .ref l5, .ref l6, .ref l7, .ref l8, .ref l9, .ref ce, .null, .int 0, .int 0, .int 0, .int 0, .int 0, .int 0, .int 0, .int 0, .int 0, .int 0, .int 0, .int 0, .long 0, .ref y1, .ref y2, .ref y3, .ref y4, .ref y5, .int 0, .int 0])), (l4, .inr (0, [.int 0, .ref z.1, .int 0]))] := hD
  have hK : va_K (dC, dI) pcl [] s := hK
  subst hw
  have hPc := hP.sub (ws' := [(h0, .inr (14, [.ref l1, .ref l2, .ref l3, .ref l4, .ref l5, .ref l6, .ref l7, .ref l8, .ref l9, .ref ce, .null, .int 0, .int 0, .int 0, .int 0, .int 0, .int 0, .int 0, .int 0, .int 0, .int 0, .int 0, .int 0, .long 0, .ref y1, .ref y2, .ref y3, .ref y4, .ref y5, .int 0, .int 0]))]) [0] rfl
  have hDc := hD.sub (ws' := [(h0, .inr (14, [.ref l1, .ref l2, .ref l3, .ref l4, .ref l5, .ref l6, .ref l7, .ref l8, .ref l9, .ref ce, .null, .int 0, .int 0, .int 0, .int 0, .int 0, .int 0, .int 0, .int 0, .int 0, .int 0, .int 0, .int 0, .long 0, .ref y1, .ref y2, .ref y3, .ref y4, .ref y5, .int 0, .int 0]))]) [0] (by decide) rfl
  have hKc := hK.sub (tys' := []) [] rfl
  have hFc := va_free (wc := [(h0, .inr (14, [.ref l1, .ref l2, .ref l3, .ref l4, .ref l5, .ref l6, .ref l7, .ref l8, .ref l9, .ref ce, .null, .int 0, .int 0, .int 0, .int 0, .int 0, .int 0, .int 0, .int 0, .int 0, .int 0, .int 0, .int 0, .long 0, .ref y1, .ref y2, .ref y3, .ref y4, .ref y5, .int 0, .int 0]))]) hD hS hA [0] rfl
  refine va_calli (va_runV (As := [.int 0]) (rest := []) ⟨hx, hb, hml, hown, hts⟩ (c_X17_tell l dC dI z h0 l1 l2 l3 l4 l5 l6 l7 l8 l9 ce y1 y2 y3 y4 y5 0 H.size) (cwV 1 hts (ws_goodV e229 e230 e232 e212 e231) rfl rfl rfl ⟨rfl, by decide +kernel, by decide +kernel, by decide +kernel⟩ ⟨Nat.le_of_ble_eq_true rfl, Nat.le_of_ble_eq_true rfl⟩) ⟨pPre_blind, va_recv hKc hPc (ci := 14) (q0 := 0) rfl rfl, fun U hU hW => ⟨rfl, pPre_at hPc hKc hDc hE hS hFc U hU hW⟩⟩ rfl rfl hl.1 rfl (lv_room (Nat.le_of_ble_eq_true rfl)) dX17_second_8 ⟨Nat.le_of_ble_eq_true rfl, Nat.le_of_ble_eq_true rfl⟩) hS (fun q _ h => hFc q h) hFc (fun r3 u4 t H1 locs ht hvm hw hB hz1 hk1 hS => ?_)
  obtain ⟨hP1, hK1, hD1⟩ := hB
  rw [ht] at hP1
  have hK1 := va_K.moved hvm.symm hK1
  obtain ⟨hP, hD⟩ := va_join (wr := [(l4, .inr (0, [.int 0, .ref z.1, .int 0]))]) (w1 := [(h0, .inr (14, [.ref l1, .ref l2, .ref l3, .ref l4, .ref l5, .ref l6, .ref l7, .ref l8, .ref l9, .ref ce, .null, .int 0, .int 0, .int 0, .int 0, .int 0, .int 0, .int 0, .int 0, .int 0, .int 0, .int 0, .int 0, .long 0, .ref y1, .ref y2, .ref y3, .ref y4, .ref y5, .int 0, .int 0]))]) hP hD [0] [1] rfl rfl (by decide) (by decide) hk1 hFc hP1 hD1
  have hK := hK.app hK1
  generalize H1 = H at hP hS ⊢
  have hP : va_P (dC, dI) pcl [(l4, .inr (0, [.int 0, .ref z.1, .int 0])), (h0, .inr (14, [.ref l1, .ref l2, .ref l3, .ref l4, .ref l5, .ref l6, .ref l7, .ref l8, .ref l9, .ref ce, .null, .int 0, .int 0, .int 0, .int 0, .int 0, .int 0, .int 0, .int 0, .int 0, .int 0, .int 0, .int 0, .long 0, .ref y1, .ref y2, .ref y3, .ref y4, .ref y5, .int 0, .int 0]))] H := hP
  have hD : va_D A [(l4, .inr (0, [.int 0, .ref z.1, .int 0])), (h0, .inr (14, [.ref l1, .ref l2, .ref l3, .ref l4, .ref l5, .ref l6, .ref l7, .ref l8, .ref l9, .ref ce, .null, .int 0, .int 0, .int 0, .int 0, .int 0, .int 0, .int 0, .int 0, .int 0, .int 0, .int 0, .int 0, .long 0, .ref y1, .ref y2, .ref y3, .ref y4, .ref y5, .int 0, .int 0]))] := hD
  have hK : va_K (dC, dI) pcl [] s := hK
  subst hw
  have hP9 := hP.sub (ws' := [(h0, .inr (14, [.ref l1, .ref l2, .ref l3, .ref l4, .ref l5, .ref l6, .ref l7, .ref l8, .ref l9, .ref ce, .null, .int 0, .int 0, .int 0, .int 0, .int 0, .int 0, .int 0, .int 0, .int 0, .int 0, .int 0, .int 0, .long 0, .ref y1, .ref y2, .ref y3, .ref y4, .ref y5, .int 0, .int 0]))]) [1] rfl
  have hD9 := hD.sub (ws' := [(h0, .inr (14, [.ref l1, .ref l2, .ref l3, .ref l4, .ref l5, .ref l6, .ref l7, .ref l8, .ref l9, .ref ce, .null, .int 0, .int 0, .int 0, .int 0, .int 0, .int 0, .int 0, .int 0, .int 0, .int 0, .int 0, .int 0, .long 0, .ref y1, .ref y2, .ref y3, .ref y4, .ref y5, .int 0, .int 0]))]) [1] (by decide) rfl
  have hK9 := hK.sub (tys' := []) [] rfl
  refine W.widen (k := 0) (n := 0) (Nat.le_of_ble_eq_true rfl) (Nat.le_of_ble_eq_true rfl) ?_
  exact W.iret (v := 0) hx hb hr (fun t ht hW => ⟨⟨0, (), rfl, rfl, by rw [ht]; exact hP9, va_K.moved hW.alike hK9, hD9⟩, hS.F ht⟩) hS.2.2 dX17_second_11
set_option maxHeartbeats 4000000 in
set_option maxRecDepth 100000 in
theorem c_X17_outs (l : Launch) (dC : Nat → ClassId) (dI : Nat → Nat → Nat) (z : pG) (h0 : Nat) (l1 : Nat) (l2 : Nat) (l3 : Nat) (l4 : Nat) (l5 : Nat) (l6 : Nat) (l7 : Nat) (l8 : Nat) (l9 : Nat) (ce : Nat) (y1 : Nat) (y2 : Nat) (y3 : Nat) (y4 : Nat) (y5 : Nat) (sz : Nat) : Met l yX17_outs (ws_ yX17_outs cX17_outs 1 (some .int)) ({ frames := 1, cells := 0, slots := 0, locals := 21 }) (va_Pc [.ref h0] (pPre z dC dI [(h0, .inr (14, [.ref l1, .ref l2, .ref l3, .ref l4, .ref l5, .ref l6, .ref l7, .ref l8, .ref l9, .ref ce, .null, .int 0, .int 0, .int 0, .int 0, .int 0, .int 0, .int 0, .int 0, .int 0, .int 0, .int 0, .int 0, .long 0, .ref y1, .ref y2, .ref y3, .ref y4, .ref y5, .int 0, .int 0])), (l5, .inr (0, [.int 0, .ref z.1, .int 0]))] [] sz)) (va_Qi (fun (r : Int32) (_ : Unit) => r = 0) (fun _ t => pPost dC dI (va_A [(h0, .inr (14, [.ref l1, .ref l2, .ref l3, .ref l4, .ref l5, .ref l6, .ref l7, .ref l8, .ref l9, .ref ce, .null, .int 0, .int 0, .int 0, .int 0, .int 0, .int 0, .int 0, .int 0, .int 0, .int 0, .int 0, .int 0, .long 0, .ref y1, .ref y2, .ref y3, .ref y4, .ref y5, .int 0, .int 0])), (l5, .inr (0, [.int 0, .ref z.1, .int 0]))] sz) [(h0, .inr (14, [.ref l1, .ref l2, .ref l3, .ref l4, .ref l5, .ref l6, .ref l7, .ref l8, .ref l9, .ref ce, .null, .int 0, .int 0, .int 0, .int 0, .int 0, .int 0, .int 0, .int 0, .int 0, .int 0, .int 0, .int 0, .long 0, .ref y1, .ref y2, .ref y3, .ref y4, .ref y5, .int 0, .int 0]))] [] t) (va_A [(h0, .inr (14, [.ref l1, .ref l2, .ref l3, .ref l4, .ref l5, .ref l6, .ref l7, .ref l8, .ref l9, .ref ce, .null, .int 0, .int 0, .int 0, .int 0, .int 0, .int 0, .int 0, .int 0, .int 0, .int 0, .int 0, .int 0, .long 0, .ref y1, .ref y2, .ref y3, .ref y4, .ref y5, .int 0, .int 0])), (l5, .inr (0, [.int 0, .ref z.1, .int 0]))] sz)) 0 0 (va_A [(h0, .inr (14, [.ref l1, .ref l2, .ref l3, .ref l4, .ref l5, .ref l6, .ref l7, .ref l8, .ref l9, .ref ce, .null, .int 0, .int 0, .int 0, .int 0, .int 0, .int 0, .int 0, .int 0, .int 0, .int 0, .int 0, .int 0, .long 0, .ref y1, .ref y2, .ref y3, .ref y4, .ref y5, .int 0, .int 0])), (l5, .inr (0, [.int 0, .ref z.1, .int 0]))] sz) := by
  refine Met.ofW (cc := cX17_outs) (maxL := 1) (ret := (some .int)) (by decide) rfl ?_
  intro p e s m args below meth c s₁ B hml hv
  obtain ⟨rfl, hsz, hP, hK, hD0, hE⟩ := hv
  have hx := B.exec
  have hb := B.bytes
  have hr := B.returns
  have hts0 := atoms_spec (ws := ws_ yX17_outs cX17_outs 1 (some .int)) B.pre
  have hts := fun (w : Cond) (h : w ∈ pw) => hts0 w (List.mem_cons_of_mem _ h)
  have hown : s.vm.findClass RX17 = some m.cls := findClass_of_methodNamed B.named
  have hlocks := B.notSynchronized
  subst hsz
  have hD := hD0.self (sz := s.heap.size)
  generalize hAe : va_A [(h0, .inr (14, [.ref l1, .ref l2, .ref l3, .ref l4, .ref l5, .ref l6, .ref l7, .ref l8, .ref l9, .ref ce, .null, .int 0, .int 0, .int 0, .int 0, .int 0, .int 0, .int 0, .int 0, .int 0, .int 0, .int 0, .int 0, .long 0, .ref y1, .ref y2, .ref y3, .ref y4, .ref y5, .int 0, .int 0])), (l5, .inr (0, [.int 0, .ref z.1, .int 0]))] s.heap.size = A at hD hE ⊢
  have hA : ∀ q : Nat, s.heap.size ≤ q → A q := fun q h => by rw [← hAe]; exact Or.inr h
  have hS : va_S A s.heap s.heap [] := va_S.rf
  have hN := hE.1
  have hP : va_P (dC, dI) pcl [(h0, .inr (14, [.ref l1, .ref l2, .ref l3, .ref l4, .ref l5, .ref l6, .ref l7, .ref l8, .ref l9, .ref ce, .null, .int 0, .int 0, .int 0, .int 0, .int 0, .int 0, .int 0, .int 0, .int 0, .int 0, .int 0, .int 0, .long 0, .ref y1, .ref y2, .ref y3, .ref y4, .ref y5, .int 0, .int 0])), (l5, .inr (0, [.int 0, .ref z.1, .int 0]))] s.heap := hP
  have hl := lv_entry ([.ref h0]) (n := 1) (Nat.le_of_ble_eq_true rfl)
  rw [lg_entry_eq]
  generalize (lg_sl ([.ref h0]) ++ List.replicate (1 - (lg_sl ([.ref h0])).length) Slot.unset).toArray = ls at hl ⊢
  have hl : lv_has ls 1 [(0, .ref h0)] := hl
  obtain ⟨H, hH0⟩ : ∃ H, H = s.heap := ⟨_, rfl⟩
  rw [← hH0] at hP ⊢
  have hS : va_S A s.heap H [] := by rw [hH0]; exact hS
  refine lv_aload_n hx hb dX17_outs_0 rfl (lv_at hl 0 rfl) ?_
  refine lv_aload_n hx hb dX17_outs_1 rfl (lv_at hl 0 rfl) ?_
  refine va_get (D := (dC, dI)) (ci := 14) (v := .ref l5) (C := RX17) (T := TX17) (N := 31) hx hb hts pinX17 hown hK hP 0 rfl rfl 4 (by decide) (hts _ e193) (fun _ h9 => h9) rfl dX17_outs_2 ?_
  have hPc := hP.sub (ws' := [(l5, .inr (0, [.int 0, .ref z.1, .int 0]))]) [1] rfl
  have hDc := hD.sub (ws' := [(l5, .inr (0, [.int 0, .ref z.1, .int 0]))]) [1] (by decide) rfl
  have hKc := hK.sub (tys' := []) [] rfl
  have hFc := va_free (wc := [(l5, .inr (0, [.int 0, .ref z.1, .int 0]))]) hD hS hA [1] rfl
  refine va_calli (va_runV (As := []) (rest := [.ref h0]) ⟨hx, hb, hml, hown, hts⟩ (c_Jx4a65c_size_8abf5 l dC dI z l5 0 z.1 0 H.size) (cwV 0 hts (ws_goodV e205 e206 e208 e185 e207) rfl rfl rfl ⟨rfl, by decide +kernel, by decide +kernel, by decide +kernel⟩ ⟨Nat.le_of_ble_eq_true rfl, Nat.le_of_ble_eq_true rfl⟩) ⟨pPre_blind, va_recv hKc hPc (ci := 0) (q0 := 0) rfl rfl, fun U hU hW => ⟨rfl, pPre_at hPc hKc hDc hE hS hFc U hU hW⟩⟩ rfl rfl hl.1 rfl (lv_room (Nat.le_of_ble_eq_true rfl)) dX17_outs_5 ⟨Nat.le_of_ble_eq_true rfl, Nat.le_of_ble_eq_true rfl⟩) hS (fun q _ h => hFc q h) hFc (fun r1 u2 t H1 locs ht hvm hw hB hz1 hk1 hS => ?_)
  obtain ⟨hP1, hK1, hD1⟩ := hB
  rw [ht] at hP1
  have hK1 := va_K.moved hvm.symm hK1
  obtain ⟨hP, hD⟩ := va_join (wr := [(h0, .inr (14, [.ref l1, .ref l2, .ref l3, .ref l4, .ref l5, .ref l6, .ref l7, .ref l8, .ref l9, .ref ce, .null, .int 0, .int 0, .int 0, .int 0, .int 0, .int 0, .int 0, .int 0, .int 0, .int 0, .int 0, .int 0, .long 0, .ref y1, .ref y2, .ref y3, .ref y4, .ref y5, .int 0, .int 0]))]) (w1 := [(l5, .inr (0, [.int 0, .ref z.1, .int 0]))]) hP hD [1] [0] rfl rfl (by decide) (by decide) hk1 hFc hP1 hD1
  have hK := hK.app hK1
  generalize H1 = H at hP hS ⊢
  have hP : va_P (dC, dI) pcl [(h0, .inr (14, [.ref l1, .ref l2, .ref l3, .ref l4, .ref l5, .ref l6, .ref l7, .ref l8, .ref l9, .ref ce, .null, .int 0, .int 0, .int 0, .int 0, .int 0, .int 0, .int 0, .int 0, .int 0, .int 0, .int 0, .int 0, .long 0, .ref y1, .ref y2, .ref y3, .ref y4, .ref y5, .int 0, .int 0])), (l5, .inr (0, [.int 0, .ref z.1, .int 0]))] H := hP
  have hD : va_D A [(h0, .inr (14, [.ref l1, .ref l2, .ref l3, .ref l4, .ref l5, .ref l6, .ref l7, .ref l8, .ref l9, .ref ce, .null, .int 0, .int 0, .int 0, .int 0, .int 0, .int 0, .int 0, .int 0, .int 0, .int 0, .int 0, .int 0, .long 0, .ref y1, .ref y2, .ref y3, .ref y4, .ref y5, .int 0, .int 0])), (l5, .inr (0, [.int 0, .ref z.1, .int 0]))] := hD
  have hK : va_K (dC, dI) pcl [] s := hK
  subst hw
  have hPc := hP.sub (ws' := [(h0, .inr (14, [.ref l1, .ref l2, .ref l3, .ref l4, .ref l5, .ref l6, .ref l7, .ref l8, .ref l9, .ref ce, .null, .int 0, .int 0, .int 0, .int 0, .int 0, .int 0, .int 0, .int 0, .int 0, .int 0, .int 0, .int 0, .long 0, .ref y1, .ref y2, .ref y3, .ref y4, .ref y5, .int 0, .int 0]))]) [0] rfl
  have hDc := hD.sub (ws' := [(h0, .inr (14, [.ref l1, .ref l2, .ref l3, .ref l4, .ref l5, .ref l6, .ref l7, .ref l8, .ref l9, .ref ce, .null, .int 0, .int 0, .int 0, .int 0, .int 0, .int 0, .int 0, .int 0, .int 0, .int 0, .int 0, .int 0, .long 0, .ref y1, .ref y2, .ref y3, .ref y4, .ref y5, .int 0, .int 0]))]) [0] (by decide) rfl
  have hKc := hK.sub (tys' := []) [] rfl
  have hFc := va_free (wc := [(h0, .inr (14, [.ref l1, .ref l2, .ref l3, .ref l4, .ref l5, .ref l6, .ref l7, .ref l8, .ref l9, .ref ce, .null, .int 0, .int 0, .int 0, .int 0, .int 0, .int 0, .int 0, .int 0, .int 0, .int 0, .int 0, .int 0, .long 0, .ref y1, .ref y2, .ref y3, .ref y4, .ref y5, .int 0, .int 0]))]) hD hS hA [0] rfl
  refine va_calli (va_runV (As := [.int 0]) (rest := []) ⟨hx, hb, hml, hown, hts⟩ (c_X17_tell l dC dI z h0 l1 l2 l3 l4 l5 l6 l7 l8 l9 ce y1 y2 y3 y4 y5 0 H.size) (cwV 1 hts (ws_goodV e229 e230 e232 e212 e231) rfl rfl rfl ⟨rfl, by decide +kernel, by decide +kernel, by decide +kernel⟩ ⟨Nat.le_of_ble_eq_true rfl, Nat.le_of_ble_eq_true rfl⟩) ⟨pPre_blind, va_recv hKc hPc (ci := 14) (q0 := 0) rfl rfl, fun U hU hW => ⟨rfl, pPre_at hPc hKc hDc hE hS hFc U hU hW⟩⟩ rfl rfl hl.1 rfl (lv_room (Nat.le_of_ble_eq_true rfl)) dX17_outs_8 ⟨Nat.le_of_ble_eq_true rfl, Nat.le_of_ble_eq_true rfl⟩) hS (fun q _ h => hFc q h) hFc (fun r3 u4 t H1 locs ht hvm hw hB hz1 hk1 hS => ?_)
  obtain ⟨hP1, hK1, hD1⟩ := hB
  rw [ht] at hP1
  have hK1 := va_K.moved hvm.symm hK1
  obtain ⟨hP, hD⟩ := va_join (wr := [(l5, .inr (0, [.int 0, .ref z.1, .int 0]))]) (w1 := [(h0, .inr (14, [.ref l1, .ref l2, .ref l3, .ref l4, .ref l5, .ref l6, .ref l7, .ref l8, .ref l9, .ref ce, .null, .int 0, .int 0, .int 0, .int 0, .int 0, .int 0, .int 0, .int 0, .int 0, .int 0, .int 0, .int 0, .long 0, .ref y1, .ref y2, .ref y3, .ref y4, .ref y5, .int 0, .int 0]))]) hP hD [0] [1] rfl rfl (by decide) (by decide) hk1 hFc hP1 hD1
  have hK := hK.app hK1
  generalize H1 = H at hP hS ⊢
  have hP : va_P (dC, dI) pcl [(l5, .inr (0, [.int 0, .ref z.1, .int 0])), (h0, .inr (14, [.ref l1, .ref l2, .ref l3, .ref l4, .ref l5, .ref l6, .ref l7, .ref l8, .ref l9, .ref ce, .null, .int 0, .int 0, .int 0, .int 0, .int 0, .int 0, .int 0, .int 0, .int 0, .int 0, .int 0, .int 0, .long 0, .ref y1, .ref y2, .ref y3, .ref y4, .ref y5, .int 0, .int 0]))] H := hP
  have hD : va_D A [(l5, .inr (0, [.int 0, .ref z.1, .int 0])), (h0, .inr (14, [.ref l1, .ref l2, .ref l3, .ref l4, .ref l5, .ref l6, .ref l7, .ref l8, .ref l9, .ref ce, .null, .int 0, .int 0, .int 0, .int 0, .int 0, .int 0, .int 0, .int 0, .int 0, .int 0, .int 0, .int 0, .long 0, .ref y1, .ref y2, .ref y3, .ref y4, .ref y5, .int 0, .int 0]))] := hD
  have hK : va_K (dC, dI) pcl [] s := hK
  subst hw
  have hP9 := hP.sub (ws' := [(h0, .inr (14, [.ref l1, .ref l2, .ref l3, .ref l4, .ref l5, .ref l6, .ref l7, .ref l8, .ref l9, .ref ce, .null, .int 0, .int 0, .int 0, .int 0, .int 0, .int 0, .int 0, .int 0, .int 0, .int 0, .int 0, .int 0, .long 0, .ref y1, .ref y2, .ref y3, .ref y4, .ref y5, .int 0, .int 0]))]) [1] rfl
  have hD9 := hD.sub (ws' := [(h0, .inr (14, [.ref l1, .ref l2, .ref l3, .ref l4, .ref l5, .ref l6, .ref l7, .ref l8, .ref l9, .ref ce, .null, .int 0, .int 0, .int 0, .int 0, .int 0, .int 0, .int 0, .int 0, .int 0, .int 0, .int 0, .int 0, .long 0, .ref y1, .ref y2, .ref y3, .ref y4, .ref y5, .int 0, .int 0]))]) [1] (by decide) rfl
  have hK9 := hK.sub (tys' := []) [] rfl
  refine W.widen (k := 0) (n := 0) (Nat.le_of_ble_eq_true rfl) (Nat.le_of_ble_eq_true rfl) ?_
  exact W.iret (v := 0) hx hb hr (fun t ht hW => ⟨⟨0, (), rfl, rfl, by rw [ht]; exact hP9, va_K.moved hW.alike hK9, hD9⟩, hS.F ht⟩) hS.2.2 dX17_outs_11
set_option maxHeartbeats 4000000 in
set_option maxRecDepth 100000 in
theorem c_X17_entries (l : Launch) (dC : Nat → ClassId) (dI : Nat → Nat → Nat) (z : pG) (h0 : Nat) (l1 : Nat) (l2 : Nat) (l3 : Nat) (l4 : Nat) (l5 : Nat) (l6 : Nat) (l7 : Nat) (l8 : Nat) (l9 : Nat) (ce : Nat) (y1 : Nat) (y2 : Nat) (y3 : Nat) (y4 : Nat) (y5 : Nat) (sz : Nat) : Met l yX17_entries (ws_ yX17_entries cX17_entries 1 (some .int)) ({ frames := 1, cells := 0, slots := 0, locals := 21 }) (va_Pc [.ref h0] (pPre z dC dI [(h0, .inr (14, [.ref l1, .ref l2, .ref l3, .ref l4, .ref l5, .ref l6, .ref l7, .ref l8, .ref l9, .ref ce, .null, .int 0, .int 0, .int 0, .int 0, .int 0, .int 0, .int 0, .int 0, .int 0, .int 0, .int 0, .int 0, .long 0, .ref y1, .ref y2, .ref y3, .ref y4, .ref y5, .int 0, .int 0])), (l2, .inr (0, [.int 0, .ref z.1, .int 0]))] [] sz)) (va_Qi (fun (r : Int32) (_ : Unit) => r = 0) (fun _ t => pPost dC dI (va_A [(h0, .inr (14, [.ref l1, .ref l2, .ref l3, .ref l4, .ref l5, .ref l6, .ref l7, .ref l8, .ref l9, .ref ce, .null, .int 0, .int 0, .int 0, .int 0, .int 0, .int 0, .int 0, .int 0, .int 0, .int 0, .int 0, .int 0, .long 0, .ref y1, .ref y2, .ref y3, .ref y4, .ref y5, .int 0, .int 0])), (l2, .inr (0, [.int 0, .ref z.1, .int 0]))] sz) [(h0, .inr (14, [.ref l1, .ref l2, .ref l3, .ref l4, .ref l5, .ref l6, .ref l7, .ref l8, .ref l9, .ref ce, .null, .int 0, .int 0, .int 0, .int 0, .int 0, .int 0, .int 0, .int 0, .int 0, .int 0, .int 0, .int 0, .long 0, .ref y1, .ref y2, .ref y3, .ref y4, .ref y5, .int 0, .int 0]))] [] t) (va_A [(h0, .inr (14, [.ref l1, .ref l2, .ref l3, .ref l4, .ref l5, .ref l6, .ref l7, .ref l8, .ref l9, .ref ce, .null, .int 0, .int 0, .int 0, .int 0, .int 0, .int 0, .int 0, .int 0, .int 0, .int 0, .int 0, .int 0, .long 0, .ref y1, .ref y2, .ref y3, .ref y4, .ref y5, .int 0, .int 0])), (l2, .inr (0, [.int 0, .ref z.1, .int 0]))] sz)) 0 0 (va_A [(h0, .inr (14, [.ref l1, .ref l2, .ref l3, .ref l4, .ref l5, .ref l6, .ref l7, .ref l8, .ref l9, .ref ce, .null, .int 0, .int 0, .int 0, .int 0, .int 0, .int 0, .int 0, .int 0, .int 0, .int 0, .int 0, .int 0, .long 0, .ref y1, .ref y2, .ref y3, .ref y4, .ref y5, .int 0, .int 0])), (l2, .inr (0, [.int 0, .ref z.1, .int 0]))] sz) := by
  refine Met.ofW (cc := cX17_entries) (maxL := 1) (ret := (some .int)) (by decide) rfl ?_
  intro p e s m args below meth c s₁ B hml hv
  obtain ⟨rfl, hsz, hP, hK, hD0, hE⟩ := hv
  have hx := B.exec
  have hb := B.bytes
  have hr := B.returns
  have hts0 := atoms_spec (ws := ws_ yX17_entries cX17_entries 1 (some .int)) B.pre
  have hts := fun (w : Cond) (h : w ∈ pw) => hts0 w (List.mem_cons_of_mem _ h)
  have hown : s.vm.findClass RX17 = some m.cls := findClass_of_methodNamed B.named
  have hlocks := B.notSynchronized
  subst hsz
  have hD := hD0.self (sz := s.heap.size)
  generalize hAe : va_A [(h0, .inr (14, [.ref l1, .ref l2, .ref l3, .ref l4, .ref l5, .ref l6, .ref l7, .ref l8, .ref l9, .ref ce, .null, .int 0, .int 0, .int 0, .int 0, .int 0, .int 0, .int 0, .int 0, .int 0, .int 0, .int 0, .int 0, .long 0, .ref y1, .ref y2, .ref y3, .ref y4, .ref y5, .int 0, .int 0])), (l2, .inr (0, [.int 0, .ref z.1, .int 0]))] s.heap.size = A at hD hE ⊢
  have hA : ∀ q : Nat, s.heap.size ≤ q → A q := fun q h => by rw [← hAe]; exact Or.inr h
  have hS : va_S A s.heap s.heap [] := va_S.rf
  have hN := hE.1
  have hP : va_P (dC, dI) pcl [(h0, .inr (14, [.ref l1, .ref l2, .ref l3, .ref l4, .ref l5, .ref l6, .ref l7, .ref l8, .ref l9, .ref ce, .null, .int 0, .int 0, .int 0, .int 0, .int 0, .int 0, .int 0, .int 0, .int 0, .int 0, .int 0, .int 0, .long 0, .ref y1, .ref y2, .ref y3, .ref y4, .ref y5, .int 0, .int 0])), (l2, .inr (0, [.int 0, .ref z.1, .int 0]))] s.heap := hP
  have hl := lv_entry ([.ref h0]) (n := 1) (Nat.le_of_ble_eq_true rfl)
  rw [lg_entry_eq]
  generalize (lg_sl ([.ref h0]) ++ List.replicate (1 - (lg_sl ([.ref h0])).length) Slot.unset).toArray = ls at hl ⊢
  have hl : lv_has ls 1 [(0, .ref h0)] := hl
  obtain ⟨H, hH0⟩ : ∃ H, H = s.heap := ⟨_, rfl⟩
  rw [← hH0] at hP ⊢
  have hS : va_S A s.heap H [] := by rw [hH0]; exact hS
  refine lv_aload_n hx hb dX17_entries_0 rfl (lv_at hl 0 rfl) ?_
  refine lv_aload_n hx hb dX17_entries_1 rfl (lv_at hl 0 rfl) ?_
  refine va_get (D := (dC, dI)) (ci := 14) (v := .ref l2) (C := RX17) (T := TX17) (N := 31) hx hb hts pinX17 hown hK hP 0 rfl rfl 1 (by decide) (hts _ e190) (fun _ h9 => h9) rfl dX17_entries_2 ?_
  have hPc := hP.sub (ws' := [(l2, .inr (0, [.int 0, .ref z.1, .int 0]))]) [1] rfl
  have hDc := hD.sub (ws' := [(l2, .inr (0, [.int 0, .ref z.1, .int 0]))]) [1] (by decide) rfl
  have hKc := hK.sub (tys' := []) [] rfl
  have hFc := va_free (wc := [(l2, .inr (0, [.int 0, .ref z.1, .int 0]))]) hD hS hA [1] rfl
  refine va_calli (va_runV (As := []) (rest := [.ref h0]) ⟨hx, hb, hml, hown, hts⟩ (c_Jx4a65c_size_8abf5 l dC dI z l2 0 z.1 0 H.size) (cwV 0 hts (ws_goodV e205 e206 e208 e185 e207) rfl rfl rfl ⟨rfl, by decide +kernel, by decide +kernel, by decide +kernel⟩ ⟨Nat.le_of_ble_eq_true rfl, Nat.le_of_ble_eq_true rfl⟩) ⟨pPre_blind, va_recv hKc hPc (ci := 0) (q0 := 0) rfl rfl, fun U hU hW => ⟨rfl, pPre_at hPc hKc hDc hE hS hFc U hU hW⟩⟩ rfl rfl hl.1 rfl (lv_room (Nat.le_of_ble_eq_true rfl)) dX17_entries_5 ⟨Nat.le_of_ble_eq_true rfl, Nat.le_of_ble_eq_true rfl⟩) hS (fun q _ h => hFc q h) hFc (fun r1 u2 t H1 locs ht hvm hw hB hz1 hk1 hS => ?_)
  obtain ⟨hP1, hK1, hD1⟩ := hB
  rw [ht] at hP1
  have hK1 := va_K.moved hvm.symm hK1
  obtain ⟨hP, hD⟩ := va_join (wr := [(h0, .inr (14, [.ref l1, .ref l2, .ref l3, .ref l4, .ref l5, .ref l6, .ref l7, .ref l8, .ref l9, .ref ce, .null, .int 0, .int 0, .int 0, .int 0, .int 0, .int 0, .int 0, .int 0, .int 0, .int 0, .int 0, .int 0, .long 0, .ref y1, .ref y2, .ref y3, .ref y4, .ref y5, .int 0, .int 0]))]) (w1 := [(l2, .inr (0, [.int 0, .ref z.1, .int 0]))]) hP hD [1] [0] rfl rfl (by decide) (by decide) hk1 hFc hP1 hD1
  have hK := hK.app hK1
  generalize H1 = H at hP hS ⊢
  have hP : va_P (dC, dI) pcl [(h0, .inr (14, [.ref l1, .ref l2, .ref l3, .ref l4, .ref l5, .ref l6, .ref l7, .ref l8, .ref l9, .ref ce, .null, .int 0, .int 0, .int 0, .int 0, .int 0, .int 0, .int 0, .int 0, .int 0, .int 0, .int 0, .int 0, .long 0, .ref y1, .ref y2, .ref y3, .ref y4, .ref y5, .int 0, .int 0])), (l2, .inr (0, [.int 0, .ref z.1, .int 0]))] H := hP
  have hD : va_D A [(h0, .inr (14, [.ref l1, .ref l2, .ref l3, .ref l4, .ref l5, .ref l6, .ref l7, .ref l8, .ref l9, .ref ce, .null, .int 0, .int 0, .int 0, .int 0, .int 0, .int 0, .int 0, .int 0, .int 0, .int 0, .int 0, .int 0, .long 0, .ref y1, .ref y2, .ref y3, .ref y4, .ref y5, .int 0, .int 0])), (l2, .inr (0, [.int 0, .ref z.1, .int 0]))] := hD
  have hK : va_K (dC, dI) pcl [] s := hK
  subst hw
  have hPc := hP.sub (ws' := [(h0, .inr (14, [.ref l1, .ref l2, .ref l3, .ref l4, .ref l5, .ref l6, .ref l7, .ref l8, .ref l9, .ref ce, .null, .int 0, .int 0, .int 0, .int 0, .int 0, .int 0, .int 0, .int 0, .int 0, .int 0, .int 0, .int 0, .long 0, .ref y1, .ref y2, .ref y3, .ref y4, .ref y5, .int 0, .int 0]))]) [0] rfl
  have hDc := hD.sub (ws' := [(h0, .inr (14, [.ref l1, .ref l2, .ref l3, .ref l4, .ref l5, .ref l6, .ref l7, .ref l8, .ref l9, .ref ce, .null, .int 0, .int 0, .int 0, .int 0, .int 0, .int 0, .int 0, .int 0, .int 0, .int 0, .int 0, .int 0, .long 0, .ref y1, .ref y2, .ref y3, .ref y4, .ref y5, .int 0, .int 0]))]) [0] (by decide) rfl
  have hKc := hK.sub (tys' := []) [] rfl
  have hFc := va_free (wc := [(h0, .inr (14, [.ref l1, .ref l2, .ref l3, .ref l4, .ref l5, .ref l6, .ref l7, .ref l8, .ref l9, .ref ce, .null, .int 0, .int 0, .int 0, .int 0, .int 0, .int 0, .int 0, .int 0, .int 0, .int 0, .int 0, .int 0, .long 0, .ref y1, .ref y2, .ref y3, .ref y4, .ref y5, .int 0, .int 0]))]) hD hS hA [0] rfl
  refine va_calli (va_runV (As := [.int 0]) (rest := []) ⟨hx, hb, hml, hown, hts⟩ (c_X17_tell l dC dI z h0 l1 l2 l3 l4 l5 l6 l7 l8 l9 ce y1 y2 y3 y4 y5 0 H.size) (cwV 1 hts (ws_goodV e229 e230 e232 e212 e231) rfl rfl rfl ⟨rfl, by decide +kernel, by decide +kernel, by decide +kernel⟩ ⟨Nat.le_of_ble_eq_true rfl, Nat.le_of_ble_eq_true rfl⟩) ⟨pPre_blind, va_recv hKc hPc (ci := 14) (q0 := 0) rfl rfl, fun U hU hW => ⟨rfl, pPre_at hPc hKc hDc hE hS hFc U hU hW⟩⟩ rfl rfl hl.1 rfl (lv_room (Nat.le_of_ble_eq_true rfl)) dX17_entries_8 ⟨Nat.le_of_ble_eq_true rfl, Nat.le_of_ble_eq_true rfl⟩) hS (fun q _ h => hFc q h) hFc (fun r3 u4 t H1 locs ht hvm hw hB hz1 hk1 hS => ?_)
  obtain ⟨hP1, hK1, hD1⟩ := hB
  rw [ht] at hP1
  have hK1 := va_K.moved hvm.symm hK1
  obtain ⟨hP, hD⟩ := va_join (wr := [(l2, .inr (0, [.int 0, .ref z.1, .int 0]))]) (w1 := [(h0, .inr (14, [.ref l1, .ref l2, .ref l3, .ref l4, .ref l5, .ref l6, .ref l7, .ref l8, .ref l9, .ref ce, .null, .int 0, .int 0, .int 0, .int 0, .int 0, .int 0, .int 0, .int 0, .int 0, .int 0, .int 0, .int 0, .long 0, .ref y1, .ref y2, .ref y3, .ref y4, .ref y5, .int 0, .int 0]))]) hP hD [0] [1] rfl rfl (by decide) (by decide) hk1 hFc hP1 hD1
  have hK := hK.app hK1
  generalize H1 = H at hP hS ⊢
  have hP : va_P (dC, dI) pcl [(l2, .inr (0, [.int 0, .ref z.1, .int 0])), (h0, .inr (14, [.ref l1, .ref l2, .ref l3, .ref l4, .ref l5, .ref l6, .ref l7, .ref l8, .ref l9, .ref ce, .null, .int 0, .int 0, .int 0, .int 0, .int 0, .int 0, .int 0, .int 0, .int 0, .int 0, .int 0, .int 0, .long 0, .ref y1, .ref y2, .ref y3, .ref y4, .ref y5, .int 0, .int 0]))] H := hP
  have hD : va_D A [(l2, .inr (0, [.int 0, .ref z.1, .int 0])), (h0, .inr (14, [.ref l1, .ref l2, .ref l3, .ref l4, .ref l5, .ref l6, .ref l7, .ref l8, .ref l9, .ref ce, .null, .int 0, .int 0, .int 0, .int 0, .int 0, .int 0, .int 0, .int 0, .int 0, .int 0, .int 0, .int 0, .long 0, .ref y1, .ref y2, .ref y3, .ref y4, .ref y5, .int 0, .int 0]))] := hD
  have hK : va_K (dC, dI) pcl [] s := hK
  subst hw
  have hP9 := hP.sub (ws' := [(h0, .inr (14, [.ref l1, .ref l2, .ref l3, .ref l4, .ref l5, .ref l6, .ref l7, .ref l8, .ref l9, .ref ce, .null, .int 0, .int 0, .int 0, .int 0, .int 0, .int 0, .int 0, .int 0, .int 0, .int 0, .int 0, .int 0, .long 0, .ref y1, .ref y2, .ref y3, .ref y4, .ref y5, .int 0, .int 0]))]) [1] rfl
  have hD9 := hD.sub (ws' := [(h0, .inr (14, [.ref l1, .ref l2, .ref l3, .ref l4, .ref l5, .ref l6, .ref l7, .ref l8, .ref l9, .ref ce, .null, .int 0, .int 0, .int 0, .int 0, .int 0, .int 0, .int 0, .int 0, .int 0, .int 0, .int 0, .int 0, .long 0, .ref y1, .ref y2, .ref y3, .ref y4, .ref y5, .int 0, .int 0]))]) [1] (by decide) rfl
  have hK9 := hK.sub (tys' := []) [] rfl
  refine W.widen (k := 0) (n := 0) (Nat.le_of_ble_eq_true rfl) (Nat.le_of_ble_eq_true rfl) ?_
  exact W.iret (v := 0) hx hb hr (fun t ht hW => ⟨⟨0, (), rfl, rfl, by rw [ht]; exact hP9, va_K.moved hW.alike hK9, hD9⟩, hS.F ht⟩) hS.2.2 dX17_entries_11
set_option maxHeartbeats 4000000 in
set_option maxRecDepth 100000 in
theorem c_X17_here (l : Launch) (dC : Nat → ClassId) (dI : Nat → Nat → Nat) (z : pG) (h0 : Nat) (l1 : Nat) (l2 : Nat) (l3 : Nat) (l4 : Nat) (l5 : Nat) (l6 : Nat) (l7 : Nat) (l8 : Nat) (l9 : Nat) (ce : Nat) (y1 : Nat) (y2 : Nat) (y3 : Nat) (y4 : Nat) (y5 : Nat) (sz : Nat) : Met l yX17_here (ws_ yX17_here cX17_here 1 (some .int)) ({ frames := 1, cells := 0, slots := 0, locals := 21 }) (va_Pc [.ref h0] (pPre z dC dI [(h0, .inr (14, [.ref l1, .ref l2, .ref l3, .ref l4, .ref l5, .ref l6, .ref l7, .ref l8, .ref l9, .ref ce, .null, .int 0, .int 0, .int 0, .int 0, .int 0, .int 0, .int 0, .int 0, .int 0, .int 0, .int 0, .int 0, .long 0, .ref y1, .ref y2, .ref y3, .ref y4, .ref y5, .int 0, .int 0]))] [] sz)) (va_Qi (fun (r : Int32) (_ : Unit) => r = 0) (fun _ t => pPost dC dI (va_A [(h0, .inr (14, [.ref l1, .ref l2, .ref l3, .ref l4, .ref l5, .ref l6, .ref l7, .ref l8, .ref l9, .ref ce, .null, .int 0, .int 0, .int 0, .int 0, .int 0, .int 0, .int 0, .int 0, .int 0, .int 0, .int 0, .int 0, .long 0, .ref y1, .ref y2, .ref y3, .ref y4, .ref y5, .int 0, .int 0]))] sz) [(h0, .inr (14, [.ref l1, .ref l2, .ref l3, .ref l4, .ref l5, .ref l6, .ref l7, .ref l8, .ref l9, .ref ce, .null, .int 0, .int 0, .int 0, .int 0, .int 0, .int 0, .int 0, .int 0, .int 0, .int 0, .int 0, .int 0, .long 0, .ref y1, .ref y2, .ref y3, .ref y4, .ref y5, .int 0, .int 0]))] [] t) (va_A [(h0, .inr (14, [.ref l1, .ref l2, .ref l3, .ref l4, .ref l5, .ref l6, .ref l7, .ref l8, .ref l9, .ref ce, .null, .int 0, .int 0, .int 0, .int 0, .int 0, .int 0, .int 0, .int 0, .int 0, .int 0, .int 0, .int 0, .long 0, .ref y1, .ref y2, .ref y3, .ref y4, .ref y5, .int 0, .int 0]))] sz)) 0 0 (va_A [(h0, .inr (14, [.ref l1, .ref l2, .ref l3, .ref l4, .ref l5, .ref l6, .ref l7, .ref l8, .ref l9, .ref ce, .null, .int 0, .int 0, .int 0, .int 0, .int 0, .int 0, .int 0, .int 0, .int 0, .int 0, .int 0, .int 0, .long 0, .ref y1, .ref y2, .ref y3, .ref y4, .ref y5, .int 0, .int 0]))] sz) := by
  refine Met.ofW (cc := cX17_here) (maxL := 1) (ret := (some .int)) (by decide) rfl ?_
  intro p e s m args below meth c s₁ B hml hv
  obtain ⟨rfl, hsz, hP, hK, hD0, hE⟩ := hv
  have hx := B.exec
  have hb := B.bytes
  have hr := B.returns
  have hts0 := atoms_spec (ws := ws_ yX17_here cX17_here 1 (some .int)) B.pre
  have hts := fun (w : Cond) (h : w ∈ pw) => hts0 w (List.mem_cons_of_mem _ h)
  have hown : s.vm.findClass RX17 = some m.cls := findClass_of_methodNamed B.named
  have hlocks := B.notSynchronized
  subst hsz
  have hD := hD0.self (sz := s.heap.size)
  generalize hAe : va_A [(h0, .inr (14, [.ref l1, .ref l2, .ref l3, .ref l4, .ref l5, .ref l6, .ref l7, .ref l8, .ref l9, .ref ce, .null, .int 0, .int 0, .int 0, .int 0, .int 0, .int 0, .int 0, .int 0, .int 0, .int 0, .int 0, .int 0, .long 0, .ref y1, .ref y2, .ref y3, .ref y4, .ref y5, .int 0, .int 0]))] s.heap.size = A at hD hE ⊢
  have hA : ∀ q : Nat, s.heap.size ≤ q → A q := fun q h => by rw [← hAe]; exact Or.inr h
  have hS : va_S A s.heap s.heap [] := va_S.rf
  have hN := hE.1
  have hP : va_P (dC, dI) pcl [(h0, .inr (14, [.ref l1, .ref l2, .ref l3, .ref l4, .ref l5, .ref l6, .ref l7, .ref l8, .ref l9, .ref ce, .null, .int 0, .int 0, .int 0, .int 0, .int 0, .int 0, .int 0, .int 0, .int 0, .int 0, .int 0, .int 0, .long 0, .ref y1, .ref y2, .ref y3, .ref y4, .ref y5, .int 0, .int 0]))] s.heap := hP
  have hl := lv_entry ([.ref h0]) (n := 1) (Nat.le_of_ble_eq_true rfl)
  rw [lg_entry_eq]
  generalize (lg_sl ([.ref h0]) ++ List.replicate (1 - (lg_sl ([.ref h0])).length) Slot.unset).toArray = ls at hl ⊢
  have hl : lv_has ls 1 [(0, .ref h0)] := hl
  obtain ⟨H, hH0⟩ : ∃ H, H = s.heap := ⟨_, rfl⟩
  rw [← hH0] at hP ⊢
  have hS : va_S A s.heap H [] := by rw [hH0]; exact hS
  refine lv_aload_n hx hb dX17_here_0 rfl (lv_at hl 0 rfl) ?_
  refine lv_aload_n hx hb dX17_here_1 rfl (lv_at hl 0 rfl) ?_
  refine va_get (D := (dC, dI)) (ci := 14) (v := .int 0) (C := RX17) (T := TX17) (N := 31) hx hb hts pinX17 hown hK hP 0 rfl rfl 14 (by decide) (hts _ e252) (fun _ h9 => h9) rfl dX17_here_2 ?_
  have hPc := hP.sub (ws' := [(h0, .inr (14, [.ref l1, .ref l2, .ref l3, .ref l4, .ref l5, .ref l6, .ref l7, .ref l8, .ref l9, .ref ce, .null, .int 0, .int 0, .int 0, .int 0, .int 0, .int 0, .int 0, .int 0, .int 0, .int 0, .int 0, .int 0, .long 0, .ref y1, .ref y2, .ref y3, .ref y4, .ref y5, .int 0, .int 0]))]) [0] rfl
  have hDc := hD.sub (ws' := [(h0, .inr (14, [.ref l1, .ref l2, .ref l3, .ref l4, .ref l5, .ref l6, .ref l7, .ref l8, .ref l9, .ref ce, .null, .int 0, .int 0, .int 0, .int 0, .int 0, .int 0, .int 0, .int 0, .int 0, .int 0, .int 0, .int 0, .long 0, .ref y1, .ref y2, .ref y3, .ref y4, .ref y5, .int 0, .int 0]))]) [0] (by decide) rfl
  have hKc := hK.sub (tys' := []) [] rfl
  have hFc := va_free (wc := [(h0, .inr (14, [.ref l1, .ref l2, .ref l3, .ref l4, .ref l5, .ref l6, .ref l7, .ref l8, .ref l9, .ref ce, .null, .int 0, .int 0, .int 0, .int 0, .int 0, .int 0, .int 0, .int 0, .int 0, .int 0, .int 0, .int 0, .long 0, .ref y1, .ref y2, .ref y3, .ref y4, .ref y5, .int 0, .int 0]))]) hD hS hA [0] rfl
  refine va_calli (va_runV (As := [.int 0]) (rest := []) ⟨hx, hb, hml, hown, hts⟩ (c_X17_tell l dC dI z h0 l1 l2 l3 l4 l5 l6 l7 l8 l9 ce y1 y2 y3 y4 y5 0 H.size) (cwV 1 hts (ws_goodV e229 e230 e232 e212 e231) rfl rfl rfl ⟨rfl, by decide +kernel, by decide +kernel, by decide +kernel⟩ ⟨Nat.le_of_ble_eq_true rfl, Nat.le_of_ble_eq_true rfl⟩) ⟨pPre_blind, va_recv hKc hPc (ci := 14) (q0 := 0) rfl rfl, fun U hU hW => ⟨rfl, pPre_at hPc hKc hDc hE hS hFc U hU hW⟩⟩ rfl rfl hl.1 rfl (lv_room (Nat.le_of_ble_eq_true rfl)) dX17_here_5 ⟨Nat.le_of_ble_eq_true rfl, Nat.le_of_ble_eq_true rfl⟩) hS (fun q _ h => hFc q h) hFc (fun r1 u2 t H1 locs ht hvm hw hB hz1 hk1 hS => ?_)
  obtain ⟨hP1, hK1, hD1⟩ := hB
  rw [ht] at hP1
  have hK1 := va_K.moved hvm.symm hK1
  obtain ⟨hP, hD⟩ := va_join (wr := []) (w1 := [(h0, .inr (14, [.ref l1, .ref l2, .ref l3, .ref l4, .ref l5, .ref l6, .ref l7, .ref l8, .ref l9, .ref ce, .null, .int 0, .int 0, .int 0, .int 0, .int 0, .int 0, .int 0, .int 0, .int 0, .int 0, .int 0, .int 0, .long 0, .ref y1, .ref y2, .ref y3, .ref y4, .ref y5, .int 0, .int 0]))]) hP hD [0] [] rfl rfl (by decide) (by decide) hk1 hFc hP1 hD1
  have hK := hK.app hK1
  generalize H1 = H at hP hS ⊢
  have hP : va_P (dC, dI) pcl [(h0, .inr (14, [.ref l1, .ref l2, .ref l3, .ref l4, .ref l5, .ref l6, .ref l7, .ref l8, .ref l9, .ref ce, .null, .int 0, .int 0, .int 0, .int 0, .int 0, .int 0, .int 0, .int 0, .int 0, .int 0, .int 0, .int 0, .long 0, .ref y1, .ref y2, .ref y3, .ref y4, .ref y5, .int 0, .int 0]))] H := hP
  have hD : va_D A [(h0, .inr (14, [.ref l1, .ref l2, .ref l3, .ref l4, .ref l5, .ref l6, .ref l7, .ref l8, .ref l9, .ref ce, .null, .int 0, .int 0, .int 0, .int 0, .int 0, .int 0, .int 0, .int 0, .int 0, .int 0, .int 0, .int 0, .long 0, .ref y1, .ref y2, .ref y3, .ref y4, .ref y5, .int 0, .int 0]))] := hD
  have hK : va_K (dC, dI) pcl [] s := hK
  subst hw
  have hP9 := hP.sub (ws' := [(h0, .inr (14, [.ref l1, .ref l2, .ref l3, .ref l4, .ref l5, .ref l6, .ref l7, .ref l8, .ref l9, .ref ce, .null, .int 0, .int 0, .int 0, .int 0, .int 0, .int 0, .int 0, .int 0, .int 0, .int 0, .int 0, .int 0, .long 0, .ref y1, .ref y2, .ref y3, .ref y4, .ref y5, .int 0, .int 0]))]) [0] rfl
  have hD9 := hD.sub (ws' := [(h0, .inr (14, [.ref l1, .ref l2, .ref l3, .ref l4, .ref l5, .ref l6, .ref l7, .ref l8, .ref l9, .ref ce, .null, .int 0, .int 0, .int 0, .int 0, .int 0, .int 0, .int 0, .int 0, .int 0, .int 0, .int 0, .int 0, .long 0, .ref y1, .ref y2, .ref y3, .ref y4, .ref y5, .int 0, .int 0]))]) [0] (by decide) rfl
  have hK9 := hK.sub (tys' := []) [] rfl
  refine W.widen (k := 0) (n := 0) (Nat.le_of_ble_eq_true rfl) (Nat.le_of_ble_eq_true rfl) ?_
  exact W.iret (v := 0) hx hb hr (fun t ht hW => ⟨⟨0, (), rfl, rfl, by rw [ht]; exact hP9, va_K.moved hW.alike hK9, hD9⟩, hS.F ht⟩) hS.2.2 dX17_here_8
set_option maxHeartbeats 4000000 in
set_option maxRecDepth 100000 in
theorem c_X17_lines (l : Launch) (dC : Nat → ClassId) (dI : Nat → Nat → Nat) (z : pG) (h0 : Nat) (l1 : Nat) (l2 : Nat) (l3 : Nat) (l4 : Nat) (l5 : Nat) (l6 : Nat) (l7 : Nat) (l8 : Nat) (l9 : Nat) (ce : Nat) (y1 : Nat) (y2 : Nat) (y3 : Nat) (y4 : Nat) (y5 : Nat) (sz : Nat) : Met l yX17_lines (ws_ yX17_lines cX17_lines 1 (some .int)) ({ frames := 1, cells := 0, slots := 0, locals := 21 }) (va_Pc [.ref h0] (pPre z dC dI [(h0, .inr (14, [.ref l1, .ref l2, .ref l3, .ref l4, .ref l5, .ref l6, .ref l7, .ref l8, .ref l9, .ref ce, .null, .int 0, .int 0, .int 0, .int 0, .int 0, .int 0, .int 0, .int 0, .int 0, .int 0, .int 0, .int 0, .long 0, .ref y1, .ref y2, .ref y3, .ref y4, .ref y5, .int 0, .int 0]))] [] sz)) (va_Qi (fun (r : Int32) (_ : Unit) => r = 0) (fun _ t => pPost dC dI (va_A [(h0, .inr (14, [.ref l1, .ref l2, .ref l3, .ref l4, .ref l5, .ref l6, .ref l7, .ref l8, .ref l9, .ref ce, .null, .int 0, .int 0, .int 0, .int 0, .int 0, .int 0, .int 0, .int 0, .int 0, .int 0, .int 0, .int 0, .long 0, .ref y1, .ref y2, .ref y3, .ref y4, .ref y5, .int 0, .int 0]))] sz) [(h0, .inr (14, [.ref l1, .ref l2, .ref l3, .ref l4, .ref l5, .ref l6, .ref l7, .ref l8, .ref l9, .ref ce, .null, .int 0, .int 0, .int 0, .int 0, .int 0, .int 0, .int 0, .int 0, .int 0, .int 0, .int 0, .int 0, .long 0, .ref y1, .ref y2, .ref y3, .ref y4, .ref y5, .int 0, .int 0]))] [] t) (va_A [(h0, .inr (14, [.ref l1, .ref l2, .ref l3, .ref l4, .ref l5, .ref l6, .ref l7, .ref l8, .ref l9, .ref ce, .null, .int 0, .int 0, .int 0, .int 0, .int 0, .int 0, .int 0, .int 0, .int 0, .int 0, .int 0, .int 0, .long 0, .ref y1, .ref y2, .ref y3, .ref y4, .ref y5, .int 0, .int 0]))] sz)) 0 0 (va_A [(h0, .inr (14, [.ref l1, .ref l2, .ref l3, .ref l4, .ref l5, .ref l6, .ref l7, .ref l8, .ref l9, .ref ce, .null, .int 0, .int 0, .int 0, .int 0, .int 0, .int 0, .int 0, .int 0, .int 0, .int 0, .int 0, .int 0, .long 0, .ref y1, .ref y2, .ref y3, .ref y4, .ref y5, .int 0, .int 0]))] sz) := by
  refine Met.ofW (cc := cX17_lines) (maxL := 1) (ret := (some .int)) (by decide) rfl ?_
  intro p e s m args below meth c s₁ B hml hv
  obtain ⟨rfl, hsz, hP, hK, hD0, hE⟩ := hv
  have hx := B.exec
  have hb := B.bytes
  have hr := B.returns
  have hts0 := atoms_spec (ws := ws_ yX17_lines cX17_lines 1 (some .int)) B.pre
  have hts := fun (w : Cond) (h : w ∈ pw) => hts0 w (List.mem_cons_of_mem _ h)
  have hown : s.vm.findClass RX17 = some m.cls := findClass_of_methodNamed B.named
  have hlocks := B.notSynchronized
  subst hsz
  have hD := hD0.self (sz := s.heap.size)
  generalize hAe : va_A [(h0, .inr (14, [.ref l1, .ref l2, .ref l3, .ref l4, .ref l5, .ref l6, .ref l7, .ref l8, .ref l9, .ref ce, .null, .int 0, .int 0, .int 0, .int 0, .int 0, .int 0, .int 0, .int 0, .int 0, .int 0, .int 0, .int 0, .long 0, .ref y1, .ref y2, .ref y3, .ref y4, .ref y5, .int 0, .int 0]))] s.heap.size = A at hD hE ⊢
  have hA : ∀ q : Nat, s.heap.size ≤ q → A q := fun q h => by rw [← hAe]; exact Or.inr h
  have hS : va_S A s.heap s.heap [] := va_S.rf
  have hN := hE.1
  have hP : va_P (dC, dI) pcl [(h0, .inr (14, [.ref l1, .ref l2, .ref l3, .ref l4, .ref l5, .ref l6, .ref l7, .ref l8, .ref l9, .ref ce, .null, .int 0, .int 0, .int 0, .int 0, .int 0, .int 0, .int 0, .int 0, .int 0, .int 0, .int 0, .int 0, .long 0, .ref y1, .ref y2, .ref y3, .ref y4, .ref y5, .int 0, .int 0]))] s.heap := hP
  have hl := lv_entry ([.ref h0]) (n := 1) (Nat.le_of_ble_eq_true rfl)
  rw [lg_entry_eq]
  generalize (lg_sl ([.ref h0]) ++ List.replicate (1 - (lg_sl ([.ref h0])).length) Slot.unset).toArray = ls at hl ⊢
  have hl : lv_has ls 1 [(0, .ref h0)] := hl
  obtain ⟨H, hH0⟩ : ∃ H, H = s.heap := ⟨_, rfl⟩
  rw [← hH0] at hP ⊢
  have hS : va_S A s.heap H [] := by rw [hH0]; exact hS
  refine lv_aload_n hx hb dX17_lines_0 rfl (lv_at hl 0 rfl) ?_
  refine lv_aload_n hx hb dX17_lines_1 rfl (lv_at hl 0 rfl) ?_
  refine va_get (D := (dC, dI)) (ci := 14) (v := .int 0) (C := RX17) (T := TX17) (N := 31) hx hb hts pinX17 hown hK hP 0 rfl rfl 20 (by decide) (hts _ e241) (fun _ h9 => h9) rfl dX17_lines_2 ?_
  have hPc := hP.sub (ws' := [(h0, .inr (14, [.ref l1, .ref l2, .ref l3, .ref l4, .ref l5, .ref l6, .ref l7, .ref l8, .ref l9, .ref ce, .null, .int 0, .int 0, .int 0, .int 0, .int 0, .int 0, .int 0, .int 0, .int 0, .int 0, .int 0, .int 0, .long 0, .ref y1, .ref y2, .ref y3, .ref y4, .ref y5, .int 0, .int 0]))]) [0] rfl
  have hDc := hD.sub (ws' := [(h0, .inr (14, [.ref l1, .ref l2, .ref l3, .ref l4, .ref l5, .ref l6, .ref l7, .ref l8, .ref l9, .ref ce, .null, .int 0, .int 0, .int 0, .int 0, .int 0, .int 0, .int 0, .int 0, .int 0, .int 0, .int 0, .int 0, .long 0, .ref y1, .ref y2, .ref y3, .ref y4, .ref y5, .int 0, .int 0]))]) [0] (by decide) rfl
  have hKc := hK.sub (tys' := []) [] rfl
  have hFc := va_free (wc := [(h0, .inr (14, [.ref l1, .ref l2, .ref l3, .ref l4, .ref l5, .ref l6, .ref l7, .ref l8, .ref l9, .ref ce, .null, .int 0, .int 0, .int 0, .int 0, .int 0, .int 0, .int 0, .int 0, .int 0, .int 0, .int 0, .int 0, .long 0, .ref y1, .ref y2, .ref y3, .ref y4, .ref y5, .int 0, .int 0]))]) hD hS hA [0] rfl
  refine va_calli (va_runV (As := [.int 0]) (rest := []) ⟨hx, hb, hml, hown, hts⟩ (c_X17_tell l dC dI z h0 l1 l2 l3 l4 l5 l6 l7 l8 l9 ce y1 y2 y3 y4 y5 0 H.size) (cwV 1 hts (ws_goodV e229 e230 e232 e212 e231) rfl rfl rfl ⟨rfl, by decide +kernel, by decide +kernel, by decide +kernel⟩ ⟨Nat.le_of_ble_eq_true rfl, Nat.le_of_ble_eq_true rfl⟩) ⟨pPre_blind, va_recv hKc hPc (ci := 14) (q0 := 0) rfl rfl, fun U hU hW => ⟨rfl, pPre_at hPc hKc hDc hE hS hFc U hU hW⟩⟩ rfl rfl hl.1 rfl (lv_room (Nat.le_of_ble_eq_true rfl)) dX17_lines_5 ⟨Nat.le_of_ble_eq_true rfl, Nat.le_of_ble_eq_true rfl⟩) hS (fun q _ h => hFc q h) hFc (fun r1 u2 t H1 locs ht hvm hw hB hz1 hk1 hS => ?_)
  obtain ⟨hP1, hK1, hD1⟩ := hB
  rw [ht] at hP1
  have hK1 := va_K.moved hvm.symm hK1
  obtain ⟨hP, hD⟩ := va_join (wr := []) (w1 := [(h0, .inr (14, [.ref l1, .ref l2, .ref l3, .ref l4, .ref l5, .ref l6, .ref l7, .ref l8, .ref l9, .ref ce, .null, .int 0, .int 0, .int 0, .int 0, .int 0, .int 0, .int 0, .int 0, .int 0, .int 0, .int 0, .int 0, .long 0, .ref y1, .ref y2, .ref y3, .ref y4, .ref y5, .int 0, .int 0]))]) hP hD [0] [] rfl rfl (by decide) (by decide) hk1 hFc hP1 hD1
  have hK := hK.app hK1
  generalize H1 = H at hP hS ⊢
  have hP : va_P (dC, dI) pcl [(h0, .inr (14, [.ref l1, .ref l2, .ref l3, .ref l4, .ref l5, .ref l6, .ref l7, .ref l8, .ref l9, .ref ce, .null, .int 0, .int 0, .int 0, .int 0, .int 0, .int 0, .int 0, .int 0, .int 0, .int 0, .int 0, .int 0, .long 0, .ref y1, .ref y2, .ref y3, .ref y4, .ref y5, .int 0, .int 0]))] H := hP
  have hD : va_D A [(h0, .inr (14, [.ref l1, .ref l2, .ref l3, .ref l4, .ref l5, .ref l6, .ref l7, .ref l8, .ref l9, .ref ce, .null, .int 0, .int 0, .int 0, .int 0, .int 0, .int 0, .int 0, .int 0, .int 0, .int 0, .int 0, .int 0, .long 0, .ref y1, .ref y2, .ref y3, .ref y4, .ref y5, .int 0, .int 0]))] := hD
  have hK : va_K (dC, dI) pcl [] s := hK
  subst hw
  have hP9 := hP.sub (ws' := [(h0, .inr (14, [.ref l1, .ref l2, .ref l3, .ref l4, .ref l5, .ref l6, .ref l7, .ref l8, .ref l9, .ref ce, .null, .int 0, .int 0, .int 0, .int 0, .int 0, .int 0, .int 0, .int 0, .int 0, .int 0, .int 0, .int 0, .long 0, .ref y1, .ref y2, .ref y3, .ref y4, .ref y5, .int 0, .int 0]))]) [0] rfl
  have hD9 := hD.sub (ws' := [(h0, .inr (14, [.ref l1, .ref l2, .ref l3, .ref l4, .ref l5, .ref l6, .ref l7, .ref l8, .ref l9, .ref ce, .null, .int 0, .int 0, .int 0, .int 0, .int 0, .int 0, .int 0, .int 0, .int 0, .int 0, .int 0, .int 0, .long 0, .ref y1, .ref y2, .ref y3, .ref y4, .ref y5, .int 0, .int 0]))]) [0] (by decide) rfl
  have hK9 := hK.sub (tys' := []) [] rfl
  refine W.widen (k := 0) (n := 0) (Nat.le_of_ble_eq_true rfl) (Nat.le_of_ble_eq_true rfl) ?_
  exact W.iret (v := 0) hx hb hr (fun t ht hW => ⟨⟨0, (), rfl, rfl, by rw [ht]; exact hP9, va_K.moved hW.alike hK9, hD9⟩, hS.F ht⟩) hS.2.2 dX17_lines_8
set_option maxHeartbeats 4000000 in
set_option maxRecDepth 100000 in
theorem c_X17_traceAt (l : Launch) (dC : Nat → ClassId) (dI : Nat → Nat → Nat) (z : pG) (h0 : Nat) (l1 : Nat) (l2 : Nat) (l3 : Nat) (l4 : Nat) (l5 : Nat) (l6 : Nat) (l7 : Nat) (l8 : Nat) (l9 : Nat) (ce : Nat) (y1 : Nat) (y2 : Nat) (y3 : Nat) (y4 : Nat) (y5 : Nat) (n : Int32) (sz : Nat) : Met l yX17_traceAt (ws_ yX17_traceAt cX17_traceAt 2 (some .int)) ({ frames := 1, cells := 0, slots := 0, locals := 22 }) (va_Pc [.ref h0, .int n] (pPre z dC dI [(h0, .inr (14, [.ref l1, .ref l2, .ref l3, .ref l4, .ref l5, .ref l6, .ref l7, .ref l8, .ref l9, .ref ce, .null, .int 0, .int 0, .int 0, .int 0, .int 0, .int 0, .int 0, .int 0, .int 0, .int 0, .int 0, .int 0, .long 0, .ref y1, .ref y2, .ref y3, .ref y4, .ref y5, .int 0, .int 0])), (l8, .inr (0, [.int 0, .ref z.1, .int 0]))] [] sz)) (va_Qi (fun (r : Int32) (_ : Unit) => r = 0) (fun _ t => pPost dC dI (va_A [(h0, .inr (14, [.ref l1, .ref l2, .ref l3, .ref l4, .ref l5, .ref l6, .ref l7, .ref l8, .ref l9, .ref ce, .null, .int 0, .int 0, .int 0, .int 0, .int 0, .int 0, .int 0, .int 0, .int 0, .int 0, .int 0, .int 0, .long 0, .ref y1, .ref y2, .ref y3, .ref y4, .ref y5, .int 0, .int 0])), (l8, .inr (0, [.int 0, .ref z.1, .int 0]))] sz) [(h0, .inr (14, [.ref l1, .ref l2, .ref l3, .ref l4, .ref l5, .ref l6, .ref l7, .ref l8, .ref l9, .ref ce, .null, .int 0, .int 0, .int 1, .int 0, .int 0, .int 0, .int 0, .int 0, .int 0, .int 0, .int 0, .int 0, .long 0, .ref y1, .ref y2, .ref y3, .ref y4, .ref y5, .int 0, .int 0]))] [] t) (va_A [(h0, .inr (14, [.ref l1, .ref l2, .ref l3, .ref l4, .ref l5, .ref l6, .ref l7, .ref l8, .ref l9, .ref ce, .null, .int 0, .int 0, .int 0, .int 0, .int 0, .int 0, .int 0, .int 0, .int 0, .int 0, .int 0, .int 0, .long 0, .ref y1, .ref y2, .ref y3, .ref y4, .ref y5, .int 0, .int 0])), (l8, .inr (0, [.int 0, .ref z.1, .int 0]))] sz)) 0 0 (va_A [(h0, .inr (14, [.ref l1, .ref l2, .ref l3, .ref l4, .ref l5, .ref l6, .ref l7, .ref l8, .ref l9, .ref ce, .null, .int 0, .int 0, .int 0, .int 0, .int 0, .int 0, .int 0, .int 0, .int 0, .int 0, .int 0, .int 0, .long 0, .ref y1, .ref y2, .ref y3, .ref y4, .ref y5, .int 0, .int 0])), (l8, .inr (0, [.int 0, .ref z.1, .int 0]))] sz) := by
  refine Met.ofW (cc := cX17_traceAt) (maxL := 2) (ret := (some .int)) (by decide) rfl ?_
  intro p e s m args below meth c s₁ B hml hv
  obtain ⟨rfl, hsz, hP, hK, hD0, hE⟩ := hv
  have hx := B.exec
  have hb := B.bytes
  have hr := B.returns
  have hts0 := atoms_spec (ws := ws_ yX17_traceAt cX17_traceAt 2 (some .int)) B.pre
  have hts := fun (w : Cond) (h : w ∈ pw) => hts0 w (List.mem_cons_of_mem _ h)
  have hown : s.vm.findClass RX17 = some m.cls := findClass_of_methodNamed B.named
  have hlocks := B.notSynchronized
  subst hsz
  have hD := hD0.self (sz := s.heap.size)
  generalize hAe : va_A [(h0, .inr (14, [.ref l1, .ref l2, .ref l3, .ref l4, .ref l5, .ref l6, .ref l7, .ref l8, .ref l9, .ref ce, .null, .int 0, .int 0, .int 0, .int 0, .int 0, .int 0, .int 0, .int 0, .int 0, .int 0, .int 0, .int 0, .long 0, .ref y1, .ref y2, .ref y3, .ref y4, .ref y5, .int 0, .int 0])), (l8, .inr (0, [.int 0, .ref z.1, .int 0]))] s.heap.size = A at hD hE ⊢
  have hA : ∀ q : Nat, s.heap.size ≤ q → A q := fun q h => by rw [← hAe]; exact Or.inr h
  have hS : va_S A s.heap s.heap [] := va_S.rf
  have hN := hE.1
  have hP : va_P (dC, dI) pcl [(h0, .inr (14, [.ref l1, .ref l2, .ref l3, .ref l4, .ref l5, .ref l6, .ref l7, .ref l8, .ref l9, .ref ce, .null, .int 0, .int 0, .int 0, .int 0, .int 0, .int 0, .int 0, .int 0, .int 0, .int 0, .int 0, .int 0, .long 0, .ref y1, .ref y2, .ref y3, .ref y4, .ref y5, .int 0, .int 0])), (l8, .inr (0, [.int 0, .ref z.1, .int 0]))] s.heap := hP
  have hl := lv_entry ([.ref h0, .int n]) (n := 2) (Nat.le_of_ble_eq_true rfl)
  rw [lg_entry_eq]
  generalize (lg_sl ([.ref h0, .int n]) ++ List.replicate (2 - (lg_sl ([.ref h0, .int n])).length) Slot.unset).toArray = ls at hl ⊢
  have hl : lv_has ls 2 [(0, .ref h0), (1, .int n)] := hl
  obtain ⟨H, hH0⟩ : ∃ H, H = s.heap := ⟨_, rfl⟩
  rw [← hH0] at hP ⊢
  have hS : va_S A s.heap H [] := by rw [hH0]; exact hS
  refine lv_iload_n hx hb dX17_traceAt_0 rfl (lv_at hl 1 rfl) ?_
  refine lv_iconst (v := 0) hx hb dX17_traceAt_1 (by decide) ?_
  refine lv_aload_n hx hb dX17_traceAt_2 rfl (lv_at hl 0 rfl) ?_
  refine va_get (D := (dC, dI)) (ci := 14) (v := .ref l8) (C := RX17) (T := TX17) (N := 31) hx hb hts pinX17 hown hK hP 0 rfl rfl 7 (by decide) (hts _ e196) (fun _ h9 => h9) rfl dX17_traceAt_3 ?_
  have hPc := hP.sub (ws' := [(l8, .inr (0, [.int 0, .ref z.1, .int 0]))]) [1] rfl
  have hDc := hD.sub (ws' := [(l8, .inr (0, [.int 0, .ref z.1, .int 0]))]) [1] (by decide) rfl
  have hKc := hK.sub (tys' := []) [] rfl
  have hFc := va_free (wc := [(l8, .inr (0, [.int 0, .ref z.1, .int 0]))]) hD hS hA [1] rfl
  refine va_calli (va_runV (As := []) (rest := [.int 0, .int n]) ⟨hx, hb, hml, hown, hts⟩ (c_Jx4a65c_size_8abf5 l dC dI z l8 0 z.1 0 H.size) (cwV 0 hts (ws_goodV e205 e206 e208 e185 e207) rfl rfl rfl ⟨rfl, by decide +kernel, by decide +kernel, by decide +kernel⟩ ⟨Nat.le_of_ble_eq_true rfl, Nat.le_of_ble_eq_true rfl⟩) ⟨pPre_blind, va_recv hKc hPc (ci := 0) (q0 := 0) rfl rfl, fun U hU hW => ⟨rfl, pPre_at hPc hKc hDc hE hS hFc U hU hW⟩⟩ rfl rfl hl.1 rfl (lv_room (Nat.le_of_ble_eq_true rfl)) dX17_traceAt_6 ⟨Nat.le_of_ble_eq_true rfl, Nat.le_of_ble_eq_true rfl⟩) hS (fun q _ h => hFc q h) hFc (fun r1 u2 t H1 locs ht hvm hw hB hz1 hk1 hS => ?_)
  obtain ⟨hP1, hK1, hD1⟩ := hB
  rw [ht] at hP1
  have hK1 := va_K.moved hvm.symm hK1
  obtain ⟨hP, hD⟩ := va_join (wr := [(h0, .inr (14, [.ref l1, .ref l2, .ref l3, .ref l4, .ref l5, .ref l6, .ref l7, .ref l8, .ref l9, .ref ce, .null, .int 0, .int 0, .int 0, .int 0, .int 0, .int 0, .int 0, .int 0, .int 0, .int 0, .int 0, .int 0, .long 0, .ref y1, .ref y2, .ref y3, .ref y4, .ref y5, .int 0, .int 0]))]) (w1 := [(l8, .inr (0, [.int 0, .ref z.1, .int 0]))]) hP hD [1] [0] rfl rfl (by decide) (by decide) hk1 hFc hP1 hD1
  have hK := hK.app hK1
  generalize H1 = H at hP hS ⊢
  have hP : va_P (dC, dI) pcl [(h0, .inr (14, [.ref l1, .ref l2, .ref l3, .ref l4, .ref l5, .ref l6, .ref l7, .ref l8, .ref l9, .ref ce, .null, .int 0, .int 0, .int 0, .int 0, .int 0, .int 0, .int 0, .int 0, .int 0, .int 0, .int 0, .int 0, .long 0, .ref y1, .ref y2, .ref y3, .ref y4, .ref y5, .int 0, .int 0])), (l8, .inr (0, [.int 0, .ref z.1, .int 0]))] H := hP
  have hD : va_D A [(h0, .inr (14, [.ref l1, .ref l2, .ref l3, .ref l4, .ref l5, .ref l6, .ref l7, .ref l8, .ref l9, .ref ce, .null, .int 0, .int 0, .int 0, .int 0, .int 0, .int 0, .int 0, .int 0, .int 0, .int 0, .int 0, .int 0, .long 0, .ref y1, .ref y2, .ref y3, .ref y4, .ref y5, .int 0, .int 0])), (l8, .inr (0, [.int 0, .ref z.1, .int 0]))] := hD
  have hK : va_K (dC, dI) pcl [] s := hK
  subst hw
  refine lv_iconst (v := 1) hx hb dX17_traceAt_9 (by decide) ?_
  refine lv_isub hx hb dX17_traceAt_10 ?_
  refine W.eq (g2 := F0 m 11 ls [.int (-1), .int 0, .int n]) (by rfl) ?_
  have hPc := hP.sub (ws' := []) [] rfl
  have hDc := hD.sub (ws' := []) [] (by decide) rfl
  have hKc := hK.sub (tys' := []) [] rfl
  have hFc := va_free (wc := []) hD hS hA [] rfl
  refine va_calli (va_runS (As := [.int n, .int 0, .int (-1)]) (rest := []) ⟨hx, hb, hml, hown, hts⟩ (c_X17_inE l dC dI z n H.size) (va_cwS 3 hts (ws_goodS e238 e239 e212 e240) rfl rfl rfl ⟨by decide +kernel, by decide +kernel, by decide +kernel⟩ ⟨Nat.le_of_ble_eq_true rfl, Nat.le_of_ble_eq_true rfl⟩) ⟨pPre_blind, fun U hU hW => ⟨rfl, pPre_at hPc hKc hDc hE hS hFc U hU hW⟩⟩ rfl rfl hl.1 rfl (lv_room (Nat.le_of_ble_eq_true rfl)) dX17_traceAt_11 ⟨Nat.le_of_ble_eq_true rfl, Nat.le_of_ble_eq_true rfl⟩) hS (fun q _ h => hFc q h) hFc (fun r3 u4 t H1 locs ht hvm hw hB hz1 hk1 hS => ?_)
  obtain ⟨hP1, hK1, hD1⟩ := hB
  rw [ht] at hP1
  have hK1 := va_K.moved hvm.symm hK1
  obtain ⟨hP, hD⟩ := va_join (wr := [(h0, .inr (14, [.ref l1, .ref l2, .ref l3, .ref l4, .ref l5, .ref l6, .ref l7, .ref l8, .ref l9, .ref ce, .null, .int 0, .int 0, .int 0, .int 0, .int 0, .int 0, .int 0, .int 0, .int 0, .int 0, .int 0, .int 0, .long 0, .ref y1, .ref y2, .ref y3, .ref y4, .ref y5, .int 0, .int 0])), (l8, .inr (0, [.int 0, .ref z.1, .int 0]))]) (w1 := []) hP hD [] [0, 1] rfl rfl (by decide) (by decide) hk1 hFc hP1 hD1
  have hK := hK.app hK1
  generalize H1 = H at hP hS ⊢
  have hP : va_P (dC, dI) pcl [(h0, .inr (14, [.ref l1, .ref l2, .ref l3, .ref l4, .ref l5, .ref l6, .ref l7, .ref l8, .ref l9, .ref ce, .null, .int 0, .int 0, .int 0, .int 0, .int 0, .int 0, .int 0, .int 0, .int 0, .int 0, .int 0, .int 0, .long 0, .ref y1, .ref y2, .ref y3, .ref y4, .ref y5, .int 0, .int 0])), (l8, .inr (0, [.int 0, .ref z.1, .int 0]))] H := hP
  have hD : va_D A [(h0, .inr (14, [.ref l1, .ref l2, .ref l3, .ref l4, .ref l5, .ref l6, .ref l7, .ref l8, .ref l9, .ref ce, .null, .int 0, .int 0, .int 0, .int 0, .int 0, .int 0, .int 0, .int 0, .int 0, .int 0, .int 0, .int 0, .long 0, .ref y1, .ref y2, .ref y3, .ref y4, .ref y5, .int 0, .int 0])), (l8, .inr (0, [.int 0, .ref z.1, .int 0]))] := hD
  have hK : va_K (dC, dI) pcl [] s := hK
  subst hw
  refine lv_if_eq (tgt := 38) hx hb dX17_traceAt_14 (by decide) (fun _ => ?_) (fun h9 => absurd (by decide) h9)
  refine lv_aload_n hx hb dX17_traceAt_38 rfl (lv_at hl 0 rfl) ?_
  refine lv_iconst (v := 1) hx hb dX17_traceAt_39 (by decide) ?_
  have hPc := hP.sub (ws' := [(h0, .inr (14, [.ref l1, .ref l2, .ref l3, .ref l4, .ref l5, .ref l6, .ref l7, .ref l8, .ref l9, .ref ce, .null, .int 0, .int 0, .int 0, .int 0, .int 0, .int 0, .int 0, .int 0, .int 0, .int 0, .int 0, .int 0, .long 0, .ref y1, .ref y2, .ref y3, .ref y4, .ref y5, .int 0, .int 0]))]) [0] rfl
  have hDc := hD.sub (ws' := [(h0, .inr (14, [.ref l1, .ref l2, .ref l3, .ref l4, .ref l5, .ref l6, .ref l7, .ref l8, .ref l9, .ref ce, .null, .int 0, .int 0, .int 0, .int 0, .int 0, .int 0, .int 0, .int 0, .int 0, .int 0, .int 0, .int 0, .long 0, .ref y1, .ref y2, .ref y3, .ref y4, .ref y5, .int 0, .int 0]))]) [0] (by decide) rfl
  have hKc := hK.sub (tys' := []) [] rfl
  have hFc := va_free (wc := [(h0, .inr (14, [.ref l1, .ref l2, .ref l3, .ref l4, .ref l5, .ref l6, .ref l7, .ref l8, .ref l9, .ref ce, .null, .int 0, .int 0, .int 0, .int 0, .int 0, .int 0, .int 0, .int 0, .int 0, .int 0, .int 0, .int 0, .long 0, .ref y1, .ref y2, .ref y3, .ref y4, .ref y5, .int 0, .int 0]))]) hD hS hA [0] rfl
  refine va_calli (va_runV (As := [.int 1]) (rest := []) ⟨hx, hb, hml, hown, hts⟩ (c_X17_fails l dC dI z h0 l1 l2 l3 l4 l5 l6 l7 l8 l9 ce y1 y2 y3 y4 y5 1 H.size) (cwV 1 hts (ws_goodV e215 e216 e218 e212 e217) rfl rfl rfl ⟨rfl, by decide +kernel, by decide +kernel, by decide +kernel⟩ ⟨Nat.le_of_ble_eq_true rfl, Nat.le_of_ble_eq_true rfl⟩) ⟨pPre_blind, va_recv hKc hPc (ci := 14) (q0 := 0) rfl rfl, fun U hU hW => ⟨rfl, pPre_at hPc hKc hDc hE hS hFc U hU hW⟩⟩ rfl rfl hl.1 rfl (lv_room (Nat.le_of_ble_eq_true rfl)) dX17_traceAt_40 ⟨Nat.le_of_ble_eq_true rfl, Nat.le_of_ble_eq_true rfl⟩) hS (fun q _ h => hFc q h) hFc (fun r5 u6 t H1 locs ht hvm hw hB hz1 hk1 hS => ?_)
  obtain ⟨hP1, hK1, hD1⟩ := hB
  rw [ht] at hP1
  have hK1 := va_K.moved hvm.symm hK1
  obtain ⟨hP, hD⟩ := va_join (wr := [(l8, .inr (0, [.int 0, .ref z.1, .int 0]))]) (w1 := [(h0, .inr (14, [.ref l1, .ref l2, .ref l3, .ref l4, .ref l5, .ref l6, .ref l7, .ref l8, .ref l9, .ref ce, .null, .int 0, .int 0, .int 1, .int 0, .int 0, .int 0, .int 0, .int 0, .int 0, .int 0, .int 0, .int 0, .long 0, .ref y1, .ref y2, .ref y3, .ref y4, .ref y5, .int 0, .int 0]))]) hP hD [0] [1] rfl rfl (by decide) (by decide) hk1 hFc hP1 hD1
  have hK := hK.app hK1
  generalize H1 = H at hP hS ⊢
  have hP : va_P (dC, dI) pcl [(l8, .inr (0, [.int 0, .ref z.1, .int 0])), (h0, .inr (14, [.ref l1, .ref l2, .ref l3, .ref l4, .ref l5, .ref l6, .ref l7, .ref l8, .ref l9, .ref ce, .null, .int 0, .int 0, .int 1, .int 0, .int 0, .int 0, .int 0, .int 0, .int 0, .int 0, .int 0, .int 0, .long 0, .ref y1, .ref y2, .ref y3, .ref y4, .ref y5, .int 0, .int 0]))] H := hP
  have hD : va_D A [(l8, .inr (0, [.int 0, .ref z.1, .int 0])), (h0, .inr (14, [.ref l1, .ref l2, .ref l3, .ref l4, .ref l5, .ref l6, .ref l7, .ref l8, .ref l9, .ref ce, .null, .int 0, .int 0, .int 1, .int 0, .int 0, .int 0, .int 0, .int 0, .int 0, .int 0, .int 0, .int 0, .long 0, .ref y1, .ref y2, .ref y3, .ref y4, .ref y5, .int 0, .int 0]))] := hD
  have hK : va_K (dC, dI) pcl [] s := hK
  subst hw
  have hP9 := hP.sub (ws' := [(h0, .inr (14, [.ref l1, .ref l2, .ref l3, .ref l4, .ref l5, .ref l6, .ref l7, .ref l8, .ref l9, .ref ce, .null, .int 0, .int 0, .int 1, .int 0, .int 0, .int 0, .int 0, .int 0, .int 0, .int 0, .int 0, .int 0, .long 0, .ref y1, .ref y2, .ref y3, .ref y4, .ref y5, .int 0, .int 0]))]) [1] rfl
  have hD9 := hD.sub (ws' := [(h0, .inr (14, [.ref l1, .ref l2, .ref l3, .ref l4, .ref l5, .ref l6, .ref l7, .ref l8, .ref l9, .ref ce, .null, .int 0, .int 0, .int 1, .int 0, .int 0, .int 0, .int 0, .int 0, .int 0, .int 0, .int 0, .int 0, .long 0, .ref y1, .ref y2, .ref y3, .ref y4, .ref y5, .int 0, .int 0]))]) [1] (by decide) rfl
  have hK9 := hK.sub (tys' := []) [] rfl
  refine W.widen (k := 0) (n := 0) (Nat.le_of_ble_eq_true rfl) (Nat.le_of_ble_eq_true rfl) ?_
  exact W.iret (v := 0) hx hb hr (fun t ht hW => ⟨⟨0, (), rfl, rfl, by rw [ht]; exact hP9, va_K.moved hW.alike hK9, hD9⟩, hS.F ht⟩) hS.2.2 dX17_traceAt_43
set_option maxHeartbeats 4000000 in
set_option maxRecDepth 100000 in
theorem c_X17_at (l : Launch) (dC : Nat → ClassId) (dI : Nat → Nat → Nat) (z : pG) (h0 : Nat) (l1 : Nat) (l2 : Nat) (l3 : Nat) (l4 : Nat) (l5 : Nat) (l6 : Nat) (l7 : Nat) (l8 : Nat) (l9 : Nat) (ce : Nat) (y1 : Nat) (y2 : Nat) (y3 : Nat) (y4 : Nat) (y5 : Nat) (n : Int32) (sz : Nat) : Met l yX17_at (ws_ yX17_at cX17_at 2 (some .int)) ({ frames := 1, cells := 0, slots := 0, locals := 22 }) (va_Pc [.ref h0, .int n] (pPre z dC dI [(h0, .inr (14, [.ref l1, .ref l2, .ref l3, .ref l4, .ref l5, .ref l6, .ref l7, .ref l8, .ref l9, .ref ce, .null, .int 0, .int 0, .int 0, .int 0, .int 0, .int 0, .int 0, .int 0, .int 0, .int 0, .int 0, .int 0, .long 0, .ref y1, .ref y2, .ref y3, .ref y4, .ref y5, .int 0, .int 0])), (l3, .inr (0, [.int 0, .ref z.1, .int 0]))] [] sz)) (va_Qi (fun (r : Int32) (_ : Unit) => r = 0) (fun _ t => pPost dC dI (va_A [(h0, .inr (14, [.ref l1, .ref l2, .ref l3, .ref l4, .ref l5, .ref l6, .ref l7, .ref l8, .ref l9, .ref ce, .null, .int 0, .int 0, .int 0, .int 0, .int 0, .int 0, .int 0, .int 0, .int 0, .int 0, .int 0, .int 0, .long 0, .ref y1, .ref y2, .ref y3, .ref y4, .ref y5, .int 0, .int 0])), (l3, .inr (0, [.int 0, .ref z.1, .int 0]))] sz) [(h0, .inr (14, [.ref l1, .ref l2, .ref l3, .ref l4, .ref l5, .ref l6, .ref l7, .ref l8, .ref l9, .ref ce, .null, .int 0, .int 0, .int 1, .int 0, .int 0, .int 0, .int 0, .int 0, .int 0, .int 0, .int 0, .int 0, .long 0, .ref y1, .ref y2, .ref y3, .ref y4, .ref y5, .int 0, .int 0]))] [] t) (va_A [(h0, .inr (14, [.ref l1, .ref l2, .ref l3, .ref l4, .ref l5, .ref l6, .ref l7, .ref l8, .ref l9, .ref ce, .null, .int 0, .int 0, .int 0, .int 0, .int 0, .int 0, .int 0, .int 0, .int 0, .int 0, .int 0, .int 0, .long 0, .ref y1, .ref y2, .ref y3, .ref y4, .ref y5, .int 0, .int 0])), (l3, .inr (0, [.int 0, .ref z.1, .int 0]))] sz)) 0 0 (va_A [(h0, .inr (14, [.ref l1, .ref l2, .ref l3, .ref l4, .ref l5, .ref l6, .ref l7, .ref l8, .ref l9, .ref ce, .null, .int 0, .int 0, .int 0, .int 0, .int 0, .int 0, .int 0, .int 0, .int 0, .int 0, .int 0, .int 0, .long 0, .ref y1, .ref y2, .ref y3, .ref y4, .ref y5, .int 0, .int 0])), (l3, .inr (0, [.int 0, .ref z.1, .int 0]))] sz) := by
  refine Met.ofW (cc := cX17_at) (maxL := 2) (ret := (some .int)) (by decide) rfl ?_
  intro p e s m args below meth c s₁ B hml hv
  obtain ⟨rfl, hsz, hP, hK, hD0, hE⟩ := hv
  have hx := B.exec
  have hb := B.bytes
  have hr := B.returns
  have hts0 := atoms_spec (ws := ws_ yX17_at cX17_at 2 (some .int)) B.pre
  have hts := fun (w : Cond) (h : w ∈ pw) => hts0 w (List.mem_cons_of_mem _ h)
  have hown : s.vm.findClass RX17 = some m.cls := findClass_of_methodNamed B.named
  have hlocks := B.notSynchronized
  subst hsz
  have hD := hD0.self (sz := s.heap.size)
  generalize hAe : va_A [(h0, .inr (14, [.ref l1, .ref l2, .ref l3, .ref l4, .ref l5, .ref l6, .ref l7, .ref l8, .ref l9, .ref ce, .null, .int 0, .int 0, .int 0, .int 0, .int 0, .int 0, .int 0, .int 0, .int 0, .int 0, .int 0, .int 0, .long 0, .ref y1, .ref y2, .ref y3, .ref y4, .ref y5, .int 0, .int 0])), (l3, .inr (0, [.int 0, .ref z.1, .int 0]))] s.heap.size = A at hD hE ⊢
  have hA : ∀ q : Nat, s.heap.size ≤ q → A q := fun q h => by rw [← hAe]; exact Or.inr h
  have hS : va_S A s.heap s.heap [] := va_S.rf
  have hN := hE.1
  have hP : va_P (dC, dI) pcl [(h0, .inr (14, [.ref l1, .ref l2, .ref l3, .ref l4, .ref l5, .ref l6, .ref l7, .ref l8, .ref l9, .ref ce, .null, .int 0, .int 0, .int 0, .int 0, .int 0, .int 0, .int 0, .int 0, .int 0, .int 0, .int 0, .int 0, .long 0, .ref y1, .ref y2, .ref y3, .ref y4, .ref y5, .int 0, .int 0])), (l3, .inr (0, [.int 0, .ref z.1, .int 0]))] s.heap := hP
  have hl := lv_entry ([.ref h0, .int n]) (n := 2) (Nat.le_of_ble_eq_true rfl)
  rw [lg_entry_eq]
  generalize (lg_sl ([.ref h0, .int n]) ++ List.replicate (2 - (lg_sl ([.ref h0, .int n])).length) Slot.unset).toArray = ls at hl ⊢
  have hl : lv_has ls 2 [(0, .ref h0), (1, .int n)] := hl
  obtain ⟨H, hH0⟩ : ∃ H, H = s.heap := ⟨_, rfl⟩
  rw [← hH0] at hP ⊢
  have hS : va_S A s.heap H [] := by rw [hH0]; exact hS
  refine lv_iload_n hx hb dX17_at_0 rfl (lv_at hl 1 rfl) ?_
  refine lv_iconst (v := 0) hx hb dX17_at_1 (by decide) ?_
  refine lv_aload_n hx hb dX17_at_2 rfl (lv_at hl 0 rfl) ?_
  refine va_get (D := (dC, dI)) (ci := 14) (v := .ref l3) (C := RX17) (T := TX17) (N := 31) hx hb hts pinX17 hown hK hP 0 rfl rfl 2 (by decide) (hts _ e191) (fun _ h9 => h9) rfl dX17_at_3 ?_
  have hPc := hP.sub (ws' := [(l3, .inr (0, [.int 0, .ref z.1, .int 0]))]) [1] rfl
  have hDc := hD.sub (ws' := [(l3, .inr (0, [.int 0, .ref z.1, .int 0]))]) [1] (by decide) rfl
  have hKc := hK.sub (tys' := []) [] rfl
  have hFc := va_free (wc := [(l3, .inr (0, [.int 0, .ref z.1, .int 0]))]) hD hS hA [1] rfl
  refine va_calli (va_runV (As := []) (rest := [.int 0, .int n]) ⟨hx, hb, hml, hown, hts⟩ (c_Jx4a65c_size_8abf5 l dC dI z l3 0 z.1 0 H.size) (cwV 0 hts (ws_goodV e205 e206 e208 e185 e207) rfl rfl rfl ⟨rfl, by decide +kernel, by decide +kernel, by decide +kernel⟩ ⟨Nat.le_of_ble_eq_true rfl, Nat.le_of_ble_eq_true rfl⟩) ⟨pPre_blind, va_recv hKc hPc (ci := 0) (q0 := 0) rfl rfl, fun U hU hW => ⟨rfl, pPre_at hPc hKc hDc hE hS hFc U hU hW⟩⟩ rfl rfl hl.1 rfl (lv_room (Nat.le_of_ble_eq_true rfl)) dX17_at_6 ⟨Nat.le_of_ble_eq_true rfl, Nat.le_of_ble_eq_true rfl⟩) hS (fun q _ h => hFc q h) hFc (fun r1 u2 t H1 locs ht hvm hw hB hz1 hk1 hS => ?_)
  obtain ⟨hP1, hK1, hD1⟩ := hB
  rw [ht] at hP1
  have hK1 := va_K.moved hvm.symm hK1
  obtain ⟨hP, hD⟩ := va_join (wr := [(h0, .inr (14, [.ref l1, .ref l2, .ref l3, .ref l4, .ref l5, .ref l6, .ref l7, .ref l8, .ref l9, .ref ce, .null, .int 0, .int 0, .int 0, .int 0, .int 0, .int 0, .int 0, .int 0, .int 0, .int 0, .int 0, .int 0, .long 0, .ref y1, .ref y2, .ref y3, .ref y4, .ref y5, .int 0, .int 0]))]) (w1 := [(l3, .inr (0, [.int 0, .ref z.1, .int 0]))]) hP hD [1] [0] rfl rfl (by decide) (by decide) hk1 hFc hP1 hD1
  have hK := hK.app hK1
  generalize H1 = H at hP hS ⊢
  have hP : va_P (dC, dI) pcl [(h0, .inr (14, [.ref l1, .ref l2, .ref l3, .ref l4, .ref l5, .ref l6, .ref l7, .ref l8, .ref l9, .ref ce, .null, .int 0, .int 0, .int 0, .int 0, .int 0, .int 0, .int 0, .int 0, .int 0, .int 0, .int 0, .int 0, .long 0, .ref y1, .ref y2, .ref y3, .ref y4, .ref y5, .int 0, .int 0])), (l3, .inr (0, [.int 0, .ref z.1, .int 0]))] H := hP
  have hD : va_D A [(h0, .inr (14, [.ref l1, .ref l2, .ref l3, .ref l4, .ref l5, .ref l6, .ref l7, .ref l8, .ref l9, .ref ce, .null, .int 0, .int 0, .int 0, .int 0, .int 0, .int 0, .int 0, .int 0, .int 0, .int 0, .int 0, .int 0, .long 0, .ref y1, .ref y2, .ref y3, .ref y4, .ref y5, .int 0, .int 0])), (l3, .inr (0, [.int 0, .ref z.1, .int 0]))] := hD
  have hK : va_K (dC, dI) pcl [] s := hK
  subst hw
  refine lv_iconst (v := 1) hx hb dX17_at_9 (by decide) ?_
  refine lv_isub hx hb dX17_at_10 ?_
  refine W.eq (g2 := F0 m 11 ls [.int (-1), .int 0, .int n]) (by rfl) ?_
  have hPc := hP.sub (ws' := []) [] rfl
  have hDc := hD.sub (ws' := []) [] (by decide) rfl
  have hKc := hK.sub (tys' := []) [] rfl
  have hFc := va_free (wc := []) hD hS hA [] rfl
  refine va_calli (va_runS (As := [.int n, .int 0, .int (-1)]) (rest := []) ⟨hx, hb, hml, hown, hts⟩ (c_X17_inE l dC dI z n H.size) (va_cwS 3 hts (ws_goodS e238 e239 e212 e240) rfl rfl rfl ⟨by decide +kernel, by decide +kernel, by decide +kernel⟩ ⟨Nat.le_of_ble_eq_true rfl, Nat.le_of_ble_eq_true rfl⟩) ⟨pPre_blind, fun U hU hW => ⟨rfl, pPre_at hPc hKc hDc hE hS hFc U hU hW⟩⟩ rfl rfl hl.1 rfl (lv_room (Nat.le_of_ble_eq_true rfl)) dX17_at_11 ⟨Nat.le_of_ble_eq_true rfl, Nat.le_of_ble_eq_true rfl⟩) hS (fun q _ h => hFc q h) hFc (fun r3 u4 t H1 locs ht hvm hw hB hz1 hk1 hS => ?_)
  obtain ⟨hP1, hK1, hD1⟩ := hB
  rw [ht] at hP1
  have hK1 := va_K.moved hvm.symm hK1
  obtain ⟨hP, hD⟩ := va_join (wr := [(h0, .inr (14, [.ref l1, .ref l2, .ref l3, .ref l4, .ref l5, .ref l6, .ref l7, .ref l8, .ref l9, .ref ce, .null, .int 0, .int 0, .int 0, .int 0, .int 0, .int 0, .int 0, .int 0, .int 0, .int 0, .int 0, .int 0, .long 0, .ref y1, .ref y2, .ref y3, .ref y4, .ref y5, .int 0, .int 0])), (l3, .inr (0, [.int 0, .ref z.1, .int 0]))]) (w1 := []) hP hD [] [0, 1] rfl rfl (by decide) (by decide) hk1 hFc hP1 hD1
  have hK := hK.app hK1
  generalize H1 = H at hP hS ⊢
  have hP : va_P (dC, dI) pcl [(h0, .inr (14, [.ref l1, .ref l2, .ref l3, .ref l4, .ref l5, .ref l6, .ref l7, .ref l8, .ref l9, .ref ce, .null, .int 0, .int 0, .int 0, .int 0, .int 0, .int 0, .int 0, .int 0, .int 0, .int 0, .int 0, .int 0, .long 0, .ref y1, .ref y2, .ref y3, .ref y4, .ref y5, .int 0, .int 0])), (l3, .inr (0, [.int 0, .ref z.1, .int 0]))] H := hP
  have hD : va_D A [(h0, .inr (14, [.ref l1, .ref l2, .ref l3, .ref l4, .ref l5, .ref l6, .ref l7, .ref l8, .ref l9, .ref ce, .null, .int 0, .int 0, .int 0, .int 0, .int 0, .int 0, .int 0, .int 0, .int 0, .int 0, .int 0, .int 0, .long 0, .ref y1, .ref y2, .ref y3, .ref y4, .ref y5, .int 0, .int 0])), (l3, .inr (0, [.int 0, .ref z.1, .int 0]))] := hD
  have hK : va_K (dC, dI) pcl [] s := hK
  subst hw
  refine lv_if_eq (tgt := 29) hx hb dX17_at_14 (by decide) (fun _ => ?_) (fun h9 => absurd (by decide) h9)
  refine lv_aload_n hx hb dX17_at_29 rfl (lv_at hl 0 rfl) ?_
  refine lv_iconst (v := 1) hx hb dX17_at_30 (by decide) ?_
  have hPc := hP.sub (ws' := [(h0, .inr (14, [.ref l1, .ref l2, .ref l3, .ref l4, .ref l5, .ref l6, .ref l7, .ref l8, .ref l9, .ref ce, .null, .int 0, .int 0, .int 0, .int 0, .int 0, .int 0, .int 0, .int 0, .int 0, .int 0, .int 0, .int 0, .long 0, .ref y1, .ref y2, .ref y3, .ref y4, .ref y5, .int 0, .int 0]))]) [0] rfl
  have hDc := hD.sub (ws' := [(h0, .inr (14, [.ref l1, .ref l2, .ref l3, .ref l4, .ref l5, .ref l6, .ref l7, .ref l8, .ref l9, .ref ce, .null, .int 0, .int 0, .int 0, .int 0, .int 0, .int 0, .int 0, .int 0, .int 0, .int 0, .int 0, .int 0, .long 0, .ref y1, .ref y2, .ref y3, .ref y4, .ref y5, .int 0, .int 0]))]) [0] (by decide) rfl
  have hKc := hK.sub (tys' := []) [] rfl
  have hFc := va_free (wc := [(h0, .inr (14, [.ref l1, .ref l2, .ref l3, .ref l4, .ref l5, .ref l6, .ref l7, .ref l8, .ref l9, .ref ce, .null, .int 0, .int 0, .int 0, .int 0, .int 0, .int 0, .int 0, .int 0, .int 0, .int 0, .int 0, .int 0, .long 0, .ref y1, .ref y2, .ref y3, .ref y4, .ref y5, .int 0, .int 0]))]) hD hS hA [0] rfl
  refine va_calli (va_runV (As := [.int 1]) (rest := []) ⟨hx, hb, hml, hown, hts⟩ (c_X17_fails l dC dI z h0 l1 l2 l3 l4 l5 l6 l7 l8 l9 ce y1 y2 y3 y4 y5 1 H.size) (cwV 1 hts (ws_goodV e215 e216 e218 e212 e217) rfl rfl rfl ⟨rfl, by decide +kernel, by decide +kernel, by decide +kernel⟩ ⟨Nat.le_of_ble_eq_true rfl, Nat.le_of_ble_eq_true rfl⟩) ⟨pPre_blind, va_recv hKc hPc (ci := 14) (q0 := 0) rfl rfl, fun U hU hW => ⟨rfl, pPre_at hPc hKc hDc hE hS hFc U hU hW⟩⟩ rfl rfl hl.1 rfl (lv_room (Nat.le_of_ble_eq_true rfl)) dX17_at_31 ⟨Nat.le_of_ble_eq_true rfl, Nat.le_of_ble_eq_true rfl⟩) hS (fun q _ h => hFc q h) hFc (fun r5 u6 t H1 locs ht hvm hw hB hz1 hk1 hS => ?_)
  obtain ⟨hP1, hK1, hD1⟩ := hB
  rw [ht] at hP1
  have hK1 := va_K.moved hvm.symm hK1
  obtain ⟨hP, hD⟩ := va_join (wr := [(l3, .inr (0, [.int 0, .ref z.1, .int 0]))]) (w1 := [(h0, .inr (14, [.ref l1, .ref l2, .ref l3, .ref l4, .ref l5, .ref l6, .ref l7, .ref l8, .ref l9, .ref ce, .null, .int 0, .int 0, .int 1, .int 0, .int 0, .int 0, .int 0, .int 0, .int 0, .int 0, .int 0, .int 0, .long 0, .ref y1, .ref y2, .ref y3, .ref y4, .ref y5, .int 0, .int 0]))]) hP hD [0] [1] rfl rfl (by decide) (by decide) hk1 hFc hP1 hD1
  have hK := hK.app hK1
  generalize H1 = H at hP hS ⊢
  have hP : va_P (dC, dI) pcl [(l3, .inr (0, [.int 0, .ref z.1, .int 0])), (h0, .inr (14, [.ref l1, .ref l2, .ref l3, .ref l4, .ref l5, .ref l6, .ref l7, .ref l8, .ref l9, .ref ce, .null, .int 0, .int 0, .int 1, .int 0, .int 0, .int 0, .int 0, .int 0, .int 0, .int 0, .int 0, .int 0, .long 0, .ref y1, .ref y2, .ref y3, .ref y4, .ref y5, .int 0, .int 0]))] H := hP
  have hD : va_D A [(l3, .inr (0, [.int 0, .ref z.1, .int 0])), (h0, .inr (14, [.ref l1, .ref l2, .ref l3, .ref l4, .ref l5, .ref l6, .ref l7, .ref l8, .ref l9, .ref ce, .null, .int 0, .int 0, .int 1, .int 0, .int 0, .int 0, .int 0, .int 0, .int 0, .int 0, .int 0, .int 0, .long 0, .ref y1, .ref y2, .ref y3, .ref y4, .ref y5, .int 0, .int 0]))] := hD
  have hK : va_K (dC, dI) pcl [] s := hK
  subst hw
  have hP9 := hP.sub (ws' := [(h0, .inr (14, [.ref l1, .ref l2, .ref l3, .ref l4, .ref l5, .ref l6, .ref l7, .ref l8, .ref l9, .ref ce, .null, .int 0, .int 0, .int 1, .int 0, .int 0, .int 0, .int 0, .int 0, .int 0, .int 0, .int 0, .int 0, .long 0, .ref y1, .ref y2, .ref y3, .ref y4, .ref y5, .int 0, .int 0]))]) [1] rfl
  have hD9 := hD.sub (ws' := [(h0, .inr (14, [.ref l1, .ref l2, .ref l3, .ref l4, .ref l5, .ref l6, .ref l7, .ref l8, .ref l9, .ref ce, .null, .int 0, .int 0, .int 1, .int 0, .int 0, .int 0, .int 0, .int 0, .int 0, .int 0, .int 0, .int 0, .long 0, .ref y1, .ref y2, .ref y3, .ref y4, .ref y5, .int 0, .int 0]))]) [1] (by decide) rfl
  have hK9 := hK.sub (tys' := []) [] rfl
  refine W.widen (k := 0) (n := 0) (Nat.le_of_ble_eq_true rfl) (Nat.le_of_ble_eq_true rfl) ?_
  exact W.iret (v := 0) hx hb hr (fun t ht hW => ⟨⟨0, (), rfl, rfl, by rw [ht]; exact hP9, va_K.moved hW.alike hK9, hD9⟩, hS.F ht⟩) hS.2.2 dX17_at_34
set_option maxHeartbeats 4000000 in
set_option maxRecDepth 100000 in
theorem c_X17_outAt (l : Launch) (dC : Nat → ClassId) (dI : Nat → Nat → Nat) (z : pG) (h0 : Nat) (l1 : Nat) (l2 : Nat) (l3 : Nat) (l4 : Nat) (l5 : Nat) (l6 : Nat) (l7 : Nat) (l8 : Nat) (l9 : Nat) (ce : Nat) (y1 : Nat) (y2 : Nat) (y3 : Nat) (y4 : Nat) (y5 : Nat) (n : Int32) (sz : Nat) : Met l yX17_outAt (ws_ yX17_outAt cX17_outAt 2 (some .int)) ({ frames := 1, cells := 0, slots := 0, locals := 22 }) (va_Pc [.ref h0, .int n] (pPre z dC dI [(h0, .inr (14, [.ref l1, .ref l2, .ref l3, .ref l4, .ref l5, .ref l6, .ref l7, .ref l8, .ref l9, .ref ce, .null, .int 0, .int 0, .int 0, .int 0, .int 0, .int 0, .int 0, .int 0, .int 0, .int 0, .int 0, .int 0, .long 0, .ref y1, .ref y2, .ref y3, .ref y4, .ref y5, .int 0, .int 0])), (l5, .inr (0, [.int 0, .ref z.1, .int 0]))] [] sz)) (va_Qi (fun (r : Int32) (_ : Unit) => r = 0) (fun _ t => pPost dC dI (va_A [(h0, .inr (14, [.ref l1, .ref l2, .ref l3, .ref l4, .ref l5, .ref l6, .ref l7, .ref l8, .ref l9, .ref ce, .null, .int 0, .int 0, .int 0, .int 0, .int 0, .int 0, .int 0, .int 0, .int 0, .int 0, .int 0, .int 0, .long 0, .ref y1, .ref y2, .ref y3, .ref y4, .ref y5, .int 0, .int 0])), (l5, .inr (0, [.int 0, .ref z.1, .int 0]))] sz) [(h0, .inr (14, [.ref l1, .ref l2, .ref l3, .ref l4, .ref l5, .ref l6, .ref l7, .ref l8, .ref l9, .ref ce, .null, .int 0, .int 0, .int 1, .int 0, .int 0, .int 0, .int 0, .int 0, .int 0, .int 0, .int 0, .int 0, .long 0, .ref y1, .ref y2, .ref y3, .ref y4, .ref y5, .int 0, .int 0]))] [] t) (va_A [(h0, .inr (14, [.ref l1, .ref l2, .ref l3, .ref l4, .ref l5, .ref l6, .ref l7, .ref l8, .ref l9, .ref ce, .null, .int 0, .int 0, .int 0, .int 0, .int 0, .int 0, .int 0, .int 0, .int 0, .int 0, .int 0, .int 0, .long 0, .ref y1, .ref y2, .ref y3, .ref y4, .ref y5, .int 0, .int 0])), (l5, .inr (0, [.int 0, .ref z.1, .int 0]))] sz)) 0 0 (va_A [(h0, .inr (14, [.ref l1, .ref l2, .ref l3, .ref l4, .ref l5, .ref l6, .ref l7, .ref l8, .ref l9, .ref ce, .null, .int 0, .int 0, .int 0, .int 0, .int 0, .int 0, .int 0, .int 0, .int 0, .int 0, .int 0, .int 0, .long 0, .ref y1, .ref y2, .ref y3, .ref y4, .ref y5, .int 0, .int 0])), (l5, .inr (0, [.int 0, .ref z.1, .int 0]))] sz) := by
  refine Met.ofW (cc := cX17_outAt) (maxL := 2) (ret := (some .int)) (by decide) rfl ?_
  intro p e s m args below meth c s₁ B hml hv
  obtain ⟨rfl, hsz, hP, hK, hD0, hE⟩ := hv
  have hx := B.exec
  have hb := B.bytes
  have hr := B.returns
  have hts0 := atoms_spec (ws := ws_ yX17_outAt cX17_outAt 2 (some .int)) B.pre
  have hts := fun (w : Cond) (h : w ∈ pw) => hts0 w (List.mem_cons_of_mem _ h)
  have hown : s.vm.findClass RX17 = some m.cls := findClass_of_methodNamed B.named
  have hlocks := B.notSynchronized
  subst hsz
  have hD := hD0.self (sz := s.heap.size)
  generalize hAe : va_A [(h0, .inr (14, [.ref l1, .ref l2, .ref l3, .ref l4, .ref l5, .ref l6, .ref l7, .ref l8, .ref l9, .ref ce, .null, .int 0, .int 0, .int 0, .int 0, .int 0, .int 0, .int 0, .int 0, .int 0, .int 0, .int 0, .int 0, .long 0, .ref y1, .ref y2, .ref y3, .ref y4, .ref y5, .int 0, .int 0])), (l5, .inr (0, [.int 0, .ref z.1, .int 0]))] s.heap.size = A at hD hE ⊢
  have hA : ∀ q : Nat, s.heap.size ≤ q → A q := fun q h => by rw [← hAe]; exact Or.inr h
  have hS : va_S A s.heap s.heap [] := va_S.rf
  have hN := hE.1
  have hP : va_P (dC, dI) pcl [(h0, .inr (14, [.ref l1, .ref l2, .ref l3, .ref l4, .ref l5, .ref l6, .ref l7, .ref l8, .ref l9, .ref ce, .null, .int 0, .int 0, .int 0, .int 0, .int 0, .int 0, .int 0, .int 0, .int 0, .int 0, .int 0, .int 0, .long 0, .ref y1, .ref y2, .ref y3, .ref y4, .ref y5, .int 0, .int 0])), (l5, .inr (0, [.int 0, .ref z.1, .int 0]))] s.heap := hP
  have hl := lv_entry ([.ref h0, .int n]) (n := 2) (Nat.le_of_ble_eq_true rfl)
  rw [lg_entry_eq]
  generalize (lg_sl ([.ref h0, .int n]) ++ List.replicate (2 - (lg_sl ([.ref h0, .int n])).length) Slot.unset).toArray = ls at hl ⊢
  have hl : lv_has ls 2 [(0, .ref h0), (1, .int n)] := hl
  obtain ⟨H, hH0⟩ : ∃ H, H = s.heap := ⟨_, rfl⟩
  rw [← hH0] at hP ⊢
  have hS : va_S A s.heap H [] := by rw [hH0]; exact hS
  refine lv_iload_n hx hb dX17_outAt_0 rfl (lv_at hl 1 rfl) ?_
  refine lv_iconst (v := 0) hx hb dX17_outAt_1 (by decide) ?_
  refine lv_aload_n hx hb dX17_outAt_2 rfl (lv_at hl 0 rfl) ?_
  refine va_get (D := (dC, dI)) (ci := 14) (v := .ref l5) (C := RX17) (T := TX17) (N := 31) hx hb hts pinX17 hown hK hP 0 rfl rfl 4 (by decide) (hts _ e193) (fun _ h9 => h9) rfl dX17_outAt_3 ?_
  have hPc := hP.sub (ws' := [(l5, .inr (0, [.int 0, .ref z.1, .int 0]))]) [1] rfl
  have hDc := hD.sub (ws' := [(l5, .inr (0, [.int 0, .ref z.1, .int 0]))]) [1] (by decide) rfl
  have hKc := hK.sub (tys' := []) [] rfl
  have hFc := va_free (wc := [(l5, .inr (0, [.int 0, .ref z.1, .int 0]))]) hD hS hA [1] rfl
  refine va_calli (va_runV (As := []) (rest := [.int 0, .int n]) ⟨hx, hb, hml, hown, hts⟩ (c_Jx4a65c_size_8abf5 l dC dI z l5 0 z.1 0 H.size) (cwV 0 hts (ws_goodV e205 e206 e208 e185 e207) rfl rfl rfl ⟨rfl, by decide +kernel, by decide +kernel, by decide +kernel⟩ ⟨Nat.le_of_ble_eq_true rfl, Nat.le_of_ble_eq_true rfl⟩) ⟨pPre_blind, va_recv hKc hPc (ci := 0) (q0 := 0) rfl rfl, fun U hU hW => ⟨rfl, pPre_at hPc hKc hDc hE hS hFc U hU hW⟩⟩ rfl rfl hl.1 rfl (lv_room (Nat.le_of_ble_eq_true rfl)) dX17_outAt_6 ⟨Nat.le_of_ble_eq_true rfl, Nat.le_of_ble_eq_true rfl⟩) hS (fun q _ h => hFc q h) hFc (fun r1 u2 t H1 locs ht hvm hw hB hz1 hk1 hS => ?_)
  obtain ⟨hP1, hK1, hD1⟩ := hB
  rw [ht] at hP1
  have hK1 := va_K.moved hvm.symm hK1
  obtain ⟨hP, hD⟩ := va_join (wr := [(h0, .inr (14, [.ref l1, .ref l2, .ref l3, .ref l4, .ref l5, .ref l6, .ref l7, .ref l8, .ref l9, .ref ce, .null, .int 0, .int 0, .int 0, .int 0, .int 0, .int 0, .int 0, .int 0, .int 0, .int 0, .int 0, .int 0, .long 0, .ref y1, .ref y2, .ref y3, .ref y4, .ref y5, .int 0, .int 0]))]) (w1 := [(l5, .inr (0, [.int 0, .ref z.1, .int 0]))]) hP hD [1] [0] rfl rfl (by decide) (by decide) hk1 hFc hP1 hD1
  have hK := hK.app hK1
  generalize H1 = H at hP hS ⊢
  have hP : va_P (dC, dI) pcl [(h0, .inr (14, [.ref l1, .ref l2, .ref l3, .ref l4, .ref l5, .ref l6, .ref l7, .ref l8, .ref l9, .ref ce, .null, .int 0, .int 0, .int 0, .int 0, .int 0, .int 0, .int 0, .int 0, .int 0, .int 0, .int 0, .int 0, .long 0, .ref y1, .ref y2, .ref y3, .ref y4, .ref y5, .int 0, .int 0])), (l5, .inr (0, [.int 0, .ref z.1, .int 0]))] H := hP
  have hD : va_D A [(h0, .inr (14, [.ref l1, .ref l2, .ref l3, .ref l4, .ref l5, .ref l6, .ref l7, .ref l8, .ref l9, .ref ce, .null, .int 0, .int 0, .int 0, .int 0, .int 0, .int 0, .int 0, .int 0, .int 0, .int 0, .int 0, .int 0, .long 0, .ref y1, .ref y2, .ref y3, .ref y4, .ref y5, .int 0, .int 0])), (l5, .inr (0, [.int 0, .ref z.1, .int 0]))] := hD
  have hK : va_K (dC, dI) pcl [] s := hK
  subst hw
  refine lv_iconst (v := 1) hx hb dX17_outAt_9 (by decide) ?_
  refine lv_isub hx hb dX17_outAt_10 ?_
  refine W.eq (g2 := F0 m 11 ls [.int (-1), .int 0, .int n]) (by rfl) ?_
  have hPc := hP.sub (ws' := []) [] rfl
  have hDc := hD.sub (ws' := []) [] (by decide) rfl
  have hKc := hK.sub (tys' := []) [] rfl
  have hFc := va_free (wc := []) hD hS hA [] rfl
  refine va_calli (va_runS (As := [.int n, .int 0, .int (-1)]) (rest := []) ⟨hx, hb, hml, hown, hts⟩ (c_X17_inE l dC dI z n H.size) (va_cwS 3 hts (ws_goodS e238 e239 e212 e240) rfl rfl rfl ⟨by decide +kernel, by decide +kernel, by decide +kernel⟩ ⟨Nat.le_of_ble_eq_true rfl, Nat.le_of_ble_eq_true rfl⟩) ⟨pPre_blind, fun U hU hW => ⟨rfl, pPre_at hPc hKc hDc hE hS hFc U hU hW⟩⟩ rfl rfl hl.1 rfl (lv_room (Nat.le_of_ble_eq_true rfl)) dX17_outAt_11 ⟨Nat.le_of_ble_eq_true rfl, Nat.le_of_ble_eq_true rfl⟩) hS (fun q _ h => hFc q h) hFc (fun r3 u4 t H1 locs ht hvm hw hB hz1 hk1 hS => ?_)
  obtain ⟨hP1, hK1, hD1⟩ := hB
  rw [ht] at hP1
  have hK1 := va_K.moved hvm.symm hK1
  obtain ⟨hP, hD⟩ := va_join (wr := [(h0, .inr (14, [.ref l1, .ref l2, .ref l3, .ref l4, .ref l5, .ref l6, .ref l7, .ref l8, .ref l9, .ref ce, .null, .int 0, .int 0, .int 0, .int 0, .int 0, .int 0, .int 0, .int 0, .int 0, .int 0, .int 0, .int 0, .long 0, .ref y1, .ref y2, .ref y3, .ref y4, .ref y5, .int 0, .int 0])), (l5, .inr (0, [.int 0, .ref z.1, .int 0]))]) (w1 := []) hP hD [] [0, 1] rfl rfl (by decide) (by decide) hk1 hFc hP1 hD1
  have hK := hK.app hK1
  generalize H1 = H at hP hS ⊢
  have hP : va_P (dC, dI) pcl [(h0, .inr (14, [.ref l1, .ref l2, .ref l3, .ref l4, .ref l5, .ref l6, .ref l7, .ref l8, .ref l9, .ref ce, .null, .int 0, .int 0, .int 0, .int 0, .int 0, .int 0, .int 0, .int 0, .int 0, .int 0, .int 0, .int 0, .long 0, .ref y1, .ref y2, .ref y3, .ref y4, .ref y5, .int 0, .int 0])), (l5, .inr (0, [.int 0, .ref z.1, .int 0]))] H := hP
  have hD : va_D A [(h0, .inr (14, [.ref l1, .ref l2, .ref l3, .ref l4, .ref l5, .ref l6, .ref l7, .ref l8, .ref l9, .ref ce, .null, .int 0, .int 0, .int 0, .int 0, .int 0, .int 0, .int 0, .int 0, .int 0, .int 0, .int 0, .int 0, .long 0, .ref y1, .ref y2, .ref y3, .ref y4, .ref y5, .int 0, .int 0])), (l5, .inr (0, [.int 0, .ref z.1, .int 0]))] := hD
  have hK : va_K (dC, dI) pcl [] s := hK
  subst hw
  refine lv_if_eq (tgt := 38) hx hb dX17_outAt_14 (by decide) (fun _ => ?_) (fun h9 => absurd (by decide) h9)
  refine lv_aload_n hx hb dX17_outAt_38 rfl (lv_at hl 0 rfl) ?_
  refine lv_iconst (v := 1) hx hb dX17_outAt_39 (by decide) ?_
  have hPc := hP.sub (ws' := [(h0, .inr (14, [.ref l1, .ref l2, .ref l3, .ref l4, .ref l5, .ref l6, .ref l7, .ref l8, .ref l9, .ref ce, .null, .int 0, .int 0, .int 0, .int 0, .int 0, .int 0, .int 0, .int 0, .int 0, .int 0, .int 0, .int 0, .long 0, .ref y1, .ref y2, .ref y3, .ref y4, .ref y5, .int 0, .int 0]))]) [0] rfl
  have hDc := hD.sub (ws' := [(h0, .inr (14, [.ref l1, .ref l2, .ref l3, .ref l4, .ref l5, .ref l6, .ref l7, .ref l8, .ref l9, .ref ce, .null, .int 0, .int 0, .int 0, .int 0, .int 0, .int 0, .int 0, .int 0, .int 0, .int 0, .int 0, .int 0, .long 0, .ref y1, .ref y2, .ref y3, .ref y4, .ref y5, .int 0, .int 0]))]) [0] (by decide) rfl
  have hKc := hK.sub (tys' := []) [] rfl
  have hFc := va_free (wc := [(h0, .inr (14, [.ref l1, .ref l2, .ref l3, .ref l4, .ref l5, .ref l6, .ref l7, .ref l8, .ref l9, .ref ce, .null, .int 0, .int 0, .int 0, .int 0, .int 0, .int 0, .int 0, .int 0, .int 0, .int 0, .int 0, .int 0, .long 0, .ref y1, .ref y2, .ref y3, .ref y4, .ref y5, .int 0, .int 0]))]) hD hS hA [0] rfl
  refine va_calli (va_runV (As := [.int 1]) (rest := []) ⟨hx, hb, hml, hown, hts⟩ (c_X17_fails l dC dI z h0 l1 l2 l3 l4 l5 l6 l7 l8 l9 ce y1 y2 y3 y4 y5 1 H.size) (cwV 1 hts (ws_goodV e215 e216 e218 e212 e217) rfl rfl rfl ⟨rfl, by decide +kernel, by decide +kernel, by decide +kernel⟩ ⟨Nat.le_of_ble_eq_true rfl, Nat.le_of_ble_eq_true rfl⟩) ⟨pPre_blind, va_recv hKc hPc (ci := 14) (q0 := 0) rfl rfl, fun U hU hW => ⟨rfl, pPre_at hPc hKc hDc hE hS hFc U hU hW⟩⟩ rfl rfl hl.1 rfl (lv_room (Nat.le_of_ble_eq_true rfl)) dX17_outAt_40 ⟨Nat.le_of_ble_eq_true rfl, Nat.le_of_ble_eq_true rfl⟩) hS (fun q _ h => hFc q h) hFc (fun r5 u6 t H1 locs ht hvm hw hB hz1 hk1 hS => ?_)
  obtain ⟨hP1, hK1, hD1⟩ := hB
  rw [ht] at hP1
  have hK1 := va_K.moved hvm.symm hK1
  obtain ⟨hP, hD⟩ := va_join (wr := [(l5, .inr (0, [.int 0, .ref z.1, .int 0]))]) (w1 := [(h0, .inr (14, [.ref l1, .ref l2, .ref l3, .ref l4, .ref l5, .ref l6, .ref l7, .ref l8, .ref l9, .ref ce, .null, .int 0, .int 0, .int 1, .int 0, .int 0, .int 0, .int 0, .int 0, .int 0, .int 0, .int 0, .int 0, .long 0, .ref y1, .ref y2, .ref y3, .ref y4, .ref y5, .int 0, .int 0]))]) hP hD [0] [1] rfl rfl (by decide) (by decide) hk1 hFc hP1 hD1
  have hK := hK.app hK1
  generalize H1 = H at hP hS ⊢
  have hP : va_P (dC, dI) pcl [(l5, .inr (0, [.int 0, .ref z.1, .int 0])), (h0, .inr (14, [.ref l1, .ref l2, .ref l3, .ref l4, .ref l5, .ref l6, .ref l7, .ref l8, .ref l9, .ref ce, .null, .int 0, .int 0, .int 1, .int 0, .int 0, .int 0, .int 0, .int 0, .int 0, .int 0, .int 0, .int 0, .long 0, .ref y1, .ref y2, .ref y3, .ref y4, .ref y5, .int 0, .int 0]))] H := hP
  have hD : va_D A [(l5, .inr (0, [.int 0, .ref z.1, .int 0])), (h0, .inr (14, [.ref l1, .ref l2, .ref l3, .ref l4, .ref l5, .ref l6, .ref l7, .ref l8, .ref l9, .ref ce, .null, .int 0, .int 0, .int 1, .int 0, .int 0, .int 0, .int 0, .int 0, .int 0, .int 0, .int 0, .int 0, .long 0, .ref y1, .ref y2, .ref y3, .ref y4, .ref y5, .int 0, .int 0]))] := hD
  have hK : va_K (dC, dI) pcl [] s := hK
  subst hw
  have hP9 := hP.sub (ws' := [(h0, .inr (14, [.ref l1, .ref l2, .ref l3, .ref l4, .ref l5, .ref l6, .ref l7, .ref l8, .ref l9, .ref ce, .null, .int 0, .int 0, .int 1, .int 0, .int 0, .int 0, .int 0, .int 0, .int 0, .int 0, .int 0, .int 0, .long 0, .ref y1, .ref y2, .ref y3, .ref y4, .ref y5, .int 0, .int 0]))]) [1] rfl
  have hD9 := hD.sub (ws' := [(h0, .inr (14, [.ref l1, .ref l2, .ref l3, .ref l4, .ref l5, .ref l6, .ref l7, .ref l8, .ref l9, .ref ce, .null, .int 0, .int 0, .int 1, .int 0, .int 0, .int 0, .int 0, .int 0, .int 0, .int 0, .int 0, .int 0, .long 0, .ref y1, .ref y2, .ref y3, .ref y4, .ref y5, .int 0, .int 0]))]) [1] (by decide) rfl
  have hK9 := hK.sub (tys' := []) [] rfl
  refine W.widen (k := 0) (n := 0) (Nat.le_of_ble_eq_true rfl) (Nat.le_of_ble_eq_true rfl) ?_
  exact W.iret (v := 0) hx hb hr (fun t ht hW => ⟨⟨0, (), rfl, rfl, by rw [ht]; exact hP9, va_K.moved hW.alike hK9, hD9⟩, hS.F ht⟩) hS.2.2 dX17_outAt_43
set_option maxHeartbeats 4000000 in
set_option maxRecDepth 100000 in
theorem c_X17_nameOf (l : Launch) (dC : Nat → ClassId) (dI : Nat → Nat → Nat) (z : pG) (h0 : Nat) (l1 : Nat) (l2 : Nat) (l3 : Nat) (l4 : Nat) (l5 : Nat) (l6 : Nat) (l7 : Nat) (l8 : Nat) (l9 : Nat) (ce : Nat) (y1 : Nat) (y2 : Nat) (y3 : Nat) (y4 : Nat) (y5 : Nat) (n : Int32) (sz : Nat) : Met l yX17_nameOf (ws_ yX17_nameOf cX17_nameOf 2 (some .int)) ({ frames := 2, cells := 0, slots := 0, locals := 43 }) (va_Pc [.ref h0, .int n] (pPre z dC dI [(h0, .inr (14, [.ref l1, .ref l2, .ref l3, .ref l4, .ref l5, .ref l6, .ref l7, .ref l8, .ref l9, .ref ce, .null, .int 0, .int 0, .int 0, .int 0, .int 0, .int 0, .int 0, .int 0, .int 0, .int 0, .int 0, .int 0, .long 0, .ref y1, .ref y2, .ref y3, .ref y4, .ref y5, .int 0, .int 0])), (l2, .inr (0, [.int 0, .ref z.1, .int 0]))] [] sz)) (va_Qi (fun (r : Int32) (_ : Unit) => r = 0) (fun _ t => pPost dC dI (va_A [(h0, .inr (14, [.ref l1, .ref l2, .ref l3, .ref l4, .ref l5, .ref l6, .ref l7, .ref l8, .ref l9, .ref ce, .null, .int 0, .int 0, .int 0, .int 0, .int 0, .int 0, .int 0, .int 0, .int 0, .int 0, .int 0, .int 0, .long 0, .ref y1, .ref y2, .ref y3, .ref y4, .ref y5, .int 0, .int 0])), (l2, .inr (0, [.int 0, .ref z.1, .int 0]))] sz) [(h0, .inr (14, [.ref l1, .ref l2, .ref l3, .ref l4, .ref l5, .ref l6, .ref l7, .ref l8, .ref l9, .ref ce, .null, .int 0, .int 0, .int 1, .int 0, .int 0, .int 0, .int 0, .int 0, .int 0, .int 0, .int 0, .int 0, .long 0, .ref y1, .ref y2, .ref y3, .ref y4, .ref y5, .int 0, .int 0]))] [] t) (va_A [(h0, .inr (14, [.ref l1, .ref l2, .ref l3, .ref l4, .ref l5, .ref l6, .ref l7, .ref l8, .ref l9, .ref ce, .null, .int 0, .int 0, .int 0, .int 0, .int 0, .int 0, .int 0, .int 0, .int 0, .int 0, .int 0, .int 0, .long 0, .ref y1, .ref y2, .ref y3, .ref y4, .ref y5, .int 0, .int 0])), (l2, .inr (0, [.int 0, .ref z.1, .int 0]))] sz)) 0 0 (va_A [(h0, .inr (14, [.ref l1, .ref l2, .ref l3, .ref l4, .ref l5, .ref l6, .ref l7, .ref l8, .ref l9, .ref ce, .null, .int 0, .int 0, .int 0, .int 0, .int 0, .int 0, .int 0, .int 0, .int 0, .int 0, .int 0, .int 0, .long 0, .ref y1, .ref y2, .ref y3, .ref y4, .ref y5, .int 0, .int 0])), (l2, .inr (0, [.int 0, .ref z.1, .int 0]))] sz) := by
  refine Met.ofW (cc := cX17_nameOf) (maxL := 2) (ret := (some .int)) (by decide) rfl ?_
  intro p e s m args below meth c s₁ B hml hv
  obtain ⟨rfl, hsz, hP, hK, hD0, hE⟩ := hv
  have hx := B.exec
  have hb := B.bytes
  have hr := B.returns
  have hts0 := atoms_spec (ws := ws_ yX17_nameOf cX17_nameOf 2 (some .int)) B.pre
  have hts := fun (w : Cond) (h : w ∈ pw) => hts0 w (List.mem_cons_of_mem _ h)
  have hown : s.vm.findClass RX17 = some m.cls := findClass_of_methodNamed B.named
  have hlocks := B.notSynchronized
  subst hsz
  have hD := hD0.self (sz := s.heap.size)
  generalize hAe : va_A [(h0, .inr (14, [.ref l1, .ref l2, .ref l3, .ref l4, .ref l5, .ref l6, .ref l7, .ref l8, .ref l9, .ref ce, .null, .int 0, .int 0, .int 0, .int 0, .int 0, .int 0, .int 0, .int 0, .int 0, .int 0, .int 0, .int 0, .long 0, .ref y1, .ref y2, .ref y3, .ref y4, .ref y5, .int 0, .int 0])), (l2, .inr (0, [.int 0, .ref z.1, .int 0]))] s.heap.size = A at hD hE ⊢
  have hA : ∀ q : Nat, s.heap.size ≤ q → A q := fun q h => by rw [← hAe]; exact Or.inr h
  have hS : va_S A s.heap s.heap [] := va_S.rf
  have hN := hE.1
  have hP : va_P (dC, dI) pcl [(h0, .inr (14, [.ref l1, .ref l2, .ref l3, .ref l4, .ref l5, .ref l6, .ref l7, .ref l8, .ref l9, .ref ce, .null, .int 0, .int 0, .int 0, .int 0, .int 0, .int 0, .int 0, .int 0, .int 0, .int 0, .int 0, .int 0, .long 0, .ref y1, .ref y2, .ref y3, .ref y4, .ref y5, .int 0, .int 0])), (l2, .inr (0, [.int 0, .ref z.1, .int 0]))] s.heap := hP
  have hl := lv_entry ([.ref h0, .int n]) (n := 2) (Nat.le_of_ble_eq_true rfl)
  rw [lg_entry_eq]
  generalize (lg_sl ([.ref h0, .int n]) ++ List.replicate (2 - (lg_sl ([.ref h0, .int n])).length) Slot.unset).toArray = ls at hl ⊢
  have hl : lv_has ls 2 [(0, .ref h0), (1, .int n)] := hl
  obtain ⟨H, hH0⟩ : ∃ H, H = s.heap := ⟨_, rfl⟩
  rw [← hH0] at hP ⊢
  have hS : va_S A s.heap H [] := by rw [hH0]; exact hS
  refine lv_aload_n hx hb dX17_nameOf_0 rfl (lv_at hl 0 rfl) ?_
  refine lv_iload_n hx hb dX17_nameOf_1 rfl (lv_at hl 1 rfl) ?_
  have hPc := hP.sub (ws' := [(h0, .inr (14, [.ref l1, .ref l2, .ref l3, .ref l4, .ref l5, .ref l6, .ref l7, .ref l8, .ref l9, .ref ce, .null, .int 0, .int 0, .int 0, .int 0, .int 0, .int 0, .int 0, .int 0, .int 0, .int 0, .int 0, .int 0, .long 0, .ref y1, .ref y2, .ref y3, .ref y4, .ref y5, .int 0, .int 0])), (l2, .inr (0, [.int 0, .ref z.1, .int 0]))]) [0, 1] rfl
  have hDc := hD.sub (ws' := [(h0, .inr (14, [.ref l1, .ref l2, .ref l3, .ref l4, .ref l5, .ref l6, .ref l7, .ref l8, .ref l9, .ref ce, .null, .int 0, .int 0, .int 0, .int 0, .int 0, .int 0, .int 0, .int 0, .int 0, .int 0, .int 0, .int 0, .long 0, .ref y1, .ref y2, .ref y3, .ref y4, .ref y5, .int 0, .int 0])), (l2, .inr (0, [.int 0, .ref z.1, .int 0]))]) [0, 1] (by decide) rfl
  have hKc := hK.sub (tys' := []) [] rfl
  have hFc := va_free (wc := [(h0, .inr (14, [.ref l1, .ref l2, .ref l3, .ref l4, .ref l5, .ref l6, .ref l7, .ref l8, .ref l9, .ref ce, .null, .int 0, .int 0, .int 0, .int 0, .int 0, .int 0, .int 0, .int 0, .int 0, .int 0, .int 0, .int 0, .long 0, .ref y1, .ref y2, .ref y3, .ref y4, .ref y5, .int 0, .int 0])), (l2, .inr (0, [.int 0, .ref z.1, .int 0]))]) hD hS hA [0, 1] rfl
  refine va_calli (va_runV (As := [.int n]) (rest := []) ⟨hx, hb, hml, hown, hts⟩ (c_X17_isEntry l dC dI z h0 l1 l2 l3 l4 l5 l6 l7 l8 l9 ce y1 y2 y3 y4 y5 n H.size) (cwV 1 hts (ws_goodV e253 e254 e256 e212 e255) rfl rfl rfl ⟨rfl, by decide +kernel, by decide +kernel, by decide +kernel⟩ ⟨Nat.le_of_ble_eq_true rfl, Nat.le_of_ble_eq_true rfl⟩) ⟨pPre_blind, va_recv hKc hPc (ci := 14) (q0 := 0) rfl rfl, fun U hU hW => ⟨rfl, pPre_at hPc hKc hDc hE hS hFc U hU hW⟩⟩ rfl rfl hl.1 rfl (lv_room (Nat.le_of_ble_eq_true rfl)) dX17_nameOf_2 ⟨Nat.le_of_ble_eq_true rfl, Nat.le_of_ble_eq_true rfl⟩) hS (fun q _ h => hFc q h) hFc (fun r1 u2 t H1 locs ht hvm hw hB hz1 hk1 hS => ?_)
  obtain ⟨hP1, hK1, hD1⟩ := hB
  rw [ht] at hP1
  have hK1 := va_K.moved hvm.symm hK1
  obtain ⟨hP, hD⟩ := va_join (wr := []) (w1 := [(h0, .inr (14, [.ref l1, .ref l2, .ref l3, .ref l4, .ref l5, .ref l6, .ref l7, .ref l8, .ref l9, .ref ce, .null, .int 0, .int 0, .int 1, .int 0, .int 0, .int 0, .int 0, .int 0, .int 0, .int 0, .int 0, .int 0, .long 0, .ref y1, .ref y2, .ref y3, .ref y4, .ref y5, .int 0, .int 0]))]) hP hD [0, 1] [] rfl rfl (by decide) (by decide) hk1 hFc hP1 hD1
  have hK := hK.app hK1
  generalize H1 = H at hP hS ⊢
  have hP : va_P (dC, dI) pcl [(h0, .inr (14, [.ref l1, .ref l2, .ref l3, .ref l4, .ref l5, .ref l6, .ref l7, .ref l8, .ref l9, .ref ce, .null, .int 0, .int 0, .int 1, .int 0, .int 0, .int 0, .int 0, .int 0, .int 0, .int 0, .int 0, .int 0, .long 0, .ref y1, .ref y2, .ref y3, .ref y4, .ref y5, .int 0, .int 0]))] H := hP
  have hD : va_D A [(h0, .inr (14, [.ref l1, .ref l2, .ref l3, .ref l4, .ref l5, .ref l6, .ref l7, .ref l8, .ref l9, .ref ce, .null, .int 0, .int 0, .int 1, .int 0, .int 0, .int 0, .int 0, .int 0, .int 0, .int 0, .int 0, .int 0, .long 0, .ref y1, .ref y2, .ref y3, .ref y4, .ref y5, .int 0, .int 0]))] := hD
  have hK : va_K (dC, dI) pcl [] s := hK
  subst hw
  refine lv_if_eq (tgt := 25) hx hb dX17_nameOf_5 (by decide) (fun _ => ?_) (fun h9 => absurd (by decide) h9)
  refine lv_iconst (v := 0) hx hb dX17_nameOf_25 (by decide) ?_
  have hP9 := hP.sub (ws' := [(h0, .inr (14, [.ref l1, .ref l2, .ref l3, .ref l4, .ref l5, .ref l6, .ref l7, .ref l8, .ref l9, .ref ce, .null, .int 0, .int 0, .int 1, .int 0, .int 0, .int 0, .int 0, .int 0, .int 0, .int 0, .int 0, .int 0, .long 0, .ref y1, .ref y2, .ref y3, .ref y4, .ref y5, .int 0, .int 0]))]) [0] rfl
  have hD9 := hD.sub (ws' := [(h0, .inr (14, [.ref l1, .ref l2, .ref l3, .ref l4, .ref l5, .ref l6, .ref l7, .ref l8, .ref l9, .ref ce, .null, .int 0, .int 0, .int 1, .int 0, .int 0, .int 0, .int 0, .int 0, .int 0, .int 0, .int 0, .int 0, .long 0, .ref y1, .ref y2, .ref y3, .ref y4, .ref y5, .int 0, .int 0]))]) [0] (by decide) rfl
  have hK9 := hK.sub (tys' := []) [] rfl
  refine W.widen (k := 0) (n := 0) (Nat.le_of_ble_eq_true rfl) (Nat.le_of_ble_eq_true rfl) ?_
  exact W.iret (v := 0) hx hb hr (fun t ht hW => ⟨⟨0, (), rfl, rfl, by rw [ht]; exact hP9, va_K.moved hW.alike hK9, hD9⟩, hS.F ht⟩) hS.2.2 dX17_nameOf_26
set_option maxHeartbeats 4000000 in
set_option maxRecDepth 100000 in
theorem c_X17_kindOf (l : Launch) (dC : Nat → ClassId) (dI : Nat → Nat → Nat) (z : pG) (h0 : Nat) (l1 : Nat) (l2 : Nat) (l3 : Nat) (l4 : Nat) (l5 : Nat) (l6 : Nat) (l7 : Nat) (l8 : Nat) (l9 : Nat) (ce : Nat) (y1 : Nat) (y2 : Nat) (y3 : Nat) (y4 : Nat) (y5 : Nat) (n : Int32) (sz : Nat) : Met l yX17_kindOf (ws_ yX17_kindOf cX17_kindOf 2 (some .char)) ({ frames := 2, cells := 0, slots := 0, locals := 43 }) (va_Pc [.ref h0, .int n] (pPre z dC dI [(h0, .inr (14, [.ref l1, .ref l2, .ref l3, .ref l4, .ref l5, .ref l6, .ref l7, .ref l8, .ref l9, .ref ce, .null, .int 0, .int 0, .int 0, .int 0, .int 0, .int 0, .int 0, .int 0, .int 0, .int 0, .int 0, .int 0, .long 0, .ref y1, .ref y2, .ref y3, .ref y4, .ref y5, .int 0, .int 0])), (l2, .inr (0, [.int 0, .ref z.1, .int 0]))] [] sz)) (va_Qi (fun (r : Int32) (_ : Unit) => r = 0) (fun _ t => pPost dC dI (va_A [(h0, .inr (14, [.ref l1, .ref l2, .ref l3, .ref l4, .ref l5, .ref l6, .ref l7, .ref l8, .ref l9, .ref ce, .null, .int 0, .int 0, .int 0, .int 0, .int 0, .int 0, .int 0, .int 0, .int 0, .int 0, .int 0, .int 0, .long 0, .ref y1, .ref y2, .ref y3, .ref y4, .ref y5, .int 0, .int 0])), (l2, .inr (0, [.int 0, .ref z.1, .int 0]))] sz) [(h0, .inr (14, [.ref l1, .ref l2, .ref l3, .ref l4, .ref l5, .ref l6, .ref l7, .ref l8, .ref l9, .ref ce, .null, .int 0, .int 0, .int 1, .int 0, .int 0, .int 0, .int 0, .int 0, .int 0, .int 0, .int 0, .int 0, .long 0, .ref y1, .ref y2, .ref y3, .ref y4, .ref y5, .int 0, .int 0]))] [] t) (va_A [(h0, .inr (14, [.ref l1, .ref l2, .ref l3, .ref l4, .ref l5, .ref l6, .ref l7, .ref l8, .ref l9, .ref ce, .null, .int 0, .int 0, .int 0, .int 0, .int 0, .int 0, .int 0, .int 0, .int 0, .int 0, .int 0, .int 0, .long 0, .ref y1, .ref y2, .ref y3, .ref y4, .ref y5, .int 0, .int 0])), (l2, .inr (0, [.int 0, .ref z.1, .int 0]))] sz)) 0 0 (va_A [(h0, .inr (14, [.ref l1, .ref l2, .ref l3, .ref l4, .ref l5, .ref l6, .ref l7, .ref l8, .ref l9, .ref ce, .null, .int 0, .int 0, .int 0, .int 0, .int 0, .int 0, .int 0, .int 0, .int 0, .int 0, .int 0, .int 0, .long 0, .ref y1, .ref y2, .ref y3, .ref y4, .ref y5, .int 0, .int 0])), (l2, .inr (0, [.int 0, .ref z.1, .int 0]))] sz) := by
  refine Met.ofW (cc := cX17_kindOf) (maxL := 2) (ret := (some .char)) (by decide) rfl ?_
  intro p e s m args below meth c s₁ B hml hv
  obtain ⟨rfl, hsz, hP, hK, hD0, hE⟩ := hv
  have hx := B.exec
  have hb := B.bytes
  have hr := B.returns
  have hts0 := atoms_spec (ws := ws_ yX17_kindOf cX17_kindOf 2 (some .char)) B.pre
  have hts := fun (w : Cond) (h : w ∈ pw) => hts0 w (List.mem_cons_of_mem _ h)
  have hown : s.vm.findClass RX17 = some m.cls := findClass_of_methodNamed B.named
  have hlocks := B.notSynchronized
  subst hsz
  have hD := hD0.self (sz := s.heap.size)
  generalize hAe : va_A [(h0, .inr (14, [.ref l1, .ref l2, .ref l3, .ref l4, .ref l5, .ref l6, .ref l7, .ref l8, .ref l9, .ref ce, .null, .int 0, .int 0, .int 0, .int 0, .int 0, .int 0, .int 0, .int 0, .int 0, .int 0, .int 0, .int 0, .long 0, .ref y1, .ref y2, .ref y3, .ref y4, .ref y5, .int 0, .int 0])), (l2, .inr (0, [.int 0, .ref z.1, .int 0]))] s.heap.size = A at hD hE ⊢
  have hA : ∀ q : Nat, s.heap.size ≤ q → A q := fun q h => by rw [← hAe]; exact Or.inr h
  have hS : va_S A s.heap s.heap [] := va_S.rf
  have hN := hE.1
  have hP : va_P (dC, dI) pcl [(h0, .inr (14, [.ref l1, .ref l2, .ref l3, .ref l4, .ref l5, .ref l6, .ref l7, .ref l8, .ref l9, .ref ce, .null, .int 0, .int 0, .int 0, .int 0, .int 0, .int 0, .int 0, .int 0, .int 0, .int 0, .int 0, .int 0, .long 0, .ref y1, .ref y2, .ref y3, .ref y4, .ref y5, .int 0, .int 0])), (l2, .inr (0, [.int 0, .ref z.1, .int 0]))] s.heap := hP
  have hl := lv_entry ([.ref h0, .int n]) (n := 2) (Nat.le_of_ble_eq_true rfl)
  rw [lg_entry_eq]
  generalize (lg_sl ([.ref h0, .int n]) ++ List.replicate (2 - (lg_sl ([.ref h0, .int n])).length) Slot.unset).toArray = ls at hl ⊢
  have hl : lv_has ls 2 [(0, .ref h0), (1, .int n)] := hl
  obtain ⟨H, hH0⟩ : ∃ H, H = s.heap := ⟨_, rfl⟩
  rw [← hH0] at hP ⊢
  have hS : va_S A s.heap H [] := by rw [hH0]; exact hS
  refine lv_aload_n hx hb dX17_kindOf_0 rfl (lv_at hl 0 rfl) ?_
  refine lv_iload_n hx hb dX17_kindOf_1 rfl (lv_at hl 1 rfl) ?_
  have hPc := hP.sub (ws' := [(h0, .inr (14, [.ref l1, .ref l2, .ref l3, .ref l4, .ref l5, .ref l6, .ref l7, .ref l8, .ref l9, .ref ce, .null, .int 0, .int 0, .int 0, .int 0, .int 0, .int 0, .int 0, .int 0, .int 0, .int 0, .int 0, .int 0, .long 0, .ref y1, .ref y2, .ref y3, .ref y4, .ref y5, .int 0, .int 0])), (l2, .inr (0, [.int 0, .ref z.1, .int 0]))]) [0, 1] rfl
  have hDc := hD.sub (ws' := [(h0, .inr (14, [.ref l1, .ref l2, .ref l3, .ref l4, .ref l5, .ref l6, .ref l7, .ref l8, .ref l9, .ref ce, .null, .int 0, .int 0, .int 0, .int 0, .int 0, .int 0, .int 0, .int 0, .int 0, .int 0, .int 0, .int 0, .long 0, .ref y1, .ref y2, .ref y3, .ref y4, .ref y5, .int 0, .int 0])), (l2, .inr (0, [.int 0, .ref z.1, .int 0]))]) [0, 1] (by decide) rfl
  have hKc := hK.sub (tys' := []) [] rfl
  have hFc := va_free (wc := [(h0, .inr (14, [.ref l1, .ref l2, .ref l3, .ref l4, .ref l5, .ref l6, .ref l7, .ref l8, .ref l9, .ref ce, .null, .int 0, .int 0, .int 0, .int 0, .int 0, .int 0, .int 0, .int 0, .int 0, .int 0, .int 0, .int 0, .long 0, .ref y1, .ref y2, .ref y3, .ref y4, .ref y5, .int 0, .int 0])), (l2, .inr (0, [.int 0, .ref z.1, .int 0]))]) hD hS hA [0, 1] rfl
  refine va_calli (va_runV (As := [.int n]) (rest := []) ⟨hx, hb, hml, hown, hts⟩ (c_X17_isEntry l dC dI z h0 l1 l2 l3 l4 l5 l6 l7 l8 l9 ce y1 y2 y3 y4 y5 n H.size) (cwV 1 hts (ws_goodV e253 e254 e256 e212 e255) rfl rfl rfl ⟨rfl, by decide +kernel, by decide +kernel, by decide +kernel⟩ ⟨Nat.le_of_ble_eq_true rfl, Nat.le_of_ble_eq_true rfl⟩) ⟨pPre_blind, va_recv hKc hPc (ci := 14) (q0 := 0) rfl rfl, fun U hU hW => ⟨rfl, pPre_at hPc hKc hDc hE hS hFc U hU hW⟩⟩ rfl rfl hl.1 rfl (lv_room (Nat.le_of_ble_eq_true rfl)) dX17_kindOf_2 ⟨Nat.le_of_ble_eq_true rfl, Nat.le_of_ble_eq_true rfl⟩) hS (fun q _ h => hFc q h) hFc (fun r1 u2 t H1 locs ht hvm hw hB hz1 hk1 hS => ?_)
  obtain ⟨hP1, hK1, hD1⟩ := hB
  rw [ht] at hP1
  have hK1 := va_K.moved hvm.symm hK1
  obtain ⟨hP, hD⟩ := va_join (wr := []) (w1 := [(h0, .inr (14, [.ref l1, .ref l2, .ref l3, .ref l4, .ref l5, .ref l6, .ref l7, .ref l8, .ref l9, .ref ce, .null, .int 0, .int 0, .int 1, .int 0, .int 0, .int 0, .int 0, .int 0, .int 0, .int 0, .int 0, .int 0, .long 0, .ref y1, .ref y2, .ref y3, .ref y4, .ref y5, .int 0, .int 0]))]) hP hD [0, 1] [] rfl rfl (by decide) (by decide) hk1 hFc hP1 hD1
  have hK := hK.app hK1
  generalize H1 = H at hP hS ⊢
  have hP : va_P (dC, dI) pcl [(h0, .inr (14, [.ref l1, .ref l2, .ref l3, .ref l4, .ref l5, .ref l6, .ref l7, .ref l8, .ref l9, .ref ce, .null, .int 0, .int 0, .int 1, .int 0, .int 0, .int 0, .int 0, .int 0, .int 0, .int 0, .int 0, .int 0, .long 0, .ref y1, .ref y2, .ref y3, .ref y4, .ref y5, .int 0, .int 0]))] H := hP
  have hD : va_D A [(h0, .inr (14, [.ref l1, .ref l2, .ref l3, .ref l4, .ref l5, .ref l6, .ref l7, .ref l8, .ref l9, .ref ce, .null, .int 0, .int 0, .int 1, .int 0, .int 0, .int 0, .int 0, .int 0, .int 0, .int 0, .int 0, .int 0, .long 0, .ref y1, .ref y2, .ref y3, .ref y4, .ref y5, .int 0, .int 0]))] := hD
  have hK : va_K (dC, dI) pcl [] s := hK
  subst hw
  refine lv_if_eq (tgt := 25) hx hb dX17_kindOf_5 (by decide) (fun _ => ?_) (fun h9 => absurd (by decide) h9)
  refine lv_iconst (v := 0) hx hb dX17_kindOf_25 (by decide) ?_
  have hP9 := hP.sub (ws' := [(h0, .inr (14, [.ref l1, .ref l2, .ref l3, .ref l4, .ref l5, .ref l6, .ref l7, .ref l8, .ref l9, .ref ce, .null, .int 0, .int 0, .int 1, .int 0, .int 0, .int 0, .int 0, .int 0, .int 0, .int 0, .int 0, .int 0, .long 0, .ref y1, .ref y2, .ref y3, .ref y4, .ref y5, .int 0, .int 0]))]) [0] rfl
  have hD9 := hD.sub (ws' := [(h0, .inr (14, [.ref l1, .ref l2, .ref l3, .ref l4, .ref l5, .ref l6, .ref l7, .ref l8, .ref l9, .ref ce, .null, .int 0, .int 0, .int 1, .int 0, .int 0, .int 0, .int 0, .int 0, .int 0, .int 0, .int 0, .int 0, .long 0, .ref y1, .ref y2, .ref y3, .ref y4, .ref y5, .int 0, .int 0]))]) [0] (by decide) rfl
  have hK9 := hK.sub (tys' := []) [] rfl
  refine W.widen (k := 0) (n := 0) (Nat.le_of_ble_eq_true rfl) (Nat.le_of_ble_eq_true rfl) ?_
  exact W.zret (v := 0) hx hb hr rfl (fun t ht hW => ⟨⟨0, (), rfl, rfl, by rw [ht]; exact hP9, va_K.moved hW.alike hK9, hD9⟩, hS.F ht⟩) hS.2.2 dX17_kindOf_26
set_option maxHeartbeats 4000000 in
set_option maxRecDepth 100000 in
theorem c_X17_isImmediate (l : Launch) (dC : Nat → ClassId) (dI : Nat → Nat → Nat) (z : pG) (h0 : Nat) (l1 : Nat) (l2 : Nat) (l3 : Nat) (l4 : Nat) (l5 : Nat) (l6 : Nat) (l7 : Nat) (l8 : Nat) (l9 : Nat) (ce : Nat) (y1 : Nat) (y2 : Nat) (y3 : Nat) (y4 : Nat) (y5 : Nat) (n : Int32) (sz : Nat) : Met l yX17_isImmediate (ws_ yX17_isImmediate cX17_isImmediate 2 (some .boolean)) ({ frames := 2, cells := 0, slots := 0, locals := 43 }) (va_Pc [.ref h0, .int n] (pPre z dC dI [(h0, .inr (14, [.ref l1, .ref l2, .ref l3, .ref l4, .ref l5, .ref l6, .ref l7, .ref l8, .ref l9, .ref ce, .null, .int 0, .int 0, .int 0, .int 0, .int 0, .int 0, .int 0, .int 0, .int 0, .int 0, .int 0, .int 0, .long 0, .ref y1, .ref y2, .ref y3, .ref y4, .ref y5, .int 0, .int 0])), (l2, .inr (0, [.int 0, .ref z.1, .int 0]))] [] sz)) (va_Qi (fun (r : Int32) (_ : Unit) => r = 0) (fun _ t => pPost dC dI (va_A [(h0, .inr (14, [.ref l1, .ref l2, .ref l3, .ref l4, .ref l5, .ref l6, .ref l7, .ref l8, .ref l9, .ref ce, .null, .int 0, .int 0, .int 0, .int 0, .int 0, .int 0, .int 0, .int 0, .int 0, .int 0, .int 0, .int 0, .long 0, .ref y1, .ref y2, .ref y3, .ref y4, .ref y5, .int 0, .int 0])), (l2, .inr (0, [.int 0, .ref z.1, .int 0]))] sz) [(h0, .inr (14, [.ref l1, .ref l2, .ref l3, .ref l4, .ref l5, .ref l6, .ref l7, .ref l8, .ref l9, .ref ce, .null, .int 0, .int 0, .int 1, .int 0, .int 0, .int 0, .int 0, .int 0, .int 0, .int 0, .int 0, .int 0, .long 0, .ref y1, .ref y2, .ref y3, .ref y4, .ref y5, .int 0, .int 0]))] [] t) (va_A [(h0, .inr (14, [.ref l1, .ref l2, .ref l3, .ref l4, .ref l5, .ref l6, .ref l7, .ref l8, .ref l9, .ref ce, .null, .int 0, .int 0, .int 0, .int 0, .int 0, .int 0, .int 0, .int 0, .int 0, .int 0, .int 0, .int 0, .long 0, .ref y1, .ref y2, .ref y3, .ref y4, .ref y5, .int 0, .int 0])), (l2, .inr (0, [.int 0, .ref z.1, .int 0]))] sz)) 0 0 (va_A [(h0, .inr (14, [.ref l1, .ref l2, .ref l3, .ref l4, .ref l5, .ref l6, .ref l7, .ref l8, .ref l9, .ref ce, .null, .int 0, .int 0, .int 0, .int 0, .int 0, .int 0, .int 0, .int 0, .int 0, .int 0, .int 0, .int 0, .long 0, .ref y1, .ref y2, .ref y3, .ref y4, .ref y5, .int 0, .int 0])), (l2, .inr (0, [.int 0, .ref z.1, .int 0]))] sz) := by
  refine Met.ofW (cc := cX17_isImmediate) (maxL := 2) (ret := (some .boolean)) (by decide) rfl ?_
  intro p e s m args below meth c s₁ B hml hv
  obtain ⟨rfl, hsz, hP, hK, hD0, hE⟩ := hv
  have hx := B.exec
  have hb := B.bytes
  have hr := B.returns
  have hts0 := atoms_spec (ws := ws_ yX17_isImmediate cX17_isImmediate 2 (some .boolean)) B.pre
  have hts := fun (w : Cond) (h : w ∈ pw) => hts0 w (List.mem_cons_of_mem _ h)
  have hown : s.vm.findClass RX17 = some m.cls := findClass_of_methodNamed B.named
  have hlocks := B.notSynchronized
  subst hsz
  have hD := hD0.self (sz := s.heap.size)
  generalize hAe : va_A [(h0, .inr (14, [.ref l1, .ref l2, .ref l3, .ref l4, .ref l5, .ref l6, .ref l7, .ref l8, .ref l9, .ref ce, .null, .int 0, .int 0, .int 0, .int 0, .int 0, .int 0, .int 0, .int 0, .int 0, .int 0, .int 0, .int 0, .long 0, .ref y1, .ref y2, .ref y3, .ref y4, .ref y5, .int 0, .int 0])), (l2, .inr (0, [.int 0, .ref z.1, .int 0]))] s.heap.size = A at hD hE ⊢
  have hA : ∀ q : Nat, s.heap.size ≤ q → A q := fun q h => by rw [← hAe]; exact Or.inr h
  have hS : va_S A s.heap s.heap [] := va_S.rf
  have hN := hE.1
  have hP : va_P (dC, dI) pcl [(h0, .inr (14, [.ref l1, .ref l2, .ref l3, .ref l4, .ref l5, .ref l6, .ref l7, .ref l8, .ref l9, .ref ce, .null, .int 0, .int 0, .int 0, .int 0, .int 0, .int 0, .int 0, .int 0, .int 0, .int 0, .int 0, .int 0, .long 0, .ref y1, .ref y2, .ref y3, .ref y4, .ref y5, .int 0, .int 0])), (l2, .inr (0, [.int 0, .ref z.1, .int 0]))] s.heap := hP
  have hl := lv_entry ([.ref h0, .int n]) (n := 2) (Nat.le_of_ble_eq_true rfl)
  rw [lg_entry_eq]
  generalize (lg_sl ([.ref h0, .int n]) ++ List.replicate (2 - (lg_sl ([.ref h0, .int n])).length) Slot.unset).toArray = ls at hl ⊢
  have hl : lv_has ls 2 [(0, .ref h0), (1, .int n)] := hl
  obtain ⟨H, hH0⟩ : ∃ H, H = s.heap := ⟨_, rfl⟩
  rw [← hH0] at hP ⊢
  have hS : va_S A s.heap H [] := by rw [hH0]; exact hS
  refine lv_aload_n hx hb dX17_isImmediate_0 rfl (lv_at hl 0 rfl) ?_
  refine lv_iload_n hx hb dX17_isImmediate_1 rfl (lv_at hl 1 rfl) ?_
  have hPc := hP.sub (ws' := [(h0, .inr (14, [.ref l1, .ref l2, .ref l3, .ref l4, .ref l5, .ref l6, .ref l7, .ref l8, .ref l9, .ref ce, .null, .int 0, .int 0, .int 0, .int 0, .int 0, .int 0, .int 0, .int 0, .int 0, .int 0, .int 0, .int 0, .long 0, .ref y1, .ref y2, .ref y3, .ref y4, .ref y5, .int 0, .int 0])), (l2, .inr (0, [.int 0, .ref z.1, .int 0]))]) [0, 1] rfl
  have hDc := hD.sub (ws' := [(h0, .inr (14, [.ref l1, .ref l2, .ref l3, .ref l4, .ref l5, .ref l6, .ref l7, .ref l8, .ref l9, .ref ce, .null, .int 0, .int 0, .int 0, .int 0, .int 0, .int 0, .int 0, .int 0, .int 0, .int 0, .int 0, .int 0, .long 0, .ref y1, .ref y2, .ref y3, .ref y4, .ref y5, .int 0, .int 0])), (l2, .inr (0, [.int 0, .ref z.1, .int 0]))]) [0, 1] (by decide) rfl
  have hKc := hK.sub (tys' := []) [] rfl
  have hFc := va_free (wc := [(h0, .inr (14, [.ref l1, .ref l2, .ref l3, .ref l4, .ref l5, .ref l6, .ref l7, .ref l8, .ref l9, .ref ce, .null, .int 0, .int 0, .int 0, .int 0, .int 0, .int 0, .int 0, .int 0, .int 0, .int 0, .int 0, .int 0, .long 0, .ref y1, .ref y2, .ref y3, .ref y4, .ref y5, .int 0, .int 0])), (l2, .inr (0, [.int 0, .ref z.1, .int 0]))]) hD hS hA [0, 1] rfl
  refine va_calli (va_runV (As := [.int n]) (rest := []) ⟨hx, hb, hml, hown, hts⟩ (c_X17_isEntry l dC dI z h0 l1 l2 l3 l4 l5 l6 l7 l8 l9 ce y1 y2 y3 y4 y5 n H.size) (cwV 1 hts (ws_goodV e253 e254 e256 e212 e255) rfl rfl rfl ⟨rfl, by decide +kernel, by decide +kernel, by decide +kernel⟩ ⟨Nat.le_of_ble_eq_true rfl, Nat.le_of_ble_eq_true rfl⟩) ⟨pPre_blind, va_recv hKc hPc (ci := 14) (q0 := 0) rfl rfl, fun U hU hW => ⟨rfl, pPre_at hPc hKc hDc hE hS hFc U hU hW⟩⟩ rfl rfl hl.1 rfl (lv_room (Nat.le_of_ble_eq_true rfl)) dX17_isImmediate_2 ⟨Nat.le_of_ble_eq_true rfl, Nat.le_of_ble_eq_true rfl⟩) hS (fun q _ h => hFc q h) hFc (fun r1 u2 t H1 locs ht hvm hw hB hz1 hk1 hS => ?_)
  obtain ⟨hP1, hK1, hD1⟩ := hB
  rw [ht] at hP1
  have hK1 := va_K.moved hvm.symm hK1
  obtain ⟨hP, hD⟩ := va_join (wr := []) (w1 := [(h0, .inr (14, [.ref l1, .ref l2, .ref l3, .ref l4, .ref l5, .ref l6, .ref l7, .ref l8, .ref l9, .ref ce, .null, .int 0, .int 0, .int 1, .int 0, .int 0, .int 0, .int 0, .int 0, .int 0, .int 0, .int 0, .int 0, .long 0, .ref y1, .ref y2, .ref y3, .ref y4, .ref y5, .int 0, .int 0]))]) hP hD [0, 1] [] rfl rfl (by decide) (by decide) hk1 hFc hP1 hD1
  have hK := hK.app hK1
  generalize H1 = H at hP hS ⊢
  have hP : va_P (dC, dI) pcl [(h0, .inr (14, [.ref l1, .ref l2, .ref l3, .ref l4, .ref l5, .ref l6, .ref l7, .ref l8, .ref l9, .ref ce, .null, .int 0, .int 0, .int 1, .int 0, .int 0, .int 0, .int 0, .int 0, .int 0, .int 0, .int 0, .int 0, .long 0, .ref y1, .ref y2, .ref y3, .ref y4, .ref y5, .int 0, .int 0]))] H := hP
  have hD : va_D A [(h0, .inr (14, [.ref l1, .ref l2, .ref l3, .ref l4, .ref l5, .ref l6, .ref l7, .ref l8, .ref l9, .ref ce, .null, .int 0, .int 0, .int 1, .int 0, .int 0, .int 0, .int 0, .int 0, .int 0, .int 0, .int 0, .int 0, .long 0, .ref y1, .ref y2, .ref y3, .ref y4, .ref y5, .int 0, .int 0]))] := hD
  have hK : va_K (dC, dI) pcl [] s := hK
  subst hw
  refine lv_if_eq (tgt := 29) hx hb dX17_isImmediate_5 (by decide) (fun _ => ?_) (fun h9 => absurd (by decide) h9)
  refine lv_iconst (v := 0) hx hb dX17_isImmediate_29 (by decide) ?_
  have hP9 := hP.sub (ws' := [(h0, .inr (14, [.ref l1, .ref l2, .ref l3, .ref l4, .ref l5, .ref l6, .ref l7, .ref l8, .ref l9, .ref ce, .null, .int 0, .int 0, .int 1, .int 0, .int 0, .int 0, .int 0, .int 0, .int 0, .int 0, .int 0, .int 0, .long 0, .ref y1, .ref y2, .ref y3, .ref y4, .ref y5, .int 0, .int 0]))]) [0] rfl
  have hD9 := hD.sub (ws' := [(h0, .inr (14, [.ref l1, .ref l2, .ref l3, .ref l4, .ref l5, .ref l6, .ref l7, .ref l8, .ref l9, .ref ce, .null, .int 0, .int 0, .int 1, .int 0, .int 0, .int 0, .int 0, .int 0, .int 0, .int 0, .int 0, .int 0, .long 0, .ref y1, .ref y2, .ref y3, .ref y4, .ref y5, .int 0, .int 0]))]) [0] (by decide) rfl
  have hK9 := hK.sub (tys' := []) [] rfl
  refine W.widen (k := 0) (n := 0) (Nat.le_of_ble_eq_true rfl) (Nat.le_of_ble_eq_true rfl) ?_
  exact W.zret (v := 0) hx hb hr rfl (fun t ht hW => ⟨⟨0, (), rfl, rfl, by rw [ht]; exact hP9, va_K.moved hW.alike hK9, hD9⟩, hS.F ht⟩) hS.2.2 dX17_isImmediate_30
set_option maxHeartbeats 4000000 in
set_option maxRecDepth 100000 in
theorem c_X17_vocabularyOf (l : Launch) (dC : Nat → ClassId) (dI : Nat → Nat → Nat) (z : pG) (h0 : Nat) (l1 : Nat) (l2 : Nat) (l3 : Nat) (l4 : Nat) (l5 : Nat) (l6 : Nat) (l7 : Nat) (l8 : Nat) (l9 : Nat) (ce : Nat) (y1 : Nat) (y2 : Nat) (y3 : Nat) (y4 : Nat) (y5 : Nat) (n : Int32) (sz : Nat) : Met l yX17_vocabularyOf (ws_ yX17_vocabularyOf cX17_vocabularyOf 2 (some .int)) ({ frames := 2, cells := 0, slots := 0, locals := 43 }) (va_Pc [.ref h0, .int n] (pPre z dC dI [(h0, .inr (14, [.ref l1, .ref l2, .ref l3, .ref l4, .ref l5, .ref l6, .ref l7, .ref l8, .ref l9, .ref ce, .null, .int 0, .int 0, .int 0, .int 0, .int 0, .int 0, .int 0, .int 0, .int 0, .int 0, .int 0, .int 0, .long 0, .ref y1, .ref y2, .ref y3, .ref y4, .ref y5, .int 0, .int 0])), (l2, .inr (0, [.int 0, .ref z.1, .int 0]))] [] sz)) (va_Qi (fun (r : Int32) (_ : Unit) => r = 0) (fun _ t => pPost dC dI (va_A [(h0, .inr (14, [.ref l1, .ref l2, .ref l3, .ref l4, .ref l5, .ref l6, .ref l7, .ref l8, .ref l9, .ref ce, .null, .int 0, .int 0, .int 0, .int 0, .int 0, .int 0, .int 0, .int 0, .int 0, .int 0, .int 0, .int 0, .long 0, .ref y1, .ref y2, .ref y3, .ref y4, .ref y5, .int 0, .int 0])), (l2, .inr (0, [.int 0, .ref z.1, .int 0]))] sz) [(h0, .inr (14, [.ref l1, .ref l2, .ref l3, .ref l4, .ref l5, .ref l6, .ref l7, .ref l8, .ref l9, .ref ce, .null, .int 0, .int 0, .int 1, .int 0, .int 0, .int 0, .int 0, .int 0, .int 0, .int 0, .int 0, .int 0, .long 0, .ref y1, .ref y2, .ref y3, .ref y4, .ref y5, .int 0, .int 0]))] [] t) (va_A [(h0, .inr (14, [.ref l1, .ref l2, .ref l3, .ref l4, .ref l5, .ref l6, .ref l7, .ref l8, .ref l9, .ref ce, .null, .int 0, .int 0, .int 0, .int 0, .int 0, .int 0, .int 0, .int 0, .int 0, .int 0, .int 0, .int 0, .long 0, .ref y1, .ref y2, .ref y3, .ref y4, .ref y5, .int 0, .int 0])), (l2, .inr (0, [.int 0, .ref z.1, .int 0]))] sz)) 0 0 (va_A [(h0, .inr (14, [.ref l1, .ref l2, .ref l3, .ref l4, .ref l5, .ref l6, .ref l7, .ref l8, .ref l9, .ref ce, .null, .int 0, .int 0, .int 0, .int 0, .int 0, .int 0, .int 0, .int 0, .int 0, .int 0, .int 0, .int 0, .long 0, .ref y1, .ref y2, .ref y3, .ref y4, .ref y5, .int 0, .int 0])), (l2, .inr (0, [.int 0, .ref z.1, .int 0]))] sz) := by
  refine Met.ofW (cc := cX17_vocabularyOf) (maxL := 2) (ret := (some .int)) (by decide) rfl ?_
  intro p e s m args below meth c s₁ B hml hv
  obtain ⟨rfl, hsz, hP, hK, hD0, hE⟩ := hv
  have hx := B.exec
  have hb := B.bytes
  have hr := B.returns
  have hts0 := atoms_spec (ws := ws_ yX17_vocabularyOf cX17_vocabularyOf 2 (some .int)) B.pre
  have hts := fun (w : Cond) (h : w ∈ pw) => hts0 w (List.mem_cons_of_mem _ h)
  have hown : s.vm.findClass RX17 = some m.cls := findClass_of_methodNamed B.named
  have hlocks := B.notSynchronized
  subst hsz
  have hD := hD0.self (sz := s.heap.size)
  generalize hAe : va_A [(h0, .inr (14, [.ref l1, .ref l2, .ref l3, .ref l4, .ref l5, .ref l6, .ref l7, .ref l8, .ref l9, .ref ce, .null, .int 0, .int 0, .int 0, .int 0, .int 0, .int 0, .int 0, .int 0, .int 0, .int 0, .int 0, .int 0, .long 0, .ref y1, .ref y2, .ref y3, .ref y4, .ref y5, .int 0, .int 0])), (l2, .inr (0, [.int 0, .ref z.1, .int 0]))] s.heap.size = A at hD hE ⊢
  have hA : ∀ q : Nat, s.heap.size ≤ q → A q := fun q h => by rw [← hAe]; exact Or.inr h
  have hS : va_S A s.heap s.heap [] := va_S.rf
  have hN := hE.1
  have hP : va_P (dC, dI) pcl [(h0, .inr (14, [.ref l1, .ref l2, .ref l3, .ref l4, .ref l5, .ref l6, .ref l7, .ref l8, .ref l9, .ref ce, .null, .int 0, .int 0, .int 0, .int 0, .int 0, .int 0, .int 0, .int 0, .int 0, .int 0, .int 0, .int 0, .long 0, .ref y1, .ref y2, .ref y3, .ref y4, .ref y5, .int 0, .int 0])), (l2, .inr (0, [.int 0, .ref z.1, .int 0]))] s.heap := hP
  have hl := lv_entry ([.ref h0, .int n]) (n := 2) (Nat.le_of_ble_eq_true rfl)
  rw [lg_entry_eq]
  generalize (lg_sl ([.ref h0, .int n]) ++ List.replicate (2 - (lg_sl ([.ref h0, .int n])).length) Slot.unset).toArray = ls at hl ⊢
  have hl : lv_has ls 2 [(0, .ref h0), (1, .int n)] := hl
  obtain ⟨H, hH0⟩ : ∃ H, H = s.heap := ⟨_, rfl⟩
  rw [← hH0] at hP ⊢
  have hS : va_S A s.heap H [] := by rw [hH0]; exact hS
  refine lv_aload_n hx hb dX17_vocabularyOf_0 rfl (lv_at hl 0 rfl) ?_
  refine lv_iload_n hx hb dX17_vocabularyOf_1 rfl (lv_at hl 1 rfl) ?_
  have hPc := hP.sub (ws' := [(h0, .inr (14, [.ref l1, .ref l2, .ref l3, .ref l4, .ref l5, .ref l6, .ref l7, .ref l8, .ref l9, .ref ce, .null, .int 0, .int 0, .int 0, .int 0, .int 0, .int 0, .int 0, .int 0, .int 0, .int 0, .int 0, .int 0, .long 0, .ref y1, .ref y2, .ref y3, .ref y4, .ref y5, .int 0, .int 0])), (l2, .inr (0, [.int 0, .ref z.1, .int 0]))]) [0, 1] rfl
  have hDc := hD.sub (ws' := [(h0, .inr (14, [.ref l1, .ref l2, .ref l3, .ref l4, .ref l5, .ref l6, .ref l7, .ref l8, .ref l9, .ref ce, .null, .int 0, .int 0, .int 0, .int 0, .int 0, .int 0, .int 0, .int 0, .int 0, .int 0, .int 0, .int 0, .long 0, .ref y1, .ref y2, .ref y3, .ref y4, .ref y5, .int 0, .int 0])), (l2, .inr (0, [.int 0, .ref z.1, .int 0]))]) [0, 1] (by decide) rfl
  have hKc := hK.sub (tys' := []) [] rfl
  have hFc := va_free (wc := [(h0, .inr (14, [.ref l1, .ref l2, .ref l3, .ref l4, .ref l5, .ref l6, .ref l7, .ref l8, .ref l9, .ref ce, .null, .int 0, .int 0, .int 0, .int 0, .int 0, .int 0, .int 0, .int 0, .int 0, .int 0, .int 0, .int 0, .long 0, .ref y1, .ref y2, .ref y3, .ref y4, .ref y5, .int 0, .int 0])), (l2, .inr (0, [.int 0, .ref z.1, .int 0]))]) hD hS hA [0, 1] rfl
  refine va_calli (va_runV (As := [.int n]) (rest := []) ⟨hx, hb, hml, hown, hts⟩ (c_X17_isEntry l dC dI z h0 l1 l2 l3 l4 l5 l6 l7 l8 l9 ce y1 y2 y3 y4 y5 n H.size) (cwV 1 hts (ws_goodV e253 e254 e256 e212 e255) rfl rfl rfl ⟨rfl, by decide +kernel, by decide +kernel, by decide +kernel⟩ ⟨Nat.le_of_ble_eq_true rfl, Nat.le_of_ble_eq_true rfl⟩) ⟨pPre_blind, va_recv hKc hPc (ci := 14) (q0 := 0) rfl rfl, fun U hU hW => ⟨rfl, pPre_at hPc hKc hDc hE hS hFc U hU hW⟩⟩ rfl rfl hl.1 rfl (lv_room (Nat.le_of_ble_eq_true rfl)) dX17_vocabularyOf_2 ⟨Nat.le_of_ble_eq_true rfl, Nat.le_of_ble_eq_true rfl⟩) hS (fun q _ h => hFc q h) hFc (fun r1 u2 t H1 locs ht hvm hw hB hz1 hk1 hS => ?_)
  obtain ⟨hP1, hK1, hD1⟩ := hB
  rw [ht] at hP1
  have hK1 := va_K.moved hvm.symm hK1
  obtain ⟨hP, hD⟩ := va_join (wr := []) (w1 := [(h0, .inr (14, [.ref l1, .ref l2, .ref l3, .ref l4, .ref l5, .ref l6, .ref l7, .ref l8, .ref l9, .ref ce, .null, .int 0, .int 0, .int 1, .int 0, .int 0, .int 0, .int 0, .int 0, .int 0, .int 0, .int 0, .int 0, .long 0, .ref y1, .ref y2, .ref y3, .ref y4, .ref y5, .int 0, .int 0]))]) hP hD [0, 1] [] rfl rfl (by decide) (by decide) hk1 hFc hP1 hD1
  have hK := hK.app hK1
  generalize H1 = H at hP hS ⊢
  have hP : va_P (dC, dI) pcl [(h0, .inr (14, [.ref l1, .ref l2, .ref l3, .ref l4, .ref l5, .ref l6, .ref l7, .ref l8, .ref l9, .ref ce, .null, .int 0, .int 0, .int 1, .int 0, .int 0, .int 0, .int 0, .int 0, .int 0, .int 0, .int 0, .int 0, .long 0, .ref y1, .ref y2, .ref y3, .ref y4, .ref y5, .int 0, .int 0]))] H := hP
  have hD : va_D A [(h0, .inr (14, [.ref l1, .ref l2, .ref l3, .ref l4, .ref l5, .ref l6, .ref l7, .ref l8, .ref l9, .ref ce, .null, .int 0, .int 0, .int 1, .int 0, .int 0, .int 0, .int 0, .int 0, .int 0, .int 0, .int 0, .int 0, .long 0, .ref y1, .ref y2, .ref y3, .ref y4, .ref y5, .int 0, .int 0]))] := hD
  have hK : va_K (dC, dI) pcl [] s := hK
  subst hw
  refine lv_if_eq (tgt := 25) hx hb dX17_vocabularyOf_5 (by decide) (fun _ => ?_) (fun h9 => absurd (by decide) h9)
  refine lv_iconst (v := 0) hx hb dX17_vocabularyOf_25 (by decide) ?_
  have hP9 := hP.sub (ws' := [(h0, .inr (14, [.ref l1, .ref l2, .ref l3, .ref l4, .ref l5, .ref l6, .ref l7, .ref l8, .ref l9, .ref ce, .null, .int 0, .int 0, .int 1, .int 0, .int 0, .int 0, .int 0, .int 0, .int 0, .int 0, .int 0, .int 0, .long 0, .ref y1, .ref y2, .ref y3, .ref y4, .ref y5, .int 0, .int 0]))]) [0] rfl
  have hD9 := hD.sub (ws' := [(h0, .inr (14, [.ref l1, .ref l2, .ref l3, .ref l4, .ref l5, .ref l6, .ref l7, .ref l8, .ref l9, .ref ce, .null, .int 0, .int 0, .int 1, .int 0, .int 0, .int 0, .int 0, .int 0, .int 0, .int 0, .int 0, .int 0, .long 0, .ref y1, .ref y2, .ref y3, .ref y4, .ref y5, .int 0, .int 0]))]) [0] (by decide) rfl
  have hK9 := hK.sub (tys' := []) [] rfl
  refine W.widen (k := 0) (n := 0) (Nat.le_of_ble_eq_true rfl) (Nat.le_of_ble_eq_true rfl) ?_
  exact W.iret (v := 0) hx hb hr (fun t ht hW => ⟨⟨0, (), rfl, rfl, by rw [ht]; exact hP9, va_K.moved hW.alike hK9, hD9⟩, hS.F ht⟩) hS.2.2 dX17_vocabularyOf_26
set_option maxHeartbeats 4000000 in
set_option maxRecDepth 100000 in
theorem c_X17_ops (l : Launch) (dC : Nat → ClassId) (dI : Nat → Nat → Nat) (z : pG) (h0 : Nat) (l1 : Nat) (l2 : Nat) (l3 : Nat) (l4 : Nat) (l5 : Nat) (l6 : Nat) (l7 : Nat) (l8 : Nat) (l9 : Nat) (ce : Nat) (y1 : Nat) (y2 : Nat) (y3 : Nat) (y4 : Nat) (y5 : Nat) (n : Int32) (sz : Nat) : Met l yX17_ops (ws_ yX17_ops cX17_ops 2 (some .int)) ({ frames := 2, cells := 0, slots := 0, locals := 43 }) (va_Pc [.ref h0, .int n] (pPre z dC dI [(h0, .inr (14, [.ref l1, .ref l2, .ref l3, .ref l4, .ref l5, .ref l6, .ref l7, .ref l8, .ref l9, .ref ce, .null, .int 0, .int 0, .int 0, .int 0, .int 0, .int 0, .int 0, .int 0, .int 0, .int 0, .int 0, .int 0, .long 0, .ref y1, .ref y2, .ref y3, .ref y4, .ref y5, .int 0, .int 0])), (l2, .inr (0, [.int 0, .ref z.1, .int 0]))] [] sz)) (va_Qi (fun (r : Int32) (_ : Unit) => r = 0) (fun _ t => pPost dC dI (va_A [(h0, .inr (14, [.ref l1, .ref l2, .ref l3, .ref l4, .ref l5, .ref l6, .ref l7, .ref l8, .ref l9, .ref ce, .null, .int 0, .int 0, .int 0, .int 0, .int 0, .int 0, .int 0, .int 0, .int 0, .int 0, .int 0, .int 0, .long 0, .ref y1, .ref y2, .ref y3, .ref y4, .ref y5, .int 0, .int 0])), (l2, .inr (0, [.int 0, .ref z.1, .int 0]))] sz) [(h0, .inr (14, [.ref l1, .ref l2, .ref l3, .ref l4, .ref l5, .ref l6, .ref l7, .ref l8, .ref l9, .ref ce, .null, .int 0, .int 0, .int 1, .int 0, .int 0, .int 0, .int 0, .int 0, .int 0, .int 0, .int 0, .int 0, .long 0, .ref y1, .ref y2, .ref y3, .ref y4, .ref y5, .int 0, .int 0]))] [] t) (va_A [(h0, .inr (14, [.ref l1, .ref l2, .ref l3, .ref l4, .ref l5, .ref l6, .ref l7, .ref l8, .ref l9, .ref ce, .null, .int 0, .int 0, .int 0, .int 0, .int 0, .int 0, .int 0, .int 0, .int 0, .int 0, .int 0, .int 0, .long 0, .ref y1, .ref y2, .ref y3, .ref y4, .ref y5, .int 0, .int 0])), (l2, .inr (0, [.int 0, .ref z.1, .int 0]))] sz)) 0 0 (va_A [(h0, .inr (14, [.ref l1, .ref l2, .ref l3, .ref l4, .ref l5, .ref l6, .ref l7, .ref l8, .ref l9, .ref ce, .null, .int 0, .int 0, .int 0, .int 0, .int 0, .int 0, .int 0, .int 0, .int 0, .int 0, .int 0, .int 0, .long 0, .ref y1, .ref y2, .ref y3, .ref y4, .ref y5, .int 0, .int 0])), (l2, .inr (0, [.int 0, .ref z.1, .int 0]))] sz) := by
  refine Met.ofW (cc := cX17_ops) (maxL := 2) (ret := (some .int)) (by decide) rfl ?_
  intro p e s m args below meth c s₁ B hml hv
  obtain ⟨rfl, hsz, hP, hK, hD0, hE⟩ := hv
  have hx := B.exec
  have hb := B.bytes
  have hr := B.returns
  have hts0 := atoms_spec (ws := ws_ yX17_ops cX17_ops 2 (some .int)) B.pre
  have hts := fun (w : Cond) (h : w ∈ pw) => hts0 w (List.mem_cons_of_mem _ h)
  have hown : s.vm.findClass RX17 = some m.cls := findClass_of_methodNamed B.named
  have hlocks := B.notSynchronized
  subst hsz
  have hD := hD0.self (sz := s.heap.size)
  generalize hAe : va_A [(h0, .inr (14, [.ref l1, .ref l2, .ref l3, .ref l4, .ref l5, .ref l6, .ref l7, .ref l8, .ref l9, .ref ce, .null, .int 0, .int 0, .int 0, .int 0, .int 0, .int 0, .int 0, .int 0, .int 0, .int 0, .int 0, .int 0, .long 0, .ref y1, .ref y2, .ref y3, .ref y4, .ref y5, .int 0, .int 0])), (l2, .inr (0, [.int 0, .ref z.1, .int 0]))] s.heap.size = A at hD hE ⊢
  have hA : ∀ q : Nat, s.heap.size ≤ q → A q := fun q h => by rw [← hAe]; exact Or.inr h
  have hS : va_S A s.heap s.heap [] := va_S.rf
  have hN := hE.1
  have hP : va_P (dC, dI) pcl [(h0, .inr (14, [.ref l1, .ref l2, .ref l3, .ref l4, .ref l5, .ref l6, .ref l7, .ref l8, .ref l9, .ref ce, .null, .int 0, .int 0, .int 0, .int 0, .int 0, .int 0, .int 0, .int 0, .int 0, .int 0, .int 0, .int 0, .long 0, .ref y1, .ref y2, .ref y3, .ref y4, .ref y5, .int 0, .int 0])), (l2, .inr (0, [.int 0, .ref z.1, .int 0]))] s.heap := hP
  have hl := lv_entry ([.ref h0, .int n]) (n := 2) (Nat.le_of_ble_eq_true rfl)
  rw [lg_entry_eq]
  generalize (lg_sl ([.ref h0, .int n]) ++ List.replicate (2 - (lg_sl ([.ref h0, .int n])).length) Slot.unset).toArray = ls at hl ⊢
  have hl : lv_has ls 2 [(0, .ref h0), (1, .int n)] := hl
  obtain ⟨H, hH0⟩ : ∃ H, H = s.heap := ⟨_, rfl⟩
  rw [← hH0] at hP ⊢
  have hS : va_S A s.heap H [] := by rw [hH0]; exact hS
  refine lv_aload_n hx hb dX17_ops_0 rfl (lv_at hl 0 rfl) ?_
  refine lv_iload_n hx hb dX17_ops_1 rfl (lv_at hl 1 rfl) ?_
  have hPc := hP.sub (ws' := [(h0, .inr (14, [.ref l1, .ref l2, .ref l3, .ref l4, .ref l5, .ref l6, .ref l7, .ref l8, .ref l9, .ref ce, .null, .int 0, .int 0, .int 0, .int 0, .int 0, .int 0, .int 0, .int 0, .int 0, .int 0, .int 0, .int 0, .long 0, .ref y1, .ref y2, .ref y3, .ref y4, .ref y5, .int 0, .int 0])), (l2, .inr (0, [.int 0, .ref z.1, .int 0]))]) [0, 1] rfl
  have hDc := hD.sub (ws' := [(h0, .inr (14, [.ref l1, .ref l2, .ref l3, .ref l4, .ref l5, .ref l6, .ref l7, .ref l8, .ref l9, .ref ce, .null, .int 0, .int 0, .int 0, .int 0, .int 0, .int 0, .int 0, .int 0, .int 0, .int 0, .int 0, .int 0, .long 0, .ref y1, .ref y2, .ref y3, .ref y4, .ref y5, .int 0, .int 0])), (l2, .inr (0, [.int 0, .ref z.1, .int 0]))]) [0, 1] (by decide) rfl
  have hKc := hK.sub (tys' := []) [] rfl
  have hFc := va_free (wc := [(h0, .inr (14, [.ref l1, .ref l2, .ref l3, .ref l4, .ref l5, .ref l6, .ref l7, .ref l8, .ref l9, .ref ce, .null, .int 0, .int 0, .int 0, .int 0, .int 0, .int 0, .int 0, .int 0, .int 0, .int 0, .int 0, .int 0, .long 0, .ref y1, .ref y2, .ref y3, .ref y4, .ref y5, .int 0, .int 0])), (l2, .inr (0, [.int 0, .ref z.1, .int 0]))]) hD hS hA [0, 1] rfl
  refine va_calli (va_runV (As := [.int n]) (rest := []) ⟨hx, hb, hml, hown, hts⟩ (c_X17_isEntry l dC dI z h0 l1 l2 l3 l4 l5 l6 l7 l8 l9 ce y1 y2 y3 y4 y5 n H.size) (cwV 1 hts (ws_goodV e253 e254 e256 e212 e255) rfl rfl rfl ⟨rfl, by decide +kernel, by decide +kernel, by decide +kernel⟩ ⟨Nat.le_of_ble_eq_true rfl, Nat.le_of_ble_eq_true rfl⟩) ⟨pPre_blind, va_recv hKc hPc (ci := 14) (q0 := 0) rfl rfl, fun U hU hW => ⟨rfl, pPre_at hPc hKc hDc hE hS hFc U hU hW⟩⟩ rfl rfl hl.1 rfl (lv_room (Nat.le_of_ble_eq_true rfl)) dX17_ops_2 ⟨Nat.le_of_ble_eq_true rfl, Nat.le_of_ble_eq_true rfl⟩) hS (fun q _ h => hFc q h) hFc (fun r1 u2 t H1 locs ht hvm hw hB hz1 hk1 hS => ?_)
  obtain ⟨hP1, hK1, hD1⟩ := hB
  rw [ht] at hP1
  have hK1 := va_K.moved hvm.symm hK1
  obtain ⟨hP, hD⟩ := va_join (wr := []) (w1 := [(h0, .inr (14, [.ref l1, .ref l2, .ref l3, .ref l4, .ref l5, .ref l6, .ref l7, .ref l8, .ref l9, .ref ce, .null, .int 0, .int 0, .int 1, .int 0, .int 0, .int 0, .int 0, .int 0, .int 0, .int 0, .int 0, .int 0, .long 0, .ref y1, .ref y2, .ref y3, .ref y4, .ref y5, .int 0, .int 0]))]) hP hD [0, 1] [] rfl rfl (by decide) (by decide) hk1 hFc hP1 hD1
  have hK := hK.app hK1
  generalize H1 = H at hP hS ⊢
  have hP : va_P (dC, dI) pcl [(h0, .inr (14, [.ref l1, .ref l2, .ref l3, .ref l4, .ref l5, .ref l6, .ref l7, .ref l8, .ref l9, .ref ce, .null, .int 0, .int 0, .int 1, .int 0, .int 0, .int 0, .int 0, .int 0, .int 0, .int 0, .int 0, .int 0, .long 0, .ref y1, .ref y2, .ref y3, .ref y4, .ref y5, .int 0, .int 0]))] H := hP
  have hD : va_D A [(h0, .inr (14, [.ref l1, .ref l2, .ref l3, .ref l4, .ref l5, .ref l6, .ref l7, .ref l8, .ref l9, .ref ce, .null, .int 0, .int 0, .int 1, .int 0, .int 0, .int 0, .int 0, .int 0, .int 0, .int 0, .int 0, .int 0, .long 0, .ref y1, .ref y2, .ref y3, .ref y4, .ref y5, .int 0, .int 0]))] := hD
  have hK : va_K (dC, dI) pcl [] s := hK
  subst hw
  refine lv_if_eq (tgt := 28) hx hb dX17_ops_5 (by decide) (fun _ => ?_) (fun h9 => absurd (by decide) h9)
  refine lv_iconst (v := 0) hx hb dX17_ops_28 (by decide) ?_
  have hP9 := hP.sub (ws' := [(h0, .inr (14, [.ref l1, .ref l2, .ref l3, .ref l4, .ref l5, .ref l6, .ref l7, .ref l8, .ref l9, .ref ce, .null, .int 0, .int 0, .int 1, .int 0, .int 0, .int 0, .int 0, .int 0, .int 0, .int 0, .int 0, .int 0, .long 0, .ref y1, .ref y2, .ref y3, .ref y4, .ref y5, .int 0, .int 0]))]) [0] rfl
  have hD9 := hD.sub (ws' := [(h0, .inr (14, [.ref l1, .ref l2, .ref l3, .ref l4, .ref l5, .ref l6, .ref l7, .ref l8, .ref l9, .ref ce, .null, .int 0, .int 0, .int 1, .int 0, .int 0, .int 0, .int 0, .int 0, .int 0, .int 0, .int 0, .int 0, .long 0, .ref y1, .ref y2, .ref y3, .ref y4, .ref y5, .int 0, .int 0]))]) [0] (by decide) rfl
  have hK9 := hK.sub (tys' := []) [] rfl
  refine W.widen (k := 0) (n := 0) (Nat.le_of_ble_eq_true rfl) (Nat.le_of_ble_eq_true rfl) ?_
  exact W.iret (v := 0) hx hb hr (fun t ht hW => ⟨⟨0, (), rfl, rfl, by rw [ht]; exact hP9, va_K.moved hW.alike hK9, hD9⟩, hS.F ht⟩) hS.2.2 dX17_ops_29
set_option maxHeartbeats 4000000 in
set_option maxRecDepth 100000 in
theorem c_X17_effect (l : Launch) (dC : Nat → ClassId) (dI : Nat → Nat → Nat) (z : pG) (h0 : Nat) (l1 : Nat) (l2 : Nat) (l3 : Nat) (l4 : Nat) (l5 : Nat) (l6 : Nat) (l7 : Nat) (l8 : Nat) (l9 : Nat) (ce : Nat) (y1 : Nat) (y2 : Nat) (y3 : Nat) (y4 : Nat) (y5 : Nat) (n : Int32) (sz : Nat) : Met l yX17_effect (ws_ yX17_effect cX17_effect 2 (some .int)) ({ frames := 2, cells := 0, slots := 0, locals := 43 }) (va_Pc [.ref h0, .int n] (pPre z dC dI [(h0, .inr (14, [.ref l1, .ref l2, .ref l3, .ref l4, .ref l5, .ref l6, .ref l7, .ref l8, .ref l9, .ref ce, .null, .int 0, .int 0, .int 0, .int 0, .int 0, .int 0, .int 0, .int 0, .int 0, .int 0, .int 0, .int 0, .long 0, .ref y1, .ref y2, .ref y3, .ref y4, .ref y5, .int 0, .int 0])), (l2, .inr (0, [.int 0, .ref z.1, .int 0]))] [] sz)) (va_Qi (fun (r : Int32) (_ : Unit) => r = 0) (fun _ t => pPost dC dI (va_A [(h0, .inr (14, [.ref l1, .ref l2, .ref l3, .ref l4, .ref l5, .ref l6, .ref l7, .ref l8, .ref l9, .ref ce, .null, .int 0, .int 0, .int 0, .int 0, .int 0, .int 0, .int 0, .int 0, .int 0, .int 0, .int 0, .int 0, .long 0, .ref y1, .ref y2, .ref y3, .ref y4, .ref y5, .int 0, .int 0])), (l2, .inr (0, [.int 0, .ref z.1, .int 0]))] sz) [(h0, .inr (14, [.ref l1, .ref l2, .ref l3, .ref l4, .ref l5, .ref l6, .ref l7, .ref l8, .ref l9, .ref ce, .null, .int 0, .int 0, .int 1, .int 0, .int 0, .int 0, .int 0, .int 0, .int 0, .int 0, .int 0, .int 0, .long 0, .ref y1, .ref y2, .ref y3, .ref y4, .ref y5, .int 0, .int 0]))] [] t) (va_A [(h0, .inr (14, [.ref l1, .ref l2, .ref l3, .ref l4, .ref l5, .ref l6, .ref l7, .ref l8, .ref l9, .ref ce, .null, .int 0, .int 0, .int 0, .int 0, .int 0, .int 0, .int 0, .int 0, .int 0, .int 0, .int 0, .int 0, .long 0, .ref y1, .ref y2, .ref y3, .ref y4, .ref y5, .int 0, .int 0])), (l2, .inr (0, [.int 0, .ref z.1, .int 0]))] sz)) 0 0 (va_A [(h0, .inr (14, [.ref l1, .ref l2, .ref l3, .ref l4, .ref l5, .ref l6, .ref l7, .ref l8, .ref l9, .ref ce, .null, .int 0, .int 0, .int 0, .int 0, .int 0, .int 0, .int 0, .int 0, .int 0, .int 0, .int 0, .int 0, .long 0, .ref y1, .ref y2, .ref y3, .ref y4, .ref y5, .int 0, .int 0])), (l2, .inr (0, [.int 0, .ref z.1, .int 0]))] sz) := by
  refine Met.ofW (cc := cX17_effect) (maxL := 2) (ret := (some .int)) (by decide) rfl ?_
  intro p e s m args below meth c s₁ B hml hv
  obtain ⟨rfl, hsz, hP, hK, hD0, hE⟩ := hv
  have hx := B.exec
  have hb := B.bytes
  have hr := B.returns
  have hts0 := atoms_spec (ws := ws_ yX17_effect cX17_effect 2 (some .int)) B.pre
  have hts := fun (w : Cond) (h : w ∈ pw) => hts0 w (List.mem_cons_of_mem _ h)
  have hown : s.vm.findClass RX17 = some m.cls := findClass_of_methodNamed B.named
  have hlocks := B.notSynchronized
  subst hsz
  have hD := hD0.self (sz := s.heap.size)
  generalize hAe : va_A [(h0, .inr (14, [.ref l1, .ref l2, .ref l3, .ref l4, .ref l5, .ref l6, .ref l7, .ref l8, .ref l9, .ref ce, .null, .int 0, .int 0, .int 0, .int 0, .int 0, .int 0, .int 0, .int 0, .int 0, .int 0, .int 0, .int 0, .long 0, .ref y1, .ref y2, .ref y3, .ref y4, .ref y5, .int 0, .int 0])), (l2, .inr (0, [.int 0, .ref z.1, .int 0]))] s.heap.size = A at hD hE ⊢
  have hA : ∀ q : Nat, s.heap.size ≤ q → A q := fun q h => by rw [← hAe]; exact Or.inr h
  have hS : va_S A s.heap s.heap [] := va_S.rf
  have hN := hE.1
  have hP : va_P (dC, dI) pcl [(h0, .inr (14, [.ref l1, .ref l2, .ref l3, .ref l4, .ref l5, .ref l6, .ref l7, .ref l8, .ref l9, .ref ce, .null, .int 0, .int 0, .int 0, .int 0, .int 0, .int 0, .int 0, .int 0, .int 0, .int 0, .int 0, .int 0, .long 0, .ref y1, .ref y2, .ref y3, .ref y4, .ref y5, .int 0, .int 0])), (l2, .inr (0, [.int 0, .ref z.1, .int 0]))] s.heap := hP
  have hl := lv_entry ([.ref h0, .int n]) (n := 2) (Nat.le_of_ble_eq_true rfl)
  rw [lg_entry_eq]
  generalize (lg_sl ([.ref h0, .int n]) ++ List.replicate (2 - (lg_sl ([.ref h0, .int n])).length) Slot.unset).toArray = ls at hl ⊢
  have hl : lv_has ls 2 [(0, .ref h0), (1, .int n)] := hl
  obtain ⟨H, hH0⟩ : ∃ H, H = s.heap := ⟨_, rfl⟩
  rw [← hH0] at hP ⊢
  have hS : va_S A s.heap H [] := by rw [hH0]; exact hS
  refine lv_aload_n hx hb dX17_effect_0 rfl (lv_at hl 0 rfl) ?_
  refine lv_iload_n hx hb dX17_effect_1 rfl (lv_at hl 1 rfl) ?_
  have hPc := hP.sub (ws' := [(h0, .inr (14, [.ref l1, .ref l2, .ref l3, .ref l4, .ref l5, .ref l6, .ref l7, .ref l8, .ref l9, .ref ce, .null, .int 0, .int 0, .int 0, .int 0, .int 0, .int 0, .int 0, .int 0, .int 0, .int 0, .int 0, .int 0, .long 0, .ref y1, .ref y2, .ref y3, .ref y4, .ref y5, .int 0, .int 0])), (l2, .inr (0, [.int 0, .ref z.1, .int 0]))]) [0, 1] rfl
  have hDc := hD.sub (ws' := [(h0, .inr (14, [.ref l1, .ref l2, .ref l3, .ref l4, .ref l5, .ref l6, .ref l7, .ref l8, .ref l9, .ref ce, .null, .int 0, .int 0, .int 0, .int 0, .int 0, .int 0, .int 0, .int 0, .int 0, .int 0, .int 0, .int 0, .long 0, .ref y1, .ref y2, .ref y3, .ref y4, .ref y5, .int 0, .int 0])), (l2, .inr (0, [.int 0, .ref z.1, .int 0]))]) [0, 1] (by decide) rfl
  have hKc := hK.sub (tys' := []) [] rfl
  have hFc := va_free (wc := [(h0, .inr (14, [.ref l1, .ref l2, .ref l3, .ref l4, .ref l5, .ref l6, .ref l7, .ref l8, .ref l9, .ref ce, .null, .int 0, .int 0, .int 0, .int 0, .int 0, .int 0, .int 0, .int 0, .int 0, .int 0, .int 0, .int 0, .long 0, .ref y1, .ref y2, .ref y3, .ref y4, .ref y5, .int 0, .int 0])), (l2, .inr (0, [.int 0, .ref z.1, .int 0]))]) hD hS hA [0, 1] rfl
  refine va_calli (va_runV (As := [.int n]) (rest := []) ⟨hx, hb, hml, hown, hts⟩ (c_X17_isEntry l dC dI z h0 l1 l2 l3 l4 l5 l6 l7 l8 l9 ce y1 y2 y3 y4 y5 n H.size) (cwV 1 hts (ws_goodV e253 e254 e256 e212 e255) rfl rfl rfl ⟨rfl, by decide +kernel, by decide +kernel, by decide +kernel⟩ ⟨Nat.le_of_ble_eq_true rfl, Nat.le_of_ble_eq_true rfl⟩) ⟨pPre_blind, va_recv hKc hPc (ci := 14) (q0 := 0) rfl rfl, fun U hU hW => ⟨rfl, pPre_at hPc hKc hDc hE hS hFc U hU hW⟩⟩ rfl rfl hl.1 rfl (lv_room (Nat.le_of_ble_eq_true rfl)) dX17_effect_2 ⟨Nat.le_of_ble_eq_true rfl, Nat.le_of_ble_eq_true rfl⟩) hS (fun q _ h => hFc q h) hFc (fun r1 u2 t H1 locs ht hvm hw hB hz1 hk1 hS => ?_)
  obtain ⟨hP1, hK1, hD1⟩ := hB
  rw [ht] at hP1
  have hK1 := va_K.moved hvm.symm hK1
  obtain ⟨hP, hD⟩ := va_join (wr := []) (w1 := [(h0, .inr (14, [.ref l1, .ref l2, .ref l3, .ref l4, .ref l5, .ref l6, .ref l7, .ref l8, .ref l9, .ref ce, .null, .int 0, .int 0, .int 1, .int 0, .int 0, .int 0, .int 0, .int 0, .int 0, .int 0, .int 0, .int 0, .long 0, .ref y1, .ref y2, .ref y3, .ref y4, .ref y5, .int 0, .int 0]))]) hP hD [0, 1] [] rfl rfl (by decide) (by decide) hk1 hFc hP1 hD1
  have hK := hK.app hK1
  generalize H1 = H at hP hS ⊢
  have hP : va_P (dC, dI) pcl [(h0, .inr (14, [.ref l1, .ref l2, .ref l3, .ref l4, .ref l5, .ref l6, .ref l7, .ref l8, .ref l9, .ref ce, .null, .int 0, .int 0, .int 1, .int 0, .int 0, .int 0, .int 0, .int 0, .int 0, .int 0, .int 0, .int 0, .long 0, .ref y1, .ref y2, .ref y3, .ref y4, .ref y5, .int 0, .int 0]))] H := hP
  have hD : va_D A [(h0, .inr (14, [.ref l1, .ref l2, .ref l3, .ref l4, .ref l5, .ref l6, .ref l7, .ref l8, .ref l9, .ref ce, .null, .int 0, .int 0, .int 1, .int 0, .int 0, .int 0, .int 0, .int 0, .int 0, .int 0, .int 0, .int 0, .long 0, .ref y1, .ref y2, .ref y3, .ref y4, .ref y5, .int 0, .int 0]))] := hD
  have hK : va_K (dC, dI) pcl [] s := hK
  subst hw
  refine lv_if_ne (tgt := 10) hx hb dX17_effect_5 (by decide) (fun h9 => absurd (by decide) h9) (fun _ => ?_)
  refine lv_iconst (v := 0) hx hb dX17_effect_8 (by decide) ?_
  have hP9 := hP.sub (ws' := [(h0, .inr (14, [.ref l1, .ref l2, .ref l3, .ref l4, .ref l5, .ref l6, .ref l7, .ref l8, .ref l9, .ref ce, .null, .int 0, .int 0, .int 1, .int 0, .int 0, .int 0, .int 0, .int 0, .int 0, .int 0, .int 0, .int 0, .long 0, .ref y1, .ref y2, .ref y3, .ref y4, .ref y5, .int 0, .int 0]))]) [0] rfl
  have hD9 := hD.sub (ws' := [(h0, .inr (14, [.ref l1, .ref l2, .ref l3, .ref l4, .ref l5, .ref l6, .ref l7, .ref l8, .ref l9, .ref ce, .null, .int 0, .int 0, .int 1, .int 0, .int 0, .int 0, .int 0, .int 0, .int 0, .int 0, .int 0, .int 0, .long 0, .ref y1, .ref y2, .ref y3, .ref y4, .ref y5, .int 0, .int 0]))]) [0] (by decide) rfl
  have hK9 := hK.sub (tys' := []) [] rfl
  refine W.widen (k := 0) (n := 0) (Nat.le_of_ble_eq_true rfl) (Nat.le_of_ble_eq_true rfl) ?_
  exact W.iret (v := 0) hx hb hr (fun t ht hW => ⟨⟨0, (), rfl, rfl, by rw [ht]; exact hP9, va_K.moved hW.alike hK9, hD9⟩, hS.F ht⟩) hS.2.2 dX17_effect_9
set_option maxHeartbeats 4000000 in
set_option maxRecDepth 100000 in
theorem c_X17_opAt (l : Launch) (dC : Nat → ClassId) (dI : Nat → Nat → Nat) (z : pG) (h0 : Nat) (l1 : Nat) (l2 : Nat) (l3 : Nat) (l4 : Nat) (l5 : Nat) (l6 : Nat) (l7 : Nat) (l8 : Nat) (l9 : Nat) (ce : Nat) (y1 : Nat) (y2 : Nat) (y3 : Nat) (y4 : Nat) (y5 : Nat) (n : Int32) (k : Int32) (sz : Nat) : Met l yX17_opAt (ws_ yX17_opAt cX17_opAt 3 (some .char)) ({ frames := 2, cells := 0, slots := 0, locals := 44 }) (va_Pc [.ref h0, .int n, .int k] (pPre z dC dI [(h0, .inr (14, [.ref l1, .ref l2, .ref l3, .ref l4, .ref l5, .ref l6, .ref l7, .ref l8, .ref l9, .ref ce, .null, .int 0, .int 0, .int 0, .int 0, .int 0, .int 0, .int 0, .int 0, .int 0, .int 0, .int 0, .int 0, .long 0, .ref y1, .ref y2, .ref y3, .ref y4, .ref y5, .int 0, .int 0])), (l2, .inr (0, [.int 0, .ref z.1, .int 0]))] [] sz)) (va_Qi (fun (r : Int32) (_ : Unit) => r = 0) (fun _ t => pPost dC dI (va_A [(h0, .inr (14, [.ref l1, .ref l2, .ref l3, .ref l4, .ref l5, .ref l6, .ref l7, .ref l8, .ref l9, .ref ce, .null, .int 0, .int 0, .int 0, .int 0, .int 0, .int 0, .int 0, .int 0, .int 0, .int 0, .int 0, .int 0, .long 0, .ref y1, .ref y2, .ref y3, .ref y4, .ref y5, .int 0, .int 0])), (l2, .inr (0, [.int 0, .ref z.1, .int 0]))] sz) [(h0, .inr (14, [.ref l1, .ref l2, .ref l3, .ref l4, .ref l5, .ref l6, .ref l7, .ref l8, .ref l9, .ref ce, .null, .int 0, .int 0, .int 1, .int 0, .int 0, .int 0, .int 0, .int 0, .int 0, .int 0, .int 0, .int 0, .long 0, .ref y1, .ref y2, .ref y3, .ref y4, .ref y5, .int 0, .int 0]))] [] t) (va_A [(h0, .inr (14, [.ref l1, .ref l2, .ref l3, .ref l4, .ref l5, .ref l6, .ref l7, .ref l8, .ref l9, .ref ce, .null, .int 0, .int 0, .int 0, .int 0, .int 0, .int 0, .int 0, .int 0, .int 0, .int 0, .int 0, .int 0, .long 0, .ref y1, .ref y2, .ref y3, .ref y4, .ref y5, .int 0, .int 0])), (l2, .inr (0, [.int 0, .ref z.1, .int 0]))] sz)) 0 0 (va_A [(h0, .inr (14, [.ref l1, .ref l2, .ref l3, .ref l4, .ref l5, .ref l6, .ref l7, .ref l8, .ref l9, .ref ce, .null, .int 0, .int 0, .int 0, .int 0, .int 0, .int 0, .int 0, .int 0, .int 0, .int 0, .int 0, .int 0, .long 0, .ref y1, .ref y2, .ref y3, .ref y4, .ref y5, .int 0, .int 0])), (l2, .inr (0, [.int 0, .ref z.1, .int 0]))] sz) := by
  refine Met.ofW (cc := cX17_opAt) (maxL := 3) (ret := (some .char)) (by decide) rfl ?_
  intro p e s m args below meth c s₁ B hml hv
  obtain ⟨rfl, hsz, hP, hK, hD0, hE⟩ := hv
  have hx := B.exec
  have hb := B.bytes
  have hr := B.returns
  have hts0 := atoms_spec (ws := ws_ yX17_opAt cX17_opAt 3 (some .char)) B.pre
  have hts := fun (w : Cond) (h : w ∈ pw) => hts0 w (List.mem_cons_of_mem _ h)
  have hown : s.vm.findClass RX17 = some m.cls := findClass_of_methodNamed B.named
  have hlocks := B.notSynchronized
  subst hsz
  have hD := hD0.self (sz := s.heap.size)
  generalize hAe : va_A [(h0, .inr (14, [.ref l1, .ref l2, .ref l3, .ref l4, .ref l5, .ref l6, .ref l7, .ref l8, .ref l9, .ref ce, .null, .int 0, .int 0, .int 0, .int 0, .int 0, .int 0, .int 0, .int 0, .int 0, .int 0, .int 0, .int 0, .long 0, .ref y1, .ref y2, .ref y3, .ref y4, .ref y5, .int 0, .int 0])), (l2, .inr (0, [.int 0, .ref z.1, .int 0]))] s.heap.size = A at hD hE ⊢
  have hA : ∀ q : Nat, s.heap.size ≤ q → A q := fun q h => by rw [← hAe]; exact Or.inr h
  have hS : va_S A s.heap s.heap [] := va_S.rf
  have hN := hE.1
  have hP : va_P (dC, dI) pcl [(h0, .inr (14, [.ref l1, .ref l2, .ref l3, .ref l4, .ref l5, .ref l6, .ref l7, .ref l8, .ref l9, .ref ce, .null, .int 0, .int 0, .int 0, .int 0, .int 0, .int 0, .int 0, .int 0, .int 0, .int 0, .int 0, .int 0, .long 0, .ref y1, .ref y2, .ref y3, .ref y4, .ref y5, .int 0, .int 0])), (l2, .inr (0, [.int 0, .ref z.1, .int 0]))] s.heap := hP
  have hl := lv_entry ([.ref h0, .int n, .int k]) (n := 3) (Nat.le_of_ble_eq_true rfl)
  rw [lg_entry_eq]
  generalize (lg_sl ([.ref h0, .int n, .int k]) ++ List.replicate (3 - (lg_sl ([.ref h0, .int n, .int k])).length) Slot.unset).toArray = ls at hl ⊢
  have hl : lv_has ls 3 [(0, .ref h0), (1, .int n), (2, .int k)] := hl
  obtain ⟨H, hH0⟩ : ∃ H, H = s.heap := ⟨_, rfl⟩
  rw [← hH0] at hP ⊢
  have hS : va_S A s.heap H [] := by rw [hH0]; exact hS
  refine lv_aload_n hx hb dX17_opAt_0 rfl (lv_at hl 0 rfl) ?_
  refine lv_iload_n hx hb dX17_opAt_1 rfl (lv_at hl 1 rfl) ?_
  refine lv_iload_n hx hb dX17_opAt_2 rfl (lv_at hl 2 rfl) ?_
  have hPc := hP.sub (ws' := [(h0, .inr (14, [.ref l1, .ref l2, .ref l3, .ref l4, .ref l5, .ref l6, .ref l7, .ref l8, .ref l9, .ref ce, .null, .int 0, .int 0, .int 0, .int 0, .int 0, .int 0, .int 0, .int 0, .int 0, .int 0, .int 0, .int 0, .long 0, .ref y1, .ref y2, .ref y3, .ref y4, .ref y5, .int 0, .int 0])), (l2, .inr (0, [.int 0, .ref z.1, .int 0]))]) [0, 1] rfl
  have hDc := hD.sub (ws' := [(h0, .inr (14, [.ref l1, .ref l2, .ref l3, .ref l4, .ref l5, .ref l6, .ref l7, .ref l8, .ref l9, .ref ce, .null, .int 0, .int 0, .int 0, .int 0, .int 0, .int 0, .int 0, .int 0, .int 0, .int 0, .int 0, .int 0, .long 0, .ref y1, .ref y2, .ref y3, .ref y4, .ref y5, .int 0, .int 0])), (l2, .inr (0, [.int 0, .ref z.1, .int 0]))]) [0, 1] (by decide) rfl
  have hKc := hK.sub (tys' := []) [] rfl
  have hFc := va_free (wc := [(h0, .inr (14, [.ref l1, .ref l2, .ref l3, .ref l4, .ref l5, .ref l6, .ref l7, .ref l8, .ref l9, .ref ce, .null, .int 0, .int 0, .int 0, .int 0, .int 0, .int 0, .int 0, .int 0, .int 0, .int 0, .int 0, .int 0, .long 0, .ref y1, .ref y2, .ref y3, .ref y4, .ref y5, .int 0, .int 0])), (l2, .inr (0, [.int 0, .ref z.1, .int 0]))]) hD hS hA [0, 1] rfl
  refine va_calli (va_runV (As := [.int n, .int k]) (rest := []) ⟨hx, hb, hml, hown, hts⟩ (c_X17_isOp l dC dI z h0 l1 l2 l3 l4 l5 l6 l7 l8 l9 ce y1 y2 y3 y4 y5 n k H.size) (cwV 2 hts (ws_goodV e261 e262 e264 e212 e263) rfl rfl rfl ⟨rfl, by decide +kernel, by decide +kernel, by decide +kernel⟩ ⟨Nat.le_of_ble_eq_true rfl, Nat.le_of_ble_eq_true rfl⟩) ⟨pPre_blind, va_recv hKc hPc (ci := 14) (q0 := 0) rfl rfl, fun U hU hW => ⟨rfl, pPre_at hPc hKc hDc hE hS hFc U hU hW⟩⟩ rfl rfl hl.1 rfl (lv_room (Nat.le_of_ble_eq_true rfl)) dX17_opAt_3 ⟨Nat.le_of_ble_eq_true rfl, Nat.le_of_ble_eq_true rfl⟩) hS (fun q _ h => hFc q h) hFc (fun r1 u2 t H1 locs ht hvm hw hB hz1 hk1 hS => ?_)
  obtain ⟨hP1, hK1, hD1⟩ := hB
  rw [ht] at hP1
  have hK1 := va_K.moved hvm.symm hK1
  obtain ⟨hP, hD⟩ := va_join (wr := []) (w1 := [(h0, .inr (14, [.ref l1, .ref l2, .ref l3, .ref l4, .ref l5, .ref l6, .ref l7, .ref l8, .ref l9, .ref ce, .null, .int 0, .int 0, .int 1, .int 0, .int 0, .int 0, .int 0, .int 0, .int 0, .int 0, .int 0, .int 0, .long 0, .ref y1, .ref y2, .ref y3, .ref y4, .ref y5, .int 0, .int 0]))]) hP hD [0, 1] [] rfl rfl (by decide) (by decide) hk1 hFc hP1 hD1
  have hK := hK.app hK1
  generalize H1 = H at hP hS ⊢
  have hP : va_P (dC, dI) pcl [(h0, .inr (14, [.ref l1, .ref l2, .ref l3, .ref l4, .ref l5, .ref l6, .ref l7, .ref l8, .ref l9, .ref ce, .null, .int 0, .int 0, .int 1, .int 0, .int 0, .int 0, .int 0, .int 0, .int 0, .int 0, .int 0, .int 0, .long 0, .ref y1, .ref y2, .ref y3, .ref y4, .ref y5, .int 0, .int 0]))] H := hP
  have hD : va_D A [(h0, .inr (14, [.ref l1, .ref l2, .ref l3, .ref l4, .ref l5, .ref l6, .ref l7, .ref l8, .ref l9, .ref ce, .null, .int 0, .int 0, .int 1, .int 0, .int 0, .int 0, .int 0, .int 0, .int 0, .int 0, .int 0, .int 0, .long 0, .ref y1, .ref y2, .ref y3, .ref y4, .ref y5, .int 0, .int 0]))] := hD
  have hK : va_K (dC, dI) pcl [] s := hK
  subst hw
  refine lv_if_eq (tgt := 36) hx hb dX17_opAt_6 (by decide) (fun _ => ?_) (fun h9 => absurd (by decide) h9)
  refine lv_iconst (v := 0) hx hb dX17_opAt_36 (by decide) ?_
  have hP9 := hP.sub (ws' := [(h0, .inr (14, [.ref l1, .ref l2, .ref l3, .ref l4, .ref l5, .ref l6, .ref l7, .ref l8, .ref l9, .ref ce, .null, .int 0, .int 0, .int 1, .int 0, .int 0, .int 0, .int 0, .int 0, .int 0, .int 0, .int 0, .int 0, .long 0, .ref y1, .ref y2, .ref y3, .ref y4, .ref y5, .int 0, .int 0]))]) [0] rfl
  have hD9 := hD.sub (ws' := [(h0, .inr (14, [.ref l1, .ref l2, .ref l3, .ref l4, .ref l5, .ref l6, .ref l7, .ref l8, .ref l9, .ref ce, .null, .int 0, .int 0, .int 1, .int 0, .int 0, .int 0, .int 0, .int 0, .int 0, .int 0, .int 0, .int 0, .long 0, .ref y1, .ref y2, .ref y3, .ref y4, .ref y5, .int 0, .int 0]))]) [0] (by decide) rfl
  have hK9 := hK.sub (tys' := []) [] rfl
  refine W.widen (k := 0) (n := 0) (Nat.le_of_ble_eq_true rfl) (Nat.le_of_ble_eq_true rfl) ?_
  exact W.zret (v := 0) hx hb hr rfl (fun t ht hW => ⟨⟨0, (), rfl, rfl, by rw [ht]; exact hP9, va_K.moved hW.alike hK9, hD9⟩, hS.F ht⟩) hS.2.2 dX17_opAt_37
set_option maxHeartbeats 4000000 in
set_option maxRecDepth 100000 in
theorem c_X17_opNumber (l : Launch) (dC : Nat → ClassId) (dI : Nat → Nat → Nat) (z : pG) (h0 : Nat) (l1 : Nat) (l2 : Nat) (l3 : Nat) (l4 : Nat) (l5 : Nat) (l6 : Nat) (l7 : Nat) (l8 : Nat) (l9 : Nat) (ce : Nat) (y1 : Nat) (y2 : Nat) (y3 : Nat) (y4 : Nat) (y5 : Nat) (n : Int32) (k : Int32) (sz : Nat) : Met l yX17_opNumber (ws_ yX17_opNumber cX17_opNumber 3 (some .int)) ({ frames := 2, cells := 0, slots := 0, locals := 44 }) (va_Pc [.ref h0, .int n, .int k] (pPre z dC dI [(h0, .inr (14, [.ref l1, .ref l2, .ref l3, .ref l4, .ref l5, .ref l6, .ref l7, .ref l8, .ref l9, .ref ce, .null, .int 0, .int 0, .int 0, .int 0, .int 0, .int 0, .int 0, .int 0, .int 0, .int 0, .int 0, .int 0, .long 0, .ref y1, .ref y2, .ref y3, .ref y4, .ref y5, .int 0, .int 0])), (l2, .inr (0, [.int 0, .ref z.1, .int 0]))] [] sz)) (va_Qi (fun (r : Int32) (_ : Unit) => r = 0) (fun _ t => pPost dC dI (va_A [(h0, .inr (14, [.ref l1, .ref l2, .ref l3, .ref l4, .ref l5, .ref l6, .ref l7, .ref l8, .ref l9, .ref ce, .null, .int 0, .int 0, .int 0, .int 0, .int 0, .int 0, .int 0, .int 0, .int 0, .int 0, .int 0, .int 0, .long 0, .ref y1, .ref y2, .ref y3, .ref y4, .ref y5, .int 0, .int 0])), (l2, .inr (0, [.int 0, .ref z.1, .int 0]))] sz) [(h0, .inr (14, [.ref l1, .ref l2, .ref l3, .ref l4, .ref l5, .ref l6, .ref l7, .ref l8, .ref l9, .ref ce, .null, .int 0, .int 0, .int 1, .int 0, .int 0, .int 0, .int 0, .int 0, .int 0, .int 0, .int 0, .int 0, .long 0, .ref y1, .ref y2, .ref y3, .ref y4, .ref y5, .int 0, .int 0]))] [] t) (va_A [(h0, .inr (14, [.ref l1, .ref l2, .ref l3, .ref l4, .ref l5, .ref l6, .ref l7, .ref l8, .ref l9, .ref ce, .null, .int 0, .int 0, .int 0, .int 0, .int 0, .int 0, .int 0, .int 0, .int 0, .int 0, .int 0, .int 0, .long 0, .ref y1, .ref y2, .ref y3, .ref y4, .ref y5, .int 0, .int 0])), (l2, .inr (0, [.int 0, .ref z.1, .int 0]))] sz)) 0 0 (va_A [(h0, .inr (14, [.ref l1, .ref l2, .ref l3, .ref l4, .ref l5, .ref l6, .ref l7, .ref l8, .ref l9, .ref ce, .null, .int 0, .int 0, .int 0, .int 0, .int 0, .int 0, .int 0, .int 0, .int 0, .int 0, .int 0, .int 0, .long 0, .ref y1, .ref y2, .ref y3, .ref y4, .ref y5, .int 0, .int 0])), (l2, .inr (0, [.int 0, .ref z.1, .int 0]))] sz) := by
  refine Met.ofW (cc := cX17_opNumber) (maxL := 3) (ret := (some .int)) (by decide) rfl ?_
  intro p e s m args below meth c s₁ B hml hv
  obtain ⟨rfl, hsz, hP, hK, hD0, hE⟩ := hv
  have hx := B.exec
  have hb := B.bytes
  have hr := B.returns
  have hts0 := atoms_spec (ws := ws_ yX17_opNumber cX17_opNumber 3 (some .int)) B.pre
  have hts := fun (w : Cond) (h : w ∈ pw) => hts0 w (List.mem_cons_of_mem _ h)
  have hown : s.vm.findClass RX17 = some m.cls := findClass_of_methodNamed B.named
  have hlocks := B.notSynchronized
  subst hsz
  have hD := hD0.self (sz := s.heap.size)
  generalize hAe : va_A [(h0, .inr (14, [.ref l1, .ref l2, .ref l3, .ref l4, .ref l5, .ref l6, .ref l7, .ref l8, .ref l9, .ref ce, .null, .int 0, .int 0, .int 0, .int 0, .int 0, .int 0, .int 0, .int 0, .int 0, .int 0, .int 0, .int 0, .long 0, .ref y1, .ref y2, .ref y3, .ref y4, .ref y5, .int 0, .int 0])), (l2, .inr (0, [.int 0, .ref z.1, .int 0]))] s.heap.size = A at hD hE ⊢
  have hA : ∀ q : Nat, s.heap.size ≤ q → A q := fun q h => by rw [← hAe]; exact Or.inr h
  have hS : va_S A s.heap s.heap [] := va_S.rf
  have hN := hE.1
  have hP : va_P (dC, dI) pcl [(h0, .inr (14, [.ref l1, .ref l2, .ref l3, .ref l4, .ref l5, .ref l6, .ref l7, .ref l8, .ref l9, .ref ce, .null, .int 0, .int 0, .int 0, .int 0, .int 0, .int 0, .int 0, .int 0, .int 0, .int 0, .int 0, .int 0, .long 0, .ref y1, .ref y2, .ref y3, .ref y4, .ref y5, .int 0, .int 0])), (l2, .inr (0, [.int 0, .ref z.1, .int 0]))] s.heap := hP
  have hl := lv_entry ([.ref h0, .int n, .int k]) (n := 3) (Nat.le_of_ble_eq_true rfl)
  rw [lg_entry_eq]
  generalize (lg_sl ([.ref h0, .int n, .int k]) ++ List.replicate (3 - (lg_sl ([.ref h0, .int n, .int k])).length) Slot.unset).toArray = ls at hl ⊢
  have hl : lv_has ls 3 [(0, .ref h0), (1, .int n), (2, .int k)] := hl
  obtain ⟨H, hH0⟩ : ∃ H, H = s.heap := ⟨_, rfl⟩
  rw [← hH0] at hP ⊢
  have hS : va_S A s.heap H [] := by rw [hH0]; exact hS
  refine lv_aload_n hx hb dX17_opNumber_0 rfl (lv_at hl 0 rfl) ?_
  refine lv_iload_n hx hb dX17_opNumber_1 rfl (lv_at hl 1 rfl) ?_
  refine lv_iload_n hx hb dX17_opNumber_2 rfl (lv_at hl 2 rfl) ?_
  have hPc := hP.sub (ws' := [(h0, .inr (14, [.ref l1, .ref l2, .ref l3, .ref l4, .ref l5, .ref l6, .ref l7, .ref l8, .ref l9, .ref ce, .null, .int 0, .int 0, .int 0, .int 0, .int 0, .int 0, .int 0, .int 0, .int 0, .int 0, .int 0, .int 0, .long 0, .ref y1, .ref y2, .ref y3, .ref y4, .ref y5, .int 0, .int 0])), (l2, .inr (0, [.int 0, .ref z.1, .int 0]))]) [0, 1] rfl
  have hDc := hD.sub (ws' := [(h0, .inr (14, [.ref l1, .ref l2, .ref l3, .ref l4, .ref l5, .ref l6, .ref l7, .ref l8, .ref l9, .ref ce, .null, .int 0, .int 0, .int 0, .int 0, .int 0, .int 0, .int 0, .int 0, .int 0, .int 0, .int 0, .int 0, .long 0, .ref y1, .ref y2, .ref y3, .ref y4, .ref y5, .int 0, .int 0])), (l2, .inr (0, [.int 0, .ref z.1, .int 0]))]) [0, 1] (by decide) rfl
  have hKc := hK.sub (tys' := []) [] rfl
  have hFc := va_free (wc := [(h0, .inr (14, [.ref l1, .ref l2, .ref l3, .ref l4, .ref l5, .ref l6, .ref l7, .ref l8, .ref l9, .ref ce, .null, .int 0, .int 0, .int 0, .int 0, .int 0, .int 0, .int 0, .int 0, .int 0, .int 0, .int 0, .int 0, .long 0, .ref y1, .ref y2, .ref y3, .ref y4, .ref y5, .int 0, .int 0])), (l2, .inr (0, [.int 0, .ref z.1, .int 0]))]) hD hS hA [0, 1] rfl
  refine va_calli (va_runV (As := [.int n, .int k]) (rest := []) ⟨hx, hb, hml, hown, hts⟩ (c_X17_isOp l dC dI z h0 l1 l2 l3 l4 l5 l6 l7 l8 l9 ce y1 y2 y3 y4 y5 n k H.size) (cwV 2 hts (ws_goodV e261 e262 e264 e212 e263) rfl rfl rfl ⟨rfl, by decide +kernel, by decide +kernel, by decide +kernel⟩ ⟨Nat.le_of_ble_eq_true rfl, Nat.le_of_ble_eq_true rfl⟩) ⟨pPre_blind, va_recv hKc hPc (ci := 14) (q0 := 0) rfl rfl, fun U hU hW => ⟨rfl, pPre_at hPc hKc hDc hE hS hFc U hU hW⟩⟩ rfl rfl hl.1 rfl (lv_room (Nat.le_of_ble_eq_true rfl)) dX17_opNumber_3 ⟨Nat.le_of_ble_eq_true rfl, Nat.le_of_ble_eq_true rfl⟩) hS (fun q _ h => hFc q h) hFc (fun r1 u2 t H1 locs ht hvm hw hB hz1 hk1 hS => ?_)
  obtain ⟨hP1, hK1, hD1⟩ := hB
  rw [ht] at hP1
  have hK1 := va_K.moved hvm.symm hK1
  obtain ⟨hP, hD⟩ := va_join (wr := []) (w1 := [(h0, .inr (14, [.ref l1, .ref l2, .ref l3, .ref l4, .ref l5, .ref l6, .ref l7, .ref l8, .ref l9, .ref ce, .null, .int 0, .int 0, .int 1, .int 0, .int 0, .int 0, .int 0, .int 0, .int 0, .int 0, .int 0, .int 0, .long 0, .ref y1, .ref y2, .ref y3, .ref y4, .ref y5, .int 0, .int 0]))]) hP hD [0, 1] [] rfl rfl (by decide) (by decide) hk1 hFc hP1 hD1
  have hK := hK.app hK1
  generalize H1 = H at hP hS ⊢
  have hP : va_P (dC, dI) pcl [(h0, .inr (14, [.ref l1, .ref l2, .ref l3, .ref l4, .ref l5, .ref l6, .ref l7, .ref l8, .ref l9, .ref ce, .null, .int 0, .int 0, .int 1, .int 0, .int 0, .int 0, .int 0, .int 0, .int 0, .int 0, .int 0, .int 0, .long 0, .ref y1, .ref y2, .ref y3, .ref y4, .ref y5, .int 0, .int 0]))] H := hP
  have hD : va_D A [(h0, .inr (14, [.ref l1, .ref l2, .ref l3, .ref l4, .ref l5, .ref l6, .ref l7, .ref l8, .ref l9, .ref ce, .null, .int 0, .int 0, .int 1, .int 0, .int 0, .int 0, .int 0, .int 0, .int 0, .int 0, .int 0, .int 0, .long 0, .ref y1, .ref y2, .ref y3, .ref y4, .ref y5, .int 0, .int 0]))] := hD
  have hK : va_K (dC, dI) pcl [] s := hK
  subst hw
  refine lv_if_eq (tgt := 36) hx hb dX17_opNumber_6 (by decide) (fun _ => ?_) (fun h9 => absurd (by decide) h9)
  refine lv_iconst (v := 0) hx hb dX17_opNumber_36 (by decide) ?_
  have hP9 := hP.sub (ws' := [(h0, .inr (14, [.ref l1, .ref l2, .ref l3, .ref l4, .ref l5, .ref l6, .ref l7, .ref l8, .ref l9, .ref ce, .null, .int 0, .int 0, .int 1, .int 0, .int 0, .int 0, .int 0, .int 0, .int 0, .int 0, .int 0, .int 0, .long 0, .ref y1, .ref y2, .ref y3, .ref y4, .ref y5, .int 0, .int 0]))]) [0] rfl
  have hD9 := hD.sub (ws' := [(h0, .inr (14, [.ref l1, .ref l2, .ref l3, .ref l4, .ref l5, .ref l6, .ref l7, .ref l8, .ref l9, .ref ce, .null, .int 0, .int 0, .int 1, .int 0, .int 0, .int 0, .int 0, .int 0, .int 0, .int 0, .int 0, .int 0, .long 0, .ref y1, .ref y2, .ref y3, .ref y4, .ref y5, .int 0, .int 0]))]) [0] (by decide) rfl
  have hK9 := hK.sub (tys' := []) [] rfl
  refine W.widen (k := 0) (n := 0) (Nat.le_of_ble_eq_true rfl) (Nat.le_of_ble_eq_true rfl) ?_
  exact W.iret (v := 0) hx hb hr (fun t ht hW => ⟨⟨0, (), rfl, rfl, by rw [ht]; exact hP9, va_K.moved hW.alike hK9, hD9⟩, hS.F ht⟩) hS.2.2 dX17_opNumber_37
set_option maxHeartbeats 4000000 in
set_option maxRecDepth 100000 in
theorem c_X17_isMaking (l : Launch) (dC : Nat → ClassId) (dI : Nat → Nat → Nat) (z : pG) (h0 : Nat) (l1 : Nat) (l2 : Nat) (l3 : Nat) (l4 : Nat) (l5 : Nat) (l6 : Nat) (l7 : Nat) (l8 : Nat) (l9 : Nat) (ce : Nat) (y1 : Nat) (y2 : Nat) (y3 : Nat) (y4 : Nat) (y5 : Nat) (sz : Nat) : Met l yX17_isMaking (ws_ yX17_isMaking cX17_isMaking 1 (some .boolean)) ({ frames := 0, cells := 0, slots := 0, locals := 0 }) (va_Pc [.ref h0] (pPre z dC dI [(h0, .inr (14, [.ref l1, .ref l2, .ref l3, .ref l4, .ref l5, .ref l6, .ref l7, .ref l8, .ref l9, .ref ce, .null, .int 0, .int 0, .int 0, .int 0, .int 0, .int 0, .int 0, .int 0, .int 0, .int 0, .int 0, .int 0, .long 0, .ref y1, .ref y2, .ref y3, .ref y4, .ref y5, .int 0, .int 0]))] [] sz)) (va_Qi (fun (r : Int32) (_ : Unit) => r = 0) (fun _ t => pPost dC dI (va_A [(h0, .inr (14, [.ref l1, .ref l2, .ref l3, .ref l4, .ref l5, .ref l6, .ref l7, .ref l8, .ref l9, .ref ce, .null, .int 0, .int 0, .int 0, .int 0, .int 0, .int 0, .int 0, .int 0, .int 0, .int 0, .int 0, .int 0, .long 0, .ref y1, .ref y2, .ref y3, .ref y4, .ref y5, .int 0, .int 0]))] sz) [(h0, .inr (14, [.ref l1, .ref l2, .ref l3, .ref l4, .ref l5, .ref l6, .ref l7, .ref l8, .ref l9, .ref ce, .null, .int 0, .int 0, .int 0, .int 0, .int 0, .int 0, .int 0, .int 0, .int 0, .int 0, .int 0, .int 0, .long 0, .ref y1, .ref y2, .ref y3, .ref y4, .ref y5, .int 0, .int 0]))] [] t) (va_A [(h0, .inr (14, [.ref l1, .ref l2, .ref l3, .ref l4, .ref l5, .ref l6, .ref l7, .ref l8, .ref l9, .ref ce, .null, .int 0, .int 0, .int 0, .int 0, .int 0, .int 0, .int 0, .int 0, .int 0, .int 0, .int 0, .int 0, .long 0, .ref y1, .ref y2, .ref y3, .ref y4, .ref y5, .int 0, .int 0]))] sz)) 0 0 (va_A [(h0, .inr (14, [.ref l1, .ref l2, .ref l3, .ref l4, .ref l5, .ref l6, .ref l7, .ref l8, .ref l9, .ref ce, .null, .int 0, .int 0, .int 0, .int 0, .int 0, .int 0, .int 0, .int 0, .int 0, .int 0, .int 0, .int 0, .long 0, .ref y1, .ref y2, .ref y3, .ref y4, .ref y5, .int 0, .int 0]))] sz) := by
  refine Met.ofW (cc := cX17_isMaking) (maxL := 1) (ret := (some .boolean)) (by decide) rfl ?_
  intro p e s m args below meth c s₁ B hml hv
  obtain ⟨rfl, hsz, hP, hK, hD0, hE⟩ := hv
  have hx := B.exec
  have hb := B.bytes
  have hr := B.returns
  have hts0 := atoms_spec (ws := ws_ yX17_isMaking cX17_isMaking 1 (some .boolean)) B.pre
  have hts := fun (w : Cond) (h : w ∈ pw) => hts0 w (List.mem_cons_of_mem _ h)
  have hown : s.vm.findClass RX17 = some m.cls := findClass_of_methodNamed B.named
  have hlocks := B.notSynchronized
  subst hsz
  have hD := hD0.self (sz := s.heap.size)
  generalize hAe : va_A [(h0, .inr (14, [.ref l1, .ref l2, .ref l3, .ref l4, .ref l5, .ref l6, .ref l7, .ref l8, .ref l9, .ref ce, .null, .int 0, .int 0, .int 0, .int 0, .int 0, .int 0, .int 0, .int 0, .int 0, .int 0, .int 0, .int 0, .long 0, .ref y1, .ref y2, .ref y3, .ref y4, .ref y5, .int 0, .int 0]))] s.heap.size = A at hD hE ⊢
  have hA : ∀ q : Nat, s.heap.size ≤ q → A q := fun q h => by rw [← hAe]; exact Or.inr h
  have hS : va_S A s.heap s.heap [] := va_S.rf
  have hN := hE.1
  have hP : va_P (dC, dI) pcl [(h0, .inr (14, [.ref l1, .ref l2, .ref l3, .ref l4, .ref l5, .ref l6, .ref l7, .ref l8, .ref l9, .ref ce, .null, .int 0, .int 0, .int 0, .int 0, .int 0, .int 0, .int 0, .int 0, .int 0, .int 0, .int 0, .int 0, .long 0, .ref y1, .ref y2, .ref y3, .ref y4, .ref y5, .int 0, .int 0]))] s.heap := hP
  have hl := lv_entry ([.ref h0]) (n := 1) (Nat.le_of_ble_eq_true rfl)
  rw [lg_entry_eq]
  generalize (lg_sl ([.ref h0]) ++ List.replicate (1 - (lg_sl ([.ref h0])).length) Slot.unset).toArray = ls at hl ⊢
  have hl : lv_has ls 1 [(0, .ref h0)] := hl
  obtain ⟨H, hH0⟩ : ∃ H, H = s.heap := ⟨_, rfl⟩
  rw [← hH0] at hP ⊢
  have hS : va_S A s.heap H [] := by rw [hH0]; exact hS
  refine lv_aload_n hx hb dX17_isMaking_0 rfl (lv_at hl 0 rfl) ?_
  refine lv_iconst (v := 0) hx hb dX17_isMaking_1 (by decide) ?_
  refine va_put (D := (dC, dI)) (ci := 14) (v := .int 0) (ty := .int) (C := RX17) (T := TX17) (N := 31) hx hb hts pinX17 tyX17 tyX17_ok nmX17 hown hK hP hD hS 0 rfl rfl 13 (by decide) (hts _ e204) (fun _ h9 => h9) rfl (by decide +kernel) rfl rfl (Nat.le_of_ble_eq_true rfl) dX17_isMaking_2 (fun H locs hP hD hS => ?_)
  have hP : va_P (dC, dI) pcl [(h0, .inr (14, [.ref l1, .ref l2, .ref l3, .ref l4, .ref l5, .ref l6, .ref l7, .ref l8, .ref l9, .ref ce, .null, .int 0, .int 0, .int 0, .int 0, .int 0, .int 0, .int 0, .int 0, .int 0, .int 0, .int 0, .int 0, .long 0, .ref y1, .ref y2, .ref y3, .ref y4, .ref y5, .int 0, .int 0]))] H := hP
  have hD : va_D A [(h0, .inr (14, [.ref l1, .ref l2, .ref l3, .ref l4, .ref l5, .ref l6, .ref l7, .ref l8, .ref l9, .ref ce, .null, .int 0, .int 0, .int 0, .int 0, .int 0, .int 0, .int 0, .int 0, .int 0, .int 0, .int 0, .int 0, .long 0, .ref y1, .ref y2, .ref y3, .ref y4, .ref y5, .int 0, .int 0]))] := hD
  refine lv_aload_n hx hb dX17_isMaking_5 rfl (lv_at hl 0 rfl) ?_
  refine va_get (D := (dC, dI)) (ci := 14) (v := .null) (C := RX17) (T := TX17) (N := 31) hx hb hts pinX17 hown hK hP 0 rfl rfl 10 (by decide) (hts _ e265) (fun _ h9 => h9) rfl dX17_isMaking_6 ?_
  refine lv_ifnullN (tgt := 16) hx hb dX17_isMaking_9 (by decide) ?_
  refine lv_iconst (v := 0) hx hb dX17_isMaking_16 (by decide) ?_
  have hP9 := hP.sub (ws' := [(h0, .inr (14, [.ref l1, .ref l2, .ref l3, .ref l4, .ref l5, .ref l6, .ref l7, .ref l8, .ref l9, .ref ce, .null, .int 0, .int 0, .int 0, .int 0, .int 0, .int 0, .int 0, .int 0, .int 0, .int 0, .int 0, .int 0, .long 0, .ref y1, .ref y2, .ref y3, .ref y4, .ref y5, .int 0, .int 0]))]) [0] rfl
  have hD9 := hD.sub (ws' := [(h0, .inr (14, [.ref l1, .ref l2, .ref l3, .ref l4, .ref l5, .ref l6, .ref l7, .ref l8, .ref l9, .ref ce, .null, .int 0, .int 0, .int 0, .int 0, .int 0, .int 0, .int 0, .int 0, .int 0, .int 0, .int 0, .int 0, .long 0, .ref y1, .ref y2, .ref y3, .ref y4, .ref y5, .int 0, .int 0]))]) [0] (by decide) rfl
  have hK9 := hK.sub (tys' := []) [] rfl
  refine W.widen (k := 0) (n := 0) (Nat.le_of_ble_eq_true rfl) (Nat.le_of_ble_eq_true rfl) ?_
  exact W.zret (v := 0) hx hb hr rfl (fun t ht hW => ⟨⟨0, (), rfl, rfl, by rw [ht]; exact hP9, va_K.moved hW.alike hK9, hD9⟩, hS.F ht⟩) hS.2.2 dX17_isMaking_17
set_option maxHeartbeats 4000000 in
set_option maxRecDepth 100000 in
theorem c_X17_isSound (l : Launch) (dC : Nat → ClassId) (dI : Nat → Nat → Nat) (z : pG) (h0 : Nat) (l1 : Nat) (l2 : Nat) (l3 : Nat) (l4 : Nat) (l5 : Nat) (l6 : Nat) (l7 : Nat) (l8 : Nat) (l9 : Nat) (ce : Nat) (y1 : Nat) (y2 : Nat) (y3 : Nat) (y4 : Nat) (y5 : Nat) (sz : Nat) : Met l yX17_isSound (ws_ yX17_isSound cX17_isSound 1 (some .boolean)) ({ frames := 0, cells := 0, slots := 0, locals := 0 }) (va_Pc [.ref h0] (pPre z dC dI [(h0, .inr (14, [.ref l1, .ref l2, .ref l3, .ref l4, .ref l5, .ref l6, .ref l7, .ref l8, .ref l9, .ref ce, .null, .int 0, .int 0, .int 0, .int 0, .int 0, .int 0, .int 0, .int 0, .int 0, .int 0, .int 0, .int 0, .long 0, .ref y1, .ref y2, .ref y3, .ref y4, .ref y5, .int 0, .int 0]))] [] sz)) (va_Qi (fun (r : Int32) (_ : Unit) => r = 1) (fun _ t => pPost dC dI (va_A [(h0, .inr (14, [.ref l1, .ref l2, .ref l3, .ref l4, .ref l5, .ref l6, .ref l7, .ref l8, .ref l9, .ref ce, .null, .int 0, .int 0, .int 0, .int 0, .int 0, .int 0, .int 0, .int 0, .int 0, .int 0, .int 0, .int 0, .long 0, .ref y1, .ref y2, .ref y3, .ref y4, .ref y5, .int 0, .int 0]))] sz) [(h0, .inr (14, [.ref l1, .ref l2, .ref l3, .ref l4, .ref l5, .ref l6, .ref l7, .ref l8, .ref l9, .ref ce, .null, .int 0, .int 0, .int 0, .int 0, .int 0, .int 0, .int 0, .int 0, .int 0, .int 0, .int 0, .int 0, .long 0, .ref y1, .ref y2, .ref y3, .ref y4, .ref y5, .int 0, .int 0]))] [] t) (va_A [(h0, .inr (14, [.ref l1, .ref l2, .ref l3, .ref l4, .ref l5, .ref l6, .ref l7, .ref l8, .ref l9, .ref ce, .null, .int 0, .int 0, .int 0, .int 0, .int 0, .int 0, .int 0, .int 0, .int 0, .int 0, .int 0, .int 0, .long 0, .ref y1, .ref y2, .ref y3, .ref y4, .ref y5, .int 0, .int 0]))] sz)) 0 0 (va_A [(h0, .inr (14, [.ref l1, .ref l2, .ref l3, .ref l4, .ref l5, .ref l6, .ref l7, .ref l8, .ref l9, .ref ce, .null, .int 0, .int 0, .int 0, .int 0, .int 0, .int 0, .int 0, .int 0, .int 0, .int 0, .int 0, .int 0, .long 0, .ref y1, .ref y2, .ref y3, .ref y4, .ref y5, .int 0, .int 0]))] sz) := by
  refine Met.ofW (cc := cX17_isSound) (maxL := 1) (ret := (some .boolean)) (by decide) rfl ?_
  intro p e s m args below meth c s₁ B hml hv
  obtain ⟨rfl, hsz, hP, hK, hD0, hE⟩ := hv
  have hx := B.exec
  have hb := B.bytes
  have hr := B.returns
  have hts0 := atoms_spec (ws := ws_ yX17_isSound cX17_isSound 1 (some .boolean)) B.pre
  have hts := fun (w : Cond) (h : w ∈ pw) => hts0 w (List.mem_cons_of_mem _ h)
  have hown : s.vm.findClass RX17 = some m.cls := findClass_of_methodNamed B.named
  have hlocks := B.notSynchronized
  subst hsz
  have hD := hD0.self (sz := s.heap.size)
  generalize hAe : va_A [(h0, .inr (14, [.ref l1, .ref l2, .ref l3, .ref l4, .ref l5, .ref l6, .ref l7, .ref l8, .ref l9, .ref ce, .null, .int 0, .int 0, .int 0, .int 0, .int 0, .int 0, .int 0, .int 0, .int 0, .int 0, .int 0, .int 0, .long 0, .ref y1, .ref y2, .ref y3, .ref y4, .ref y5, .int 0, .int 0]))] s.heap.size = A at hD hE ⊢
  have hA : ∀ q : Nat, s.heap.size ≤ q → A q := fun q h => by rw [← hAe]; exact Or.inr h
  have hS : va_S A s.heap s.heap [] := va_S.rf
  have hN := hE.1
  have hP : va_P (dC, dI) pcl [(h0, .inr (14, [.ref l1, .ref l2, .ref l3, .ref l4, .ref l5, .ref l6, .ref l7, .ref l8, .ref l9, .ref ce, .null, .int 0, .int 0, .int 0, .int 0, .int 0, .int 0, .int 0, .int 0, .int 0, .int 0, .int 0, .int 0, .long 0, .ref y1, .ref y2, .ref y3, .ref y4, .ref y5, .int 0, .int 0]))] s.heap := hP
  have hl := lv_entry ([.ref h0]) (n := 1) (Nat.le_of_ble_eq_true rfl)
  rw [lg_entry_eq]
  generalize (lg_sl ([.ref h0]) ++ List.replicate (1 - (lg_sl ([.ref h0])).length) Slot.unset).toArray = ls at hl ⊢
  have hl : lv_has ls 1 [(0, .ref h0)] := hl
  obtain ⟨H, hH0⟩ : ∃ H, H = s.heap := ⟨_, rfl⟩
  rw [← hH0] at hP ⊢
  have hS : va_S A s.heap H [] := by rw [hH0]; exact hS
  refine lv_aload_n hx hb dX17_isSound_0 rfl (lv_at hl 0 rfl) ?_
  refine lv_iconst (v := 0) hx hb dX17_isSound_1 (by decide) ?_
  refine va_put (D := (dC, dI)) (ci := 14) (v := .int 0) (ty := .int) (C := RX17) (T := TX17) (N := 31) hx hb hts pinX17 tyX17 tyX17_ok nmX17 hown hK hP hD hS 0 rfl rfl 13 (by decide) (hts _ e204) (fun _ h9 => h9) rfl (by decide +kernel) rfl rfl (Nat.le_of_ble_eq_true rfl) dX17_isSound_2 (fun H locs hP hD hS => ?_)
  have hP : va_P (dC, dI) pcl [(h0, .inr (14, [.ref l1, .ref l2, .ref l3, .ref l4, .ref l5, .ref l6, .ref l7, .ref l8, .ref l9, .ref ce, .null, .int 0, .int 0, .int 0, .int 0, .int 0, .int 0, .int 0, .int 0, .int 0, .int 0, .int 0, .int 0, .long 0, .ref y1, .ref y2, .ref y3, .ref y4, .ref y5, .int 0, .int 0]))] H := hP
  have hD : va_D A [(h0, .inr (14, [.ref l1, .ref l2, .ref l3, .ref l4, .ref l5, .ref l6, .ref l7, .ref l8, .ref l9, .ref ce, .null, .int 0, .int 0, .int 0, .int 0, .int 0, .int 0, .int 0, .int 0, .int 0, .int 0, .int 0, .int 0, .long 0, .ref y1, .ref y2, .ref y3, .ref y4, .ref y5, .int 0, .int 0]))] := hD
  refine lv_iconst (v := 1) hx hb dX17_isSound_5 (by decide) ?_
  have hP9 := hP.sub (ws' := [(h0, .inr (14, [.ref l1, .ref l2, .ref l3, .ref l4, .ref l5, .ref l6, .ref l7, .ref l8, .ref l9, .ref ce, .null, .int 0, .int 0, .int 0, .int 0, .int 0, .int 0, .int 0, .int 0, .int 0, .int 0, .int 0, .int 0, .long 0, .ref y1, .ref y2, .ref y3, .ref y4, .ref y5, .int 0, .int 0]))]) [0] rfl
  have hD9 := hD.sub (ws' := [(h0, .inr (14, [.ref l1, .ref l2, .ref l3, .ref l4, .ref l5, .ref l6, .ref l7, .ref l8, .ref l9, .ref ce, .null, .int 0, .int 0, .int 0, .int 0, .int 0, .int 0, .int 0, .int 0, .int 0, .int 0, .int 0, .int 0, .long 0, .ref y1, .ref y2, .ref y3, .ref y4, .ref y5, .int 0, .int 0]))]) [0] (by decide) rfl
  have hK9 := hK.sub (tys' := []) [] rfl
  refine W.widen (k := 0) (n := 0) (Nat.le_of_ble_eq_true rfl) (Nat.le_of_ble_eq_true rfl) ?_
  exact W.zret (v := 1) hx hb hr rfl (fun t ht hW => ⟨⟨1, (), rfl, rfl, by rw [ht]; exact hP9, va_K.moved hW.alike hK9, hD9⟩, hS.F ht⟩) hS.2.2 dX17_isSound_6
set_option maxHeartbeats 4000000 in
set_option maxRecDepth 100000 in
theorem c_X17_steps (l : Launch) (dC : Nat → ClassId) (dI : Nat → Nat → Nat) (z : pG) (h0 : Nat) (l1 : Nat) (l2 : Nat) (l3 : Nat) (l4 : Nat) (l5 : Nat) (l6 : Nat) (l7 : Nat) (l8 : Nat) (l9 : Nat) (ce : Nat) (y1 : Nat) (y2 : Nat) (y3 : Nat) (y4 : Nat) (y5 : Nat) (sz : Nat) : Met l yX17_steps (ws_ yX17_steps cX17_steps 1 (some .long)) ({ frames := 0, cells := 0, slots := 0, locals := 0 }) (va_Pc [.ref h0] (pPre z dC dI [(h0, .inr (14, [.ref l1, .ref l2, .ref l3, .ref l4, .ref l5, .ref l6, .ref l7, .ref l8, .ref l9, .ref ce, .null, .int 0, .int 0, .int 0, .int 0, .int 0, .int 0, .int 0, .int 0, .int 0, .int 0, .int 0, .int 0, .long 0, .ref y1, .ref y2, .ref y3, .ref y4, .ref y5, .int 0, .int 0]))] [] sz)) (va_Ql (fun (r : Int64) (_ : Unit) => r = 0) (fun _ t => pPost dC dI (va_A [(h0, .inr (14, [.ref l1, .ref l2, .ref l3, .ref l4, .ref l5, .ref l6, .ref l7, .ref l8, .ref l9, .ref ce, .null, .int 0, .int 0, .int 0, .int 0, .int 0, .int 0, .int 0, .int 0, .int 0, .int 0, .int 0, .int 0, .long 0, .ref y1, .ref y2, .ref y3, .ref y4, .ref y5, .int 0, .int 0]))] sz) [(h0, .inr (14, [.ref l1, .ref l2, .ref l3, .ref l4, .ref l5, .ref l6, .ref l7, .ref l8, .ref l9, .ref ce, .null, .int 0, .int 0, .int 0, .int 0, .int 0, .int 0, .int 0, .int 0, .int 0, .int 0, .int 0, .int 0, .long 0, .ref y1, .ref y2, .ref y3, .ref y4, .ref y5, .int 0, .int 0]))] [] t) (va_A [(h0, .inr (14, [.ref l1, .ref l2, .ref l3, .ref l4, .ref l5, .ref l6, .ref l7, .ref l8, .ref l9, .ref ce, .null, .int 0, .int 0, .int 0, .int 0, .int 0, .int 0, .int 0, .int 0, .int 0, .int 0, .int 0, .int 0, .long 0, .ref y1, .ref y2, .ref y3, .ref y4, .ref y5, .int 0, .int 0]))] sz)) 0 0 (va_A [(h0, .inr (14, [.ref l1, .ref l2, .ref l3, .ref l4, .ref l5, .ref l6, .ref l7, .ref l8, .ref l9, .ref ce, .null, .int 0, .int 0, .int 0, .int 0, .int 0, .int 0, .int 0, .int 0, .int 0, .int 0, .int 0, .int 0, .long 0, .ref y1, .ref y2, .ref y3, .ref y4, .ref y5, .int 0, .int 0]))] sz) := by
  refine Met.ofW (cc := cX17_steps) (maxL := 1) (ret := (some .long)) (by decide) rfl ?_
  intro p e s m args below meth c s₁ B hml hv
  obtain ⟨rfl, hsz, hP, hK, hD0, hE⟩ := hv
  have hx := B.exec
  have hb := B.bytes
  have hr := B.returns
  have hts0 := atoms_spec (ws := ws_ yX17_steps cX17_steps 1 (some .long)) B.pre
  have hts := fun (w : Cond) (h : w ∈ pw) => hts0 w (List.mem_cons_of_mem _ h)
  have hown : s.vm.findClass RX17 = some m.cls := findClass_of_methodNamed B.named
  have hlocks := B.notSynchronized
  subst hsz
  have hD := hD0.self (sz := s.heap.size)
  generalize hAe : va_A [(h0, .inr (14, [.ref l1, .ref l2, .ref l3, .ref l4, .ref l5, .ref l6, .ref l7, .ref l8, .ref l9, .ref ce, .null, .int 0, .int 0, .int 0, .int 0, .int 0, .int 0, .int 0, .int 0, .int 0, .int 0, .int 0, .int 0, .long 0, .ref y1, .ref y2, .ref y3, .ref y4, .ref y5, .int 0, .int 0]))] s.heap.size = A at hD hE ⊢
  have hA : ∀ q : Nat, s.heap.size ≤ q → A q := fun q h => by rw [← hAe]; exact Or.inr h
  have hS : va_S A s.heap s.heap [] := va_S.rf
  have hN := hE.1
  have hP : va_P (dC, dI) pcl [(h0, .inr (14, [.ref l1, .ref l2, .ref l3, .ref l4, .ref l5, .ref l6, .ref l7, .ref l8, .ref l9, .ref ce, .null, .int 0, .int 0, .int 0, .int 0, .int 0, .int 0, .int 0, .int 0, .int 0, .int 0, .int 0, .int 0, .long 0, .ref y1, .ref y2, .ref y3, .ref y4, .ref y5, .int 0, .int 0]))] s.heap := hP
  have hl := lv_entry ([.ref h0]) (n := 1) (Nat.le_of_ble_eq_true rfl)
  rw [lg_entry_eq]
  generalize (lg_sl ([.ref h0]) ++ List.replicate (1 - (lg_sl ([.ref h0])).length) Slot.unset).toArray = ls at hl ⊢
  have hl : lv_has ls 1 [(0, .ref h0)] := hl
  obtain ⟨H, hH0⟩ : ∃ H, H = s.heap := ⟨_, rfl⟩
  rw [← hH0] at hP ⊢
  have hS : va_S A s.heap H [] := by rw [hH0]; exact hS
  refine lv_aload_n hx hb dX17_steps_0 rfl (lv_at hl 0 rfl) ?_
  refine lv_iconst (v := 0) hx hb dX17_steps_1 (by decide) ?_
  refine va_put (D := (dC, dI)) (ci := 14) (v := .int 0) (ty := .int) (C := RX17) (T := TX17) (N := 31) hx hb hts pinX17 tyX17 tyX17_ok nmX17 hown hK hP hD hS 0 rfl rfl 13 (by decide) (hts _ e204) (fun _ h9 => h9) rfl (by decide +kernel) rfl rfl (Nat.le_of_ble_eq_true rfl) dX17_steps_2 (fun H locs hP hD hS => ?_)
  have hP : va_P (dC, dI) pcl [(h0, .inr (14, [.ref l1, .ref l2, .ref l3, .ref l4, .ref l5, .ref l6, .ref l7, .ref l8, .ref l9, .ref ce, .null, .int 0, .int 0, .int 0, .int 0, .int 0, .int 0, .int 0, .int 0, .int 0, .int 0, .int 0, .int 0, .long 0, .ref y1, .ref y2, .ref y3, .ref y4, .ref y5, .int 0, .int 0]))] H := hP
  have hD : va_D A [(h0, .inr (14, [.ref l1, .ref l2, .ref l3, .ref l4, .ref l5, .ref l6, .ref l7, .ref l8, .ref l9, .ref ce, .null, .int 0, .int 0, .int 0, .int 0, .int 0, .int 0, .int 0, .int 0, .int 0, .int 0, .int 0, .int 0, .long 0, .ref y1, .ref y2, .ref y3, .ref y4, .ref y5, .int 0, .int 0]))] := hD
  refine lv_aload_n hx hb dX17_steps_5 rfl (lv_at hl 0 rfl) ?_
  refine va_get (D := (dC, dI)) (ci := 14) (v := .long 0) (C := RX17) (T := TX17) (N := 31) hx hb hts pinX17 hown hK hP 0 rfl rfl 23 (by decide) (hts _ e266) (fun _ h9 => h9) rfl dX17_steps_6 ?_
  have hP9 := hP.sub (ws' := [(h0, .inr (14, [.ref l1, .ref l2, .ref l3, .ref l4, .ref l5, .ref l6, .ref l7, .ref l8, .ref l9, .ref ce, .null, .int 0, .int 0, .int 0, .int 0, .int 0, .int 0, .int 0, .int 0, .int 0, .int 0, .int 0, .int 0, .long 0, .ref y1, .ref y2, .ref y3, .ref y4, .ref y5, .int 0, .int 0]))]) [0] rfl
  have hD9 := hD.sub (ws' := [(h0, .inr (14, [.ref l1, .ref l2, .ref l3, .ref l4, .ref l5, .ref l6, .ref l7, .ref l8, .ref l9, .ref ce, .null, .int 0, .int 0, .int 0, .int 0, .int 0, .int 0, .int 0, .int 0, .int 0, .int 0, .int 0, .int 0, .long 0, .ref y1, .ref y2, .ref y3, .ref y4, .ref y5, .int 0, .int 0]))]) [0] (by decide) rfl
  have hK9 := hK.sub (tys' := []) [] rfl
  refine W.widen (k := 0) (n := 0) (Nat.le_of_ble_eq_true rfl) (Nat.le_of_ble_eq_true rfl) ?_
  exact W.lret (v := 0) hx hb hr (fun t ht hW => ⟨⟨0, (), rfl, rfl, by rw [ht]; exact hP9, va_K.moved hW.alike hK9, hD9⟩, hS.F ht⟩) hS.2.2 dX17_steps_9
set_option maxHeartbeats 4000000 in
set_option maxRecDepth 100000 in
theorem c_X17_errorShare (l : Launch) (dC : Nat → ClassId) (dI : Nat → Nat → Nat) (z : pG) (h0 : Nat) (l1 : Nat) (l2 : Nat) (l3 : Nat) (l4 : Nat) (l5 : Nat) (l6 : Nat) (l7 : Nat) (l8 : Nat) (l9 : Nat) (ce : Nat) (y1 : Nat) (y2 : Nat) (y3 : Nat) (y4 : Nat) (y5 : Nat) (sz : Nat) : Met l yX17_errorShare (ws_ yX17_errorShare cX17_errorShare 1 (some .float)) ({ frames := 0, cells := 0, slots := 0, locals := 0 }) (va_Pc [.ref h0] (pPre z dC dI [(h0, .inr (14, [.ref l1, .ref l2, .ref l3, .ref l4, .ref l5, .ref l6, .ref l7, .ref l8, .ref l9, .ref ce, .null, .int 0, .int 0, .int 0, .int 0, .int 0, .int 0, .int 0, .int 0, .int 0, .int 0, .int 0, .int 0, .long 0, .ref y1, .ref y2, .ref y3, .ref y4, .ref y5, .int 0, .int 0]))] [] sz)) (va_Qf (fun (r : UInt32) (_ : Unit) => True) (fun _ t => pPost dC dI (va_A [(h0, .inr (14, [.ref l1, .ref l2, .ref l3, .ref l4, .ref l5, .ref l6, .ref l7, .ref l8, .ref l9, .ref ce, .null, .int 0, .int 0, .int 0, .int 0, .int 0, .int 0, .int 0, .int 0, .int 0, .int 0, .int 0, .int 0, .long 0, .ref y1, .ref y2, .ref y3, .ref y4, .ref y5, .int 0, .int 0]))] sz) [(h0, .inr (14, [.ref l1, .ref l2, .ref l3, .ref l4, .ref l5, .ref l6, .ref l7, .ref l8, .ref l9, .ref ce, .null, .int 0, .int 0, .int 1, .int 0, .int 0, .int 0, .int 0, .int 0, .int 0, .int 0, .int 0, .int 0, .long 0, .ref y1, .ref y2, .ref y3, .ref y4, .ref y5, .int 0, .int 0]))] [] t) (va_A [(h0, .inr (14, [.ref l1, .ref l2, .ref l3, .ref l4, .ref l5, .ref l6, .ref l7, .ref l8, .ref l9, .ref ce, .null, .int 0, .int 0, .int 0, .int 0, .int 0, .int 0, .int 0, .int 0, .int 0, .int 0, .int 0, .int 0, .long 0, .ref y1, .ref y2, .ref y3, .ref y4, .ref y5, .int 0, .int 0]))] sz)) 0 0 (va_A [(h0, .inr (14, [.ref l1, .ref l2, .ref l3, .ref l4, .ref l5, .ref l6, .ref l7, .ref l8, .ref l9, .ref ce, .null, .int 0, .int 0, .int 0, .int 0, .int 0, .int 0, .int 0, .int 0, .int 0, .int 0, .int 0, .int 0, .long 0, .ref y1, .ref y2, .ref y3, .ref y4, .ref y5, .int 0, .int 0]))] sz) := by
  refine Met.ofW (cc := cX17_errorShare) (maxL := 1) (ret := (some .float)) (by decide) rfl ?_
  intro p e s m args below meth c s₁ B hml hv
  obtain ⟨rfl, hsz, hP, hK, hD0, hE⟩ := hv
  have hx := B.exec
  have hb := B.bytes
  have hr := B.returns
  have hts0 := atoms_spec (ws := ws_ yX17_errorShare cX17_errorShare 1 (some .float)) B.pre
  have hts := fun (w : Cond) (h : w ∈ pw) => hts0 w (List.mem_cons_of_mem _ h)
  have hown : s.vm.findClass RX17 = some m.cls := findClass_of_methodNamed B.named
  have hlocks := B.notSynchronized
  subst hsz
  have hD := hD0.self (sz := s.heap.size)
  generalize hAe : va_A [(h0, .inr (14, [.ref l1, .ref l2, .ref l3, .ref l4, .ref l5, .ref l6, .ref l7, .ref l8, .ref l9, .ref ce, .null, .int 0, .int 0, .int 0, .int 0, .int 0, .int 0, .int 0, .int 0, .int 0, .int 0, .int 0, .int 0, .long 0, .ref y1, .ref y2, .ref y3, .ref y4, .ref y5, .int 0, .int 0]))] s.heap.size = A at hD hE ⊢
  have hA : ∀ q : Nat, s.heap.size ≤ q → A q := fun q h => by rw [← hAe]; exact Or.inr h
  have hS : va_S A s.heap s.heap [] := va_S.rf
  have hN := hE.1
  have hP : va_P (dC, dI) pcl [(h0, .inr (14, [.ref l1, .ref l2, .ref l3, .ref l4, .ref l5, .ref l6, .ref l7, .ref l8, .ref l9, .ref ce, .null, .int 0, .int 0, .int 0, .int 0, .int 0, .int 0, .int 0, .int 0, .int 0, .int 0, .int 0, .int 0, .long 0, .ref y1, .ref y2, .ref y3, .ref y4, .ref y5, .int 0, .int 0]))] s.heap := hP
  have hl := lv_entry ([.ref h0]) (n := 1) (Nat.le_of_ble_eq_true rfl)
  rw [lg_entry_eq]
  generalize (lg_sl ([.ref h0]) ++ List.replicate (1 - (lg_sl ([.ref h0])).length) Slot.unset).toArray = ls at hl ⊢
  have hl : lv_has ls 1 [(0, .ref h0)] := hl
  obtain ⟨H, hH0⟩ : ∃ H, H = s.heap := ⟨_, rfl⟩
  rw [← hH0] at hP ⊢
  have hS : va_S A s.heap H [] := by rw [hH0]; exact hS
  refine lv_aload_n hx hb dX17_errorShare_0 rfl (lv_at hl 0 rfl) ?_
  refine lv_aload_n hx hb dX17_errorShare_1 rfl (lv_at hl 0 rfl) ?_
  refine va_get (D := (dC, dI)) (ci := 14) (v := .int 0) (C := RX17) (T := TX17) (N := 31) hx hb hts pinX17 hown hK hP 0 rfl rfl 20 (by decide) (hts _ e241) (fun _ h9 => h9) rfl dX17_errorShare_2 ?_
  refine lv_if_ne (tgt := 12) hx hb dX17_errorShare_5 (by decide) (fun h9 => absurd (by decide) h9) (fun _ => ?_)
  refine lv_iconst (v := 1) hx hb dX17_errorShare_8 (by decide) ?_
  refine lv_goto (tgt := 13) hx hb dX17_errorShare_9 (by decide) ?_
  refine va_put (D := (dC, dI)) (ci := 14) (v := .int 1) (ty := .int) (C := RX17) (T := TX17) (N := 31) hx hb hts pinX17 tyX17 tyX17_ok nmX17 hown hK hP hD hS 0 rfl rfl 13 (by decide) (hts _ e204) (fun _ h9 => h9) rfl (by decide +kernel) rfl rfl (Nat.le_of_ble_eq_true rfl) dX17_errorShare_13 (fun H locs hP hD hS => ?_)
  have hP : va_P (dC, dI) pcl [(h0, .inr (14, [.ref l1, .ref l2, .ref l3, .ref l4, .ref l5, .ref l6, .ref l7, .ref l8, .ref l9, .ref ce, .null, .int 0, .int 0, .int 1, .int 0, .int 0, .int 0, .int 0, .int 0, .int 0, .int 0, .int 0, .int 0, .long 0, .ref y1, .ref y2, .ref y3, .ref y4, .ref y5, .int 0, .int 0]))] H := hP
  have hD : va_D A [(h0, .inr (14, [.ref l1, .ref l2, .ref l3, .ref l4, .ref l5, .ref l6, .ref l7, .ref l8, .ref l9, .ref ce, .null, .int 0, .int 0, .int 1, .int 0, .int 0, .int 0, .int 0, .int 0, .int 0, .int 0, .int 0, .int 0, .long 0, .ref y1, .ref y2, .ref y3, .ref y4, .ref y5, .int 0, .int 0]))] := hD
  refine lv_aload_n hx hb dX17_errorShare_16 rfl (lv_at hl 0 rfl) ?_
  refine va_get (D := (dC, dI)) (ci := 14) (v := .int 0) (C := RX17) (T := TX17) (N := 31) hx hb hts pinX17 hown hK hP 0 rfl rfl 20 (by decide) (hts _ e241) (fun _ h9 => h9) rfl dX17_errorShare_17 ?_
  refine lv_if_ne (tgt := 27) hx hb dX17_errorShare_20 (by decide) (fun h9 => absurd (by decide) h9) (fun _ => ?_)
  refine lv_fconst0 hx hb dX17_errorShare_23 ?_
  refine lv_goto (tgt := 38) hx hb dX17_errorShare_24 (by decide) ?_
  have hP9 := hP.sub (ws' := [(h0, .inr (14, [.ref l1, .ref l2, .ref l3, .ref l4, .ref l5, .ref l6, .ref l7, .ref l8, .ref l9, .ref ce, .null, .int 0, .int 0, .int 1, .int 0, .int 0, .int 0, .int 0, .int 0, .int 0, .int 0, .int 0, .int 0, .long 0, .ref y1, .ref y2, .ref y3, .ref y4, .ref y5, .int 0, .int 0]))]) [0] rfl
  have hD9 := hD.sub (ws' := [(h0, .inr (14, [.ref l1, .ref l2, .ref l3, .ref l4, .ref l5, .ref l6, .ref l7, .ref l8, .ref l9, .ref ce, .null, .int 0, .int 0, .int 1, .int 0, .int 0, .int 0, .int 0, .int 0, .int 0, .int 0, .int 0, .int 0, .long 0, .ref y1, .ref y2, .ref y3, .ref y4, .ref y5, .int 0, .int 0]))]) [0] (by decide) rfl
  have hK9 := hK.sub (tys' := []) [] rfl
  refine W.widen (k := 0) (n := 0) (Nat.le_of_ble_eq_true rfl) (Nat.le_of_ble_eq_true rfl) ?_
  exact W.fret (v := FP.fconst0) hx hb hr (fun t ht hW => ⟨⟨FP.fconst0, (), rfl, trivial, by rw [ht]; exact hP9, va_K.moved hW.alike hK9, hD9⟩, hS.F ht⟩) hS.2.2 dX17_errorShare_38
set_option maxHeartbeats 4000000 in
set_option maxRecDepth 100000 in
theorem c_X17_meanSteps (l : Launch) (dC : Nat → ClassId) (dI : Nat → Nat → Nat) (z : pG) (h0 : Nat) (l1 : Nat) (l2 : Nat) (l3 : Nat) (l4 : Nat) (l5 : Nat) (l6 : Nat) (l7 : Nat) (l8 : Nat) (l9 : Nat) (ce : Nat) (y1 : Nat) (y2 : Nat) (y3 : Nat) (y4 : Nat) (y5 : Nat) (sz : Nat) : Met l yX17_meanSteps (ws_ yX17_meanSteps cX17_meanSteps 1 (some .double)) ({ frames := 0, cells := 0, slots := 0, locals := 0 }) (va_Pc [.ref h0] (pPre z dC dI [(h0, .inr (14, [.ref l1, .ref l2, .ref l3, .ref l4, .ref l5, .ref l6, .ref l7, .ref l8, .ref l9, .ref ce, .null, .int 0, .int 0, .int 0, .int 0, .int 0, .int 0, .int 0, .int 0, .int 0, .int 0, .int 0, .int 0, .long 0, .ref y1, .ref y2, .ref y3, .ref y4, .ref y5, .int 0, .int 0]))] [] sz)) (va_Qd (fun (r : UInt64) (_ : Unit) => True) (fun _ t => pPost dC dI (va_A [(h0, .inr (14, [.ref l1, .ref l2, .ref l3, .ref l4, .ref l5, .ref l6, .ref l7, .ref l8, .ref l9, .ref ce, .null, .int 0, .int 0, .int 0, .int 0, .int 0, .int 0, .int 0, .int 0, .int 0, .int 0, .int 0, .int 0, .long 0, .ref y1, .ref y2, .ref y3, .ref y4, .ref y5, .int 0, .int 0]))] sz) [(h0, .inr (14, [.ref l1, .ref l2, .ref l3, .ref l4, .ref l5, .ref l6, .ref l7, .ref l8, .ref l9, .ref ce, .null, .int 0, .int 0, .int 1, .int 0, .int 0, .int 0, .int 0, .int 0, .int 0, .int 0, .int 0, .int 0, .long 0, .ref y1, .ref y2, .ref y3, .ref y4, .ref y5, .int 0, .int 0]))] [] t) (va_A [(h0, .inr (14, [.ref l1, .ref l2, .ref l3, .ref l4, .ref l5, .ref l6, .ref l7, .ref l8, .ref l9, .ref ce, .null, .int 0, .int 0, .int 0, .int 0, .int 0, .int 0, .int 0, .int 0, .int 0, .int 0, .int 0, .int 0, .long 0, .ref y1, .ref y2, .ref y3, .ref y4, .ref y5, .int 0, .int 0]))] sz)) 0 0 (va_A [(h0, .inr (14, [.ref l1, .ref l2, .ref l3, .ref l4, .ref l5, .ref l6, .ref l7, .ref l8, .ref l9, .ref ce, .null, .int 0, .int 0, .int 0, .int 0, .int 0, .int 0, .int 0, .int 0, .int 0, .int 0, .int 0, .int 0, .long 0, .ref y1, .ref y2, .ref y3, .ref y4, .ref y5, .int 0, .int 0]))] sz) := by
  refine Met.ofW (cc := cX17_meanSteps) (maxL := 1) (ret := (some .double)) (by decide) rfl ?_
  intro p e s m args below meth c s₁ B hml hv
  obtain ⟨rfl, hsz, hP, hK, hD0, hE⟩ := hv
  have hx := B.exec
  have hb := B.bytes
  have hr := B.returns
  have hts0 := atoms_spec (ws := ws_ yX17_meanSteps cX17_meanSteps 1 (some .double)) B.pre
  have hts := fun (w : Cond) (h : w ∈ pw) => hts0 w (List.mem_cons_of_mem _ h)
  have hown : s.vm.findClass RX17 = some m.cls := findClass_of_methodNamed B.named
  have hlocks := B.notSynchronized
  subst hsz
  have hD := hD0.self (sz := s.heap.size)
  generalize hAe : va_A [(h0, .inr (14, [.ref l1, .ref l2, .ref l3, .ref l4, .ref l5, .ref l6, .ref l7, .ref l8, .ref l9, .ref ce, .null, .int 0, .int 0, .int 0, .int 0, .int 0, .int 0, .int 0, .int 0, .int 0, .int 0, .int 0, .int 0, .long 0, .ref y1, .ref y2, .ref y3, .ref y4, .ref y5, .int 0, .int 0]))] s.heap.size = A at hD hE ⊢
  have hA : ∀ q : Nat, s.heap.size ≤ q → A q := fun q h => by rw [← hAe]; exact Or.inr h
  have hS : va_S A s.heap s.heap [] := va_S.rf
  have hN := hE.1
  have hP : va_P (dC, dI) pcl [(h0, .inr (14, [.ref l1, .ref l2, .ref l3, .ref l4, .ref l5, .ref l6, .ref l7, .ref l8, .ref l9, .ref ce, .null, .int 0, .int 0, .int 0, .int 0, .int 0, .int 0, .int 0, .int 0, .int 0, .int 0, .int 0, .int 0, .long 0, .ref y1, .ref y2, .ref y3, .ref y4, .ref y5, .int 0, .int 0]))] s.heap := hP
  have hl := lv_entry ([.ref h0]) (n := 1) (Nat.le_of_ble_eq_true rfl)
  rw [lg_entry_eq]
  generalize (lg_sl ([.ref h0]) ++ List.replicate (1 - (lg_sl ([.ref h0])).length) Slot.unset).toArray = ls at hl ⊢
  have hl : lv_has ls 1 [(0, .ref h0)] := hl
  obtain ⟨H, hH0⟩ : ∃ H, H = s.heap := ⟨_, rfl⟩
  rw [← hH0] at hP ⊢
  have hS : va_S A s.heap H [] := by rw [hH0]; exact hS
  refine lv_aload_n hx hb dX17_meanSteps_0 rfl (lv_at hl 0 rfl) ?_
  refine lv_aload_n hx hb dX17_meanSteps_1 rfl (lv_at hl 0 rfl) ?_
  refine va_get (D := (dC, dI)) (ci := 14) (v := .int 0) (C := RX17) (T := TX17) (N := 31) hx hb hts pinX17 hown hK hP 0 rfl rfl 20 (by decide) (hts _ e241) (fun _ h9 => h9) rfl dX17_meanSteps_2 ?_
  refine lv_if_ne (tgt := 12) hx hb dX17_meanSteps_5 (by decide) (fun h9 => absurd (by decide) h9) (fun _ => ?_)
  refine lv_iconst (v := 1) hx hb dX17_meanSteps_8 (by decide) ?_
  refine lv_goto (tgt := 13) hx hb dX17_meanSteps_9 (by decide) ?_
  refine va_put (D := (dC, dI)) (ci := 14) (v := .int 1) (ty := .int) (C := RX17) (T := TX17) (N := 31) hx hb hts pinX17 tyX17 tyX17_ok nmX17 hown hK hP hD hS 0 rfl rfl 13 (by decide) (hts _ e204) (fun _ h9 => h9) rfl (by decide +kernel) rfl rfl (Nat.le_of_ble_eq_true rfl) dX17_meanSteps_13 (fun H locs hP hD hS => ?_)
  have hP : va_P (dC, dI) pcl [(h0, .inr (14, [.ref l1, .ref l2, .ref l3, .ref l4, .ref l5, .ref l6, .ref l7, .ref l8, .ref l9, .ref ce, .null, .int 0, .int 0, .int 1, .int 0, .int 0, .int 0, .int 0, .int 0, .int 0, .int 0, .int 0, .int 0, .long 0, .ref y1, .ref y2, .ref y3, .ref y4, .ref y5, .int 0, .int 0]))] H := hP
  have hD : va_D A [(h0, .inr (14, [.ref l1, .ref l2, .ref l3, .ref l4, .ref l5, .ref l6, .ref l7, .ref l8, .ref l9, .ref ce, .null, .int 0, .int 0, .int 1, .int 0, .int 0, .int 0, .int 0, .int 0, .int 0, .int 0, .int 0, .int 0, .long 0, .ref y1, .ref y2, .ref y3, .ref y4, .ref y5, .int 0, .int 0]))] := hD
  refine lv_aload_n hx hb dX17_meanSteps_16 rfl (lv_at hl 0 rfl) ?_
  refine va_get (D := (dC, dI)) (ci := 14) (v := .int 0) (C := RX17) (T := TX17) (N := 31) hx hb hts pinX17 hown hK hP 0 rfl rfl 20 (by decide) (hts _ e241) (fun _ h9 => h9) rfl dX17_meanSteps_17 ?_
  refine lv_if_ne (tgt := 27) hx hb dX17_meanSteps_20 (by decide) (fun h9 => absurd (by decide) h9) (fun _ => ?_)
  refine lv_dconst0 hx hb dX17_meanSteps_23 ?_
  refine lv_goto (tgt := 38) hx hb dX17_meanSteps_24 (by decide) ?_
  have hP9 := hP.sub (ws' := [(h0, .inr (14, [.ref l1, .ref l2, .ref l3, .ref l4, .ref l5, .ref l6, .ref l7, .ref l8, .ref l9, .ref ce, .null, .int 0, .int 0, .int 1, .int 0, .int 0, .int 0, .int 0, .int 0, .int 0, .int 0, .int 0, .int 0, .long 0, .ref y1, .ref y2, .ref y3, .ref y4, .ref y5, .int 0, .int 0]))]) [0] rfl
  have hD9 := hD.sub (ws' := [(h0, .inr (14, [.ref l1, .ref l2, .ref l3, .ref l4, .ref l5, .ref l6, .ref l7, .ref l8, .ref l9, .ref ce, .null, .int 0, .int 0, .int 1, .int 0, .int 0, .int 0, .int 0, .int 0, .int 0, .int 0, .int 0, .int 0, .long 0, .ref y1, .ref y2, .ref y3, .ref y4, .ref y5, .int 0, .int 0]))]) [0] (by decide) rfl
  have hK9 := hK.sub (tys' := []) [] rfl
  refine W.widen (k := 0) (n := 0) (Nat.le_of_ble_eq_true rfl) (Nat.le_of_ble_eq_true rfl) ?_
  exact W.dret (v := FP.dconst0) hx hb hr (fun t ht hW => ⟨⟨FP.dconst0, (), rfl, trivial, by rw [ht]; exact hP9, va_K.moved hW.alike hK9, hD9⟩, hS.F ht⟩) hS.2.2 dX17_meanSteps_38
