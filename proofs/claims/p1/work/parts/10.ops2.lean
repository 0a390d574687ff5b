set_option maxHeartbeats 4000000 in
set_option maxRecDepth 100000 in
theorem c_X11_traceAt (l : Launch) (hfl : l.stackTraces = false) (dC : Nat → ClassId) (dI : Nat → Nat → Nat) (z : pG) (h0 : Nat) (ma : Nat) (rn : Nat) (ef : Nat) (ck : Nat) (tr : Nat) (n : Int32) (sz : Nat) : vx_Met l yX11_traceAt (ws_ yX11_traceAt cX11_traceAt 2 (some .int)) ({ frames := 6, cells := 1, slots := 6, locals := 82 }) (va_Pc [.ref h0, .int n] (pPre z dC dI [(h0, .inr (12, [.ref ma, .ref rn, .ref ef, .ref ck, .ref tr, .int 0, .int 0, .int 0, .int 0, .long 0]))] [] sz)) (va_Qi (fun (_ : Int32) (_ : Unit) => False) (fun _ _ => True) (va_A [(h0, .inr (12, [.ref ma, .ref rn, .ref ef, .ref ck, .ref tr, .int 0, .int 0, .int 0, .int 0, .long 0]))] sz)) (vx_X (fun (_ : Unit) => True) (fun E _ _ => E = "java/lang/IndexOutOfBoundsException") (va_A [(h0, .inr (12, [.ref ma, .ref rn, .ref ef, .ref ck, .ref tr, .int 0, .int 0, .int 0, .int 0, .long 0]))] sz)) 1 6 (va_A [(h0, .inr (12, [.ref ma, .ref rn, .ref ef, .ref ck, .ref tr, .int 0, .int 0, .int 0, .int 0, .long 0]))] sz) := by
  refine vx_ofW (cc := cX11_traceAt) (maxL := 2) (ret := (some .int)) (by decide) rfl ?_
  intro p e s m args below meth c s₁ B hml ht9 hv
  obtain ⟨rfl, hsz, hP, hK, hD0, hE⟩ := hv
  have hx := B.exec
  have hb := B.bytes
  have hr := B.returns
  have hts0 := atoms_spec (ws := ws_ yX11_traceAt cX11_traceAt 2 (some .int)) B.pre
  have hts := fun (w : Cond) (h : w ∈ pw) => hts0 w (List.mem_cons_of_mem _ h)
  have hown : s.vm.findClass RX11 = some m.cls := findClass_of_methodNamed B.named
  have hlocks := B.notSynchronized
  subst hsz
  have hD := hD0.self (sz := s.heap.size)
  generalize hAe : va_A [(h0, .inr (12, [.ref ma, .ref rn, .ref ef, .ref ck, .ref tr, .int 0, .int 0, .int 0, .int 0, .long 0]))] s.heap.size = A at hD hE ⊢
  have hA : ∀ q : Nat, s.heap.size ≤ q → A q := fun q h => by rw [← hAe]; exact Or.inr h
  have hS : va_S A s.heap s.heap [] := va_S.rf
  have hN := hE.1
  have hP : va_P (dC, dI) pcl [(h0, .inr (12, [.ref ma, .ref rn, .ref ef, .ref ck, .ref tr, .int 0, .int 0, .int 0, .int 0, .long 0]))] s.heap := hP
  have hl := lv_entry ([.ref h0, .int n]) (n := 2) (Nat.le_of_ble_eq_true rfl)
  rw [lg_entry_eq]
  generalize (lg_sl ([.ref h0, .int n]) ++ List.replicate (2 - (lg_sl ([.ref h0, .int n])).length) Slot.unset).toArray = ls at hl ⊢
  have hl : lv_has ls 2 [(0, .ref h0), (1, .int n)] := hl
  obtain ⟨H, hH0⟩ : ∃ H, H = s.heap := ⟨_, rfl⟩
  rw [← hH0] at hP ⊢
  have hS : va_S A s.heap H [] := by rw [hH0]; exact hS
  refine lv_iload_n hx hb dX11_traceAt_0 rfl (lv_at hl 1 rfl) ?_
  refine lv_if_lt (tgt := 12) hx hb dX11_traceAt_1 (by decide) (fun k1 => ?_) (fun k1 => ?_)
  · obtain ⟨sa, hstr⟩ := hE.2.2.2.2.2.2.2.2.1 (RX11, 151, "there is no such running entry") (List.mem_of_getElem? (i := 4) rfl)
    exact vx_throwS hx hb hfl (own := RX11) (cls := "java/lang/IndexOutOfBoundsException") (text := "there is no such running entry") (names := xnames) hown (by decide +kernel) (by decide +kernel) (hts _ e164) (hts _ e165) hstr (xat2 hts hN) xgood2 hE.2.1 hE.2.2.1 hS (hl.1.trans hml.symm) dX11_traceAt_12 dX11_traceAt_15 dX11_traceAt_16 dX11_traceAt_18 dX11_traceAt_21 (fun x9 h9 => (ht9 x9 h9).elim) (Nat.le_of_ble_eq_true rfl) (Nat.le_of_ble_eq_true rfl) (Nat.le_of_ble_eq_true rfl) (Nat.le_of_ble_eq_true rfl) hlocks (fun t _ h1 h2 => ⟨(), trivial, rfl, p_FX hS h1 h2⟩) hS.2.2 (Nat.le_of_ble_eq_true rfl) (Nat.le_of_ble_eq_true rfl)
  · refine lv_iload_n hx hb dX11_traceAt_4 rfl (lv_at hl 1 rfl) ?_
    refine lv_aload_n hx hb dX11_traceAt_5 rfl (lv_at hl 0 rfl) ?_
    refine va_get (D := (dC, dI)) (ci := 12) (v := .int 0) (C := RX11) (T := TX11) (N := 10) hx hb hts pinX11 hown hK hP 0 rfl rfl 5 (by decide) (hts _ e160) (fun _ h9 => h9) rfl dX11_traceAt_6 ?_
    refine lv_icmp_lt (tgt := 22) hx hb dX11_traceAt_9 (by decide) (fun h9 => absurd h9 k1) (fun _ => ?_)
    obtain ⟨sa, hstr⟩ := hE.2.2.2.2.2.2.2.2.1 (RX11, 151, "there is no such running entry") (List.mem_of_getElem? (i := 4) rfl)
    exact vx_throwS hx hb hfl (own := RX11) (cls := "java/lang/IndexOutOfBoundsException") (text := "there is no such running entry") (names := xnames) hown (by decide +kernel) (by decide +kernel) (hts _ e164) (hts _ e165) hstr (xat2 hts hN) xgood2 hE.2.1 hE.2.2.1 hS (hl.1.trans hml.symm) dX11_traceAt_12 dX11_traceAt_15 dX11_traceAt_16 dX11_traceAt_18 dX11_traceAt_21 (fun x9 h9 => (ht9 x9 h9).elim) (Nat.le_of_ble_eq_true rfl) (Nat.le_of_ble_eq_true rfl) (Nat.le_of_ble_eq_true rfl) (Nat.le_of_ble_eq_true rfl) hlocks (fun t _ h1 h2 => ⟨(), trivial, rfl, p_FX hS h1 h2⟩) hS.2.2 (Nat.le_of_ble_eq_true rfl) (Nat.le_of_ble_eq_true rfl)
set_option maxHeartbeats 4000000 in
set_option maxRecDepth 100000 in
theorem c_X11_at (l : Launch) (hfl : l.stackTraces = false) (dC : Nat → ClassId) (dI : Nat → Nat → Nat) (z : pG) (h0 : Nat) (ma : Nat) (rn : Nat) (ef : Nat) (ck : Nat) (tr : Nat) (fi : Nat) (se : Nat) (ce : Nat) (pr : Nat) (di : Nat) (dr : Nat) (li : Nat) (ru : Nat) (ba : Nat) (b1 : Nat) (b2 : Nat) (b3 : Nat) (n : Int32) (sz : Nat) : vx_Met l yX11_at (ws_ yX11_at cX11_at 2 (some .int)) ({ frames := 6, cells := 1, slots := 6, locals := 82 }) (va_Pc [.ref h0, .int n] (pPre z dC dI [(h0, .inr (12, [.ref ma, .ref rn, .ref ef, .ref ck, .ref tr, .int 0, .int 0, .int 0, .int 0, .long 0])), (ma, .inr (7, [.ref fi, .ref se, .ref ce, .ref pr, .ref di, .ref dr, .ref li, .ref ru, .ref ba, .int 1000, .int 0, .int 0, .int 0, .int 0, .int 0, .int 0])), (fi, .inr (11, [.ref b1, .ref b2, .ref b3, .int 0]))] [] sz)) (va_Qi (fun (_ : Int32) (_ : Unit) => False) (fun _ _ => True) (va_A [(h0, .inr (12, [.ref ma, .ref rn, .ref ef, .ref ck, .ref tr, .int 0, .int 0, .int 0, .int 0, .long 0])), (ma, .inr (7, [.ref fi, .ref se, .ref ce, .ref pr, .ref di, .ref dr, .ref li, .ref ru, .ref ba, .int 1000, .int 0, .int 0, .int 0, .int 0, .int 0, .int 0])), (fi, .inr (11, [.ref b1, .ref b2, .ref b3, .int 0]))] sz)) (vx_X (fun (_ : Unit) => True) (fun E _ _ => E = "java/lang/IndexOutOfBoundsException") (va_A [(h0, .inr (12, [.ref ma, .ref rn, .ref ef, .ref ck, .ref tr, .int 0, .int 0, .int 0, .int 0, .long 0])), (ma, .inr (7, [.ref fi, .ref se, .ref ce, .ref pr, .ref di, .ref dr, .ref li, .ref ru, .ref ba, .int 1000, .int 0, .int 0, .int 0, .int 0, .int 0, .int 0])), (fi, .inr (11, [.ref b1, .ref b2, .ref b3, .int 0]))] sz)) 1 6 (va_A [(h0, .inr (12, [.ref ma, .ref rn, .ref ef, .ref ck, .ref tr, .int 0, .int 0, .int 0, .int 0, .long 0])), (ma, .inr (7, [.ref fi, .ref se, .ref ce, .ref pr, .ref di, .ref dr, .ref li, .ref ru, .ref ba, .int 1000, .int 0, .int 0, .int 0, .int 0, .int 0, .int 0])), (fi, .inr (11, [.ref b1, .ref b2, .ref b3, .int 0]))] sz) := by
  refine vx_ofW (cc := cX11_at) (maxL := 2) (ret := (some .int)) (by decide) rfl ?_
  intro p e s m args below meth c s₁ B hml ht9 hv
  obtain ⟨rfl, hsz, hP, hK, hD0, hE⟩ := hv
  have hx := B.exec
  have hb := B.bytes
  have hr := B.returns
  have hts0 := atoms_spec (ws := ws_ yX11_at cX11_at 2 (some .int)) B.pre
  have hts := fun (w : Cond) (h : w ∈ pw) => hts0 w (List.mem_cons_of_mem _ h)
  have hown : s.vm.findClass RX11 = some m.cls := findClass_of_methodNamed B.named
  have hlocks := B.notSynchronized
  subst hsz
  have hD := hD0.self (sz := s.heap.size)
  generalize hAe : va_A [(h0, .inr (12, [.ref ma, .ref rn, .ref ef, .ref ck, .ref tr, .int 0, .int 0, .int 0, .int 0, .long 0])), (ma, .inr (7, [.ref fi, .ref se, .ref ce, .ref pr, .ref di, .ref dr, .ref li, .ref ru, .ref ba, .int 1000, .int 0, .int 0, .int 0, .int 0, .int 0, .int 0])), (fi, .inr (11, [.ref b1, .ref b2, .ref b3, .int 0]))] s.heap.size = A at hD hE ⊢
  have hA : ∀ q : Nat, s.heap.size ≤ q → A q := fun q h => by rw [← hAe]; exact Or.inr h
  have hS : va_S A s.heap s.heap [] := va_S.rf
  have hN := hE.1
  have hP : va_P (dC, dI) pcl [(h0, .inr (12, [.ref ma, .ref rn, .ref ef, .ref ck, .ref tr, .int 0, .int 0, .int 0, .int 0, .long 0])), (ma, .inr (7, [.ref fi, .ref se, .ref ce, .ref pr, .ref di, .ref dr, .ref li, .ref ru, .ref ba, .int 1000, .int 0, .int 0, .int 0, .int 0, .int 0, .int 0])), (fi, .inr (11, [.ref b1, .ref b2, .ref b3, .int 0]))] s.heap := hP
  have hl := lv_entry ([.ref h0, .int n]) (n := 2) (Nat.le_of_ble_eq_true rfl)
  rw [lg_entry_eq]
  generalize (lg_sl ([.ref h0, .int n]) ++ List.replicate (2 - (lg_sl ([.ref h0, .int n])).length) Slot.unset).toArray = ls at hl ⊢
  have hl : lv_has ls 2 [(0, .ref h0), (1, .int n)] := hl
  obtain ⟨H, hH0⟩ : ∃ H, H = s.heap := ⟨_, rfl⟩
  rw [← hH0] at hP ⊢
  have hS : va_S A s.heap H [] := by rw [hH0]; exact hS
  refine lv_iload_n hx hb dX11_at_0 rfl (lv_at hl 1 rfl) ?_
  refine lv_if_lt (tgt := 18) hx hb dX11_at_1 (by decide) (fun k1 => ?_) (fun k1 => ?_)
  · obtain ⟨sa, hstr⟩ := hE.2.2.2.2.2.2.2.2.1 (RX11, 163, "there is no such number on the stack") (List.mem_of_getElem? (i := 5) rfl)
    exact vx_throwS hx hb hfl (own := RX11) (cls := "java/lang/IndexOutOfBoundsException") (text := "there is no such number on the stack") (names := xnames) hown (by decide +kernel) (by decide +kernel) (hts _ e164) (hts _ e165) hstr (xat2 hts hN) xgood2 hE.2.1 hE.2.2.1 hS (hl.1.trans hml.symm) dX11_at_18 dX11_at_21 dX11_at_22 dX11_at_24 dX11_at_27 (fun x9 h9 => (ht9 x9 h9).elim) (Nat.le_of_ble_eq_true rfl) (Nat.le_of_ble_eq_true rfl) (Nat.le_of_ble_eq_true rfl) (Nat.le_of_ble_eq_true rfl) hlocks (fun t _ h1 h2 => ⟨(), trivial, rfl, p_FX hS h1 h2⟩) hS.2.2 (Nat.le_of_ble_eq_true rfl) (Nat.le_of_ble_eq_true rfl)
  · refine lv_iload_n hx hb dX11_at_4 rfl (lv_at hl 1 rfl) ?_
    refine lv_aload_n hx hb dX11_at_5 rfl (lv_at hl 0 rfl) ?_
    refine va_get (D := (dC, dI)) (ci := 12) (v := .ref ma) (C := RX11) (T := TX11) (N := 10) hx hb hts pinX11 hown hK hP 0 rfl rfl 0 (by decide) (hts _ e120) (fun _ h9 => h9) rfl dX11_at_6 ?_
    refine va_getN (D := (dC, dI)) (ci := 7) (v := .ref fi) (C := RX6) (T := TX6) (N := 16) hx hb hts pinX6 hown hK hP 1 rfl rfl 0 (by decide) (va_Nw.use rfl (hN _ n23)) (fun _ h9 => h9) rfl dX11_at_9 ?_
    refine va_getN (D := (dC, dI)) (ci := 11) (v := .int 0) (C := RX10) (T := TX10) (N := 4) hx hb hts pinX10 hown hK hP 2 rfl rfl 3 (by decide) (va_Nw.use rfl (hN _ n24)) (fun _ h9 => h9) rfl dX11_at_12 ?_
    refine lv_icmp_lt (tgt := 28) hx hb dX11_at_15 (by decide) (fun h9 => absurd h9 k1) (fun _ => ?_)
    obtain ⟨sa, hstr⟩ := hE.2.2.2.2.2.2.2.2.1 (RX11, 163, "there is no such number on the stack") (List.mem_of_getElem? (i := 5) rfl)
    exact vx_throwS hx hb hfl (own := RX11) (cls := "java/lang/IndexOutOfBoundsException") (text := "there is no such number on the stack") (names := xnames) hown (by decide +kernel) (by decide +kernel) (hts _ e164) (hts _ e165) hstr (xat2 hts hN) xgood2 hE.2.1 hE.2.2.1 hS (hl.1.trans hml.symm) dX11_at_18 dX11_at_21 dX11_at_22 dX11_at_24 dX11_at_27 (fun x9 h9 => (ht9 x9 h9).elim) (Nat.le_of_ble_eq_true rfl) (Nat.le_of_ble_eq_true rfl) (Nat.le_of_ble_eq_true rfl) (Nat.le_of_ble_eq_true rfl) hlocks (fun t _ h1 h2 => ⟨(), trivial, rfl, p_FX hS h1 h2⟩) hS.2.2 (Nat.le_of_ble_eq_true rfl) (Nat.le_of_ble_eq_true rfl)
set_option maxHeartbeats 4000000 in
set_option maxRecDepth 100000 in
theorem c_X11_outAt (l : Launch) (hfl : l.stackTraces = false) (dC : Nat → ClassId) (dI : Nat → Nat → Nat) (z : pG) (h0 : Nat) (ma : Nat) (rn : Nat) (ef : Nat) (ck : Nat) (tr : Nat) (fi : Nat) (se : Nat) (ce : Nat) (pr : Nat) (di : Nat) (dr : Nat) (li : Nat) (ru : Nat) (ba : Nat) (b7 : Nat) (n : Int32) (sz : Nat) : vx_Met l yX11_outAt (ws_ yX11_outAt cX11_outAt 2 (some .int)) ({ frames := 6, cells := 1, slots := 6, locals := 82 }) (va_Pc [.ref h0, .int n] (pPre z dC dI [(h0, .inr (12, [.ref ma, .ref rn, .ref ef, .ref ck, .ref tr, .int 0, .int 0, .int 0, .int 0, .long 0])), (ma, .inr (7, [.ref fi, .ref se, .ref ce, .ref pr, .ref di, .ref dr, .ref li, .ref ru, .ref ba, .int 1000, .int 0, .int 0, .int 0, .int 0, .int 0, .int 0])), (pr, .inr (8, [.ref b7, .int 0]))] [] sz)) (va_Qi (fun (_ : Int32) (_ : Unit) => False) (fun _ _ => True) (va_A [(h0, .inr (12, [.ref ma, .ref rn, .ref ef, .ref ck, .ref tr, .int 0, .int 0, .int 0, .int 0, .long 0])), (ma, .inr (7, [.ref fi, .ref se, .ref ce, .ref pr, .ref di, .ref dr, .ref li, .ref ru, .ref ba, .int 1000, .int 0, .int 0, .int 0, .int 0, .int 0, .int 0])), (pr, .inr (8, [.ref b7, .int 0]))] sz)) (vx_X (fun (_ : Unit) => True) (fun E _ _ => E = "java/lang/IndexOutOfBoundsException") (va_A [(h0, .inr (12, [.ref ma, .ref rn, .ref ef, .ref ck, .ref tr, .int 0, .int 0, .int 0, .int 0, .long 0])), (ma, .inr (7, [.ref fi, .ref se, .ref ce, .ref pr, .ref di, .ref dr, .ref li, .ref ru, .ref ba, .int 1000, .int 0, .int 0, .int 0, .int 0, .int 0, .int 0])), (pr, .inr (8, [.ref b7, .int 0]))] sz)) 1 6 (va_A [(h0, .inr (12, [.ref ma, .ref rn, .ref ef, .ref ck, .ref tr, .int 0, .int 0, .int 0, .int 0, .long 0])), (ma, .inr (7, [.ref fi, .ref se, .ref ce, .ref pr, .ref di, .ref dr, .ref li, .ref ru, .ref ba, .int 1000, .int 0, .int 0, .int 0, .int 0, .int 0, .int 0])), (pr, .inr (8, [.ref b7, .int 0]))] sz) := by
  refine vx_ofW (cc := cX11_outAt) (maxL := 2) (ret := (some .int)) (by decide) rfl ?_
  intro p e s m args below meth c s₁ B hml ht9 hv
  obtain ⟨rfl, hsz, hP, hK, hD0, hE⟩ := hv
  have hx := B.exec
  have hb := B.bytes
  have hr := B.returns
  have hts0 := atoms_spec (ws := ws_ yX11_outAt cX11_outAt 2 (some .int)) B.pre
  have hts := fun (w : Cond) (h : w ∈ pw) => hts0 w (List.mem_cons_of_mem _ h)
  have hown : s.vm.findClass RX11 = some m.cls := findClass_of_methodNamed B.named
  have hlocks := B.notSynchronized
  subst hsz
  have hD := hD0.self (sz := s.heap.size)
  generalize hAe : va_A [(h0, .inr (12, [.ref ma, .ref rn, .ref ef, .ref ck, .ref tr, .int 0, .int 0, .int 0, .int 0, .long 0])), (ma, .inr (7, [.ref fi, .ref se, .ref ce, .ref pr, .ref di, .ref dr, .ref li, .ref ru, .ref ba, .int 1000, .int 0, .int 0, .int 0, .int 0, .int 0, .int 0])), (pr, .inr (8, [.ref b7, .int 0]))] s.heap.size = A at hD hE ⊢
  have hA : ∀ q : Nat, s.heap.size ≤ q → A q := fun q h => by rw [← hAe]; exact Or.inr h
  have hS : va_S A s.heap s.heap [] := va_S.rf
  have hN := hE.1
  have hP : va_P (dC, dI) pcl [(h0, .inr (12, [.ref ma, .ref rn, .ref ef, .ref ck, .ref tr, .int 0, .int 0, .int 0, .int 0, .long 0])), (ma, .inr (7, [.ref fi, .ref se, .ref ce, .ref pr, .ref di, .ref dr, .ref li, .ref ru, .ref ba, .int 1000, .int 0, .int 0, .int 0, .int 0, .int 0, .int 0])), (pr, .inr (8, [.ref b7, .int 0]))] s.heap := hP
  have hl := lv_entry ([.ref h0, .int n]) (n := 2) (Nat.le_of_ble_eq_true rfl)
  rw [lg_entry_eq]
  generalize (lg_sl ([.ref h0, .int n]) ++ List.replicate (2 - (lg_sl ([.ref h0, .int n])).length) Slot.unset).toArray = ls at hl ⊢
  have hl : lv_has ls 2 [(0, .ref h0), (1, .int n)] := hl
  obtain ⟨H, hH0⟩ : ∃ H, H = s.heap := ⟨_, rfl⟩
  rw [← hH0] at hP ⊢
  have hS : va_S A s.heap H [] := by rw [hH0]; exact hS
  refine lv_iload_n hx hb dX11_outAt_0 rfl (lv_at hl 1 rfl) ?_
  refine lv_if_lt (tgt := 18) hx hb dX11_outAt_1 (by decide) (fun k1 => ?_) (fun k1 => ?_)
  · obtain ⟨sa, hstr⟩ := hE.2.2.2.2.2.2.2.2.1 (RX11, 188, "there is no such output") (List.mem_of_getElem? (i := 7) rfl)
    exact vx_throwS hx hb hfl (own := RX11) (cls := "java/lang/IndexOutOfBoundsException") (text := "there is no such output") (names := xnames) hown (by decide +kernel) (by decide +kernel) (hts _ e164) (hts _ e165) hstr (xat2 hts hN) xgood2 hE.2.1 hE.2.2.1 hS (hl.1.trans hml.symm) dX11_outAt_18 dX11_outAt_21 dX11_outAt_22 dX11_outAt_24 dX11_outAt_27 (fun x9 h9 => (ht9 x9 h9).elim) (Nat.le_of_ble_eq_true rfl) (Nat.le_of_ble_eq_true rfl) (Nat.le_of_ble_eq_true rfl) (Nat.le_of_ble_eq_true rfl) hlocks (fun t _ h1 h2 => ⟨(), trivial, rfl, p_FX hS h1 h2⟩) hS.2.2 (Nat.le_of_ble_eq_true rfl) (Nat.le_of_ble_eq_true rfl)
  · refine lv_iload_n hx hb dX11_outAt_4 rfl (lv_at hl 1 rfl) ?_
    refine lv_aload_n hx hb dX11_outAt_5 rfl (lv_at hl 0 rfl) ?_
    refine va_get (D := (dC, dI)) (ci := 12) (v := .ref ma) (C := RX11) (T := TX11) (N := 10) hx hb hts pinX11 hown hK hP 0 rfl rfl 0 (by decide) (hts _ e120) (fun _ h9 => h9) rfl dX11_outAt_6 ?_
    refine va_getN (D := (dC, dI)) (ci := 7) (v := .ref pr) (C := RX6) (T := TX6) (N := 16) hx hb hts pinX6 hown hK hP 1 rfl rfl 3 (by decide) (va_Nw.use rfl (hN _ n28)) (fun _ h9 => h9) rfl dX11_outAt_9 ?_
    refine va_getN (D := (dC, dI)) (ci := 8) (v := .int 0) (C := RX7) (T := TX7) (N := 2) hx hb hts pinX7 hown hK hP 2 rfl rfl 1 (by decide) (va_Nw.use rfl (hN _ n29)) (fun _ h9 => h9) rfl dX11_outAt_12 ?_
    refine lv_icmp_lt (tgt := 28) hx hb dX11_outAt_15 (by decide) (fun h9 => absurd h9 k1) (fun _ => ?_)
    obtain ⟨sa, hstr⟩ := hE.2.2.2.2.2.2.2.2.1 (RX11, 188, "there is no such output") (List.mem_of_getElem? (i := 7) rfl)
    exact vx_throwS hx hb hfl (own := RX11) (cls := "java/lang/IndexOutOfBoundsException") (text := "there is no such output") (names := xnames) hown (by decide +kernel) (by decide +kernel) (hts _ e164) (hts _ e165) hstr (xat2 hts hN) xgood2 hE.2.1 hE.2.2.1 hS (hl.1.trans hml.symm) dX11_outAt_18 dX11_outAt_21 dX11_outAt_22 dX11_outAt_24 dX11_outAt_27 (fun x9 h9 => (ht9 x9 h9).elim) (Nat.le_of_ble_eq_true rfl) (Nat.le_of_ble_eq_true rfl) (Nat.le_of_ble_eq_true rfl) (Nat.le_of_ble_eq_true rfl) hlocks (fun t _ h1 h2 => ⟨(), trivial, rfl, p_FX hS h1 h2⟩) hS.2.2 (Nat.le_of_ble_eq_true rfl) (Nat.le_of_ble_eq_true rfl)
set_option maxHeartbeats 4000000 in
set_option maxRecDepth 100000 in
theorem c_X11_nameOf (l : Launch) (hfl : l.stackTraces = false) (dC : Nat → ClassId) (dI : Nat → Nat → Nat) (z : pG) (h0 : Nat) (ma : Nat) (rn : Nat) (ef : Nat) (ck : Nat) (tr : Nat) (fi : Nat) (se : Nat) (ce : Nat) (pr : Nat) (di : Nat) (dr : Nat) (li : Nat) (ru : Nat) (ba : Nat) (g1 : Nat) (g2 : Nat) (g3 : Nat) (g4 : Nat) (g5 : Nat) (g6 : Nat) (g7 : Nat) (g8 : Nat) (g9 : Nat) (g10 : Nat) (n : Int32) (sz : Nat) : vx_Met l yX11_nameOf (ws_ yX11_nameOf cX11_nameOf 2 (some .int)) ({ frames := 6, cells := 1, slots := 6, locals := 82 }) (va_Pc [.ref h0, .int n] (pPre z dC dI [(h0, .inr (12, [.ref ma, .ref rn, .ref ef, .ref ck, .ref tr, .int 0, .int 0, .int 0, .int 0, .long 0])), (ma, .inr (7, [.ref fi, .ref se, .ref ce, .ref pr, .ref di, .ref dr, .ref li, .ref ru, .ref ba, .int 1000, .int 0, .int 0, .int 0, .int 0, .int 0, .int 0])), (di, .inr (2, [.ref g1, .ref g2, .ref g3, .ref g4, .ref g5, .ref g6, .ref g7, .ref g8, .ref g9, .ref g10, .int 0, .int 0, .int 0]))] [] sz)) (va_Qi (fun (_ : Int32) (_ : Unit) => False) (fun _ _ => True) (va_A [(h0, .inr (12, [.ref ma, .ref rn, .ref ef, .ref ck, .ref tr, .int 0, .int 0, .int 0, .int 0, .long 0])), (ma, .inr (7, [.ref fi, .ref se, .ref ce, .ref pr, .ref di, .ref dr, .ref li, .ref ru, .ref ba, .int 1000, .int 0, .int 0, .int 0, .int 0, .int 0, .int 0])), (di, .inr (2, [.ref g1, .ref g2, .ref g3, .ref g4, .ref g5, .ref g6, .ref g7, .ref g8, .ref g9, .ref g10, .int 0, .int 0, .int 0]))] sz)) (vx_X (fun (_ : Unit) => True) (fun E _ _ => E = "java/lang/IndexOutOfBoundsException") (va_A [(h0, .inr (12, [.ref ma, .ref rn, .ref ef, .ref ck, .ref tr, .int 0, .int 0, .int 0, .int 0, .long 0])), (ma, .inr (7, [.ref fi, .ref se, .ref ce, .ref pr, .ref di, .ref dr, .ref li, .ref ru, .ref ba, .int 1000, .int 0, .int 0, .int 0, .int 0, .int 0, .int 0])), (di, .inr (2, [.ref g1, .ref g2, .ref g3, .ref g4, .ref g5, .ref g6, .ref g7, .ref g8, .ref g9, .ref g10, .int 0, .int 0, .int 0]))] sz)) 1 6 (va_A [(h0, .inr (12, [.ref ma, .ref rn, .ref ef, .ref ck, .ref tr, .int 0, .int 0, .int 0, .int 0, .long 0])), (ma, .inr (7, [.ref fi, .ref se, .ref ce, .ref pr, .ref di, .ref dr, .ref li, .ref ru, .ref ba, .int 1000, .int 0, .int 0, .int 0, .int 0, .int 0, .int 0])), (di, .inr (2, [.ref g1, .ref g2, .ref g3, .ref g4, .ref g5, .ref g6, .ref g7, .ref g8, .ref g9, .ref g10, .int 0, .int 0, .int 0]))] sz) := by
  refine vx_ofW (cc := cX11_nameOf) (maxL := 2) (ret := (some .int)) (by decide) rfl ?_
  intro p e s m args below meth c s₁ B hml ht9 hv
  obtain ⟨rfl, hsz, hP, hK, hD0, hE⟩ := hv
  have hx := B.exec
  have hb := B.bytes
  have hr := B.returns
  have hts0 := atoms_spec (ws := ws_ yX11_nameOf cX11_nameOf 2 (some .int)) B.pre
  have hts := fun (w : Cond) (h : w ∈ pw) => hts0 w (List.mem_cons_of_mem _ h)
  have hown : s.vm.findClass RX11 = some m.cls := findClass_of_methodNamed B.named
  have hlocks := B.notSynchronized
  subst hsz
  have hD := hD0.self (sz := s.heap.size)
  generalize hAe : va_A [(h0, .inr (12, [.ref ma, .ref rn, .ref ef, .ref ck, .ref tr, .int 0, .int 0, .int 0, .int 0, .long 0])), (ma, .inr (7, [.ref fi, .ref se, .ref ce, .ref pr, .ref di, .ref dr, .ref li, .ref ru, .ref ba, .int 1000, .int 0, .int 0, .int 0, .int 0, .int 0, .int 0])), (di, .inr (2, [.ref g1, .ref g2, .ref g3, .ref g4, .ref g5, .ref g6, .ref g7, .ref g8, .ref g9, .ref g10, .int 0, .int 0, .int 0]))] s.heap.size = A at hD hE ⊢
  have hA : ∀ q : Nat, s.heap.size ≤ q → A q := fun q h => by rw [← hAe]; exact Or.inr h
  have hS : va_S A s.heap s.heap [] := va_S.rf
  have hN := hE.1
  have hP : va_P (dC, dI) pcl [(h0, .inr (12, [.ref ma, .ref rn, .ref ef, .ref ck, .ref tr, .int 0, .int 0, .int 0, .int 0, .long 0])), (ma, .inr (7, [.ref fi, .ref se, .ref ce, .ref pr, .ref di, .ref dr, .ref li, .ref ru, .ref ba, .int 1000, .int 0, .int 0, .int 0, .int 0, .int 0, .int 0])), (di, .inr (2, [.ref g1, .ref g2, .ref g3, .ref g4, .ref g5, .ref g6, .ref g7, .ref g8, .ref g9, .ref g10, .int 0, .int 0, .int 0]))] s.heap := hP
  have hl := lv_entry ([.ref h0, .int n]) (n := 2) (Nat.le_of_ble_eq_true rfl)
  rw [lg_entry_eq]
  generalize (lg_sl ([.ref h0, .int n]) ++ List.replicate (2 - (lg_sl ([.ref h0, .int n])).length) Slot.unset).toArray = ls at hl ⊢
  have hl : lv_has ls 2 [(0, .ref h0), (1, .int n)] := hl
  obtain ⟨H, hH0⟩ : ∃ H, H = s.heap := ⟨_, rfl⟩
  rw [← hH0] at hP ⊢
  have hS : va_S A s.heap H [] := by rw [hH0]; exact hS
  refine lv_aload_n hx hb dX11_nameOf_0 rfl (lv_at hl 0 rfl) ?_
  refine va_get (D := (dC, dI)) (ci := 12) (v := .ref ma) (C := RX11) (T := TX11) (N := 10) hx hb hts pinX11 hown hK hP 0 rfl rfl 0 (by decide) (hts _ e120) (fun _ h9 => h9) rfl dX11_nameOf_1 ?_
  refine va_getN (D := (dC, dI)) (ci := 7) (v := .ref di) (C := RX6) (T := TX6) (N := 16) hx hb hts pinX6 hown hK hP 1 rfl rfl 4 (by decide) (va_Nw.use rfl (hN _ n13)) (fun _ h9 => h9) rfl dX11_nameOf_4 ?_
  refine lv_iload_n hx hb dX11_nameOf_7 rfl (lv_at hl 1 rfl) ?_
  have hPc := hP.sub (ws' := [(di, .inr (2, [.ref g1, .ref g2, .ref g3, .ref g4, .ref g5, .ref g6, .ref g7, .ref g8, .ref g9, .ref g10, .int 0, .int 0, .int 0]))]) [2] rfl
  have hDc := hD.sub (ws' := [(di, .inr (2, [.ref g1, .ref g2, .ref g3, .ref g4, .ref g5, .ref g6, .ref g7, .ref g8, .ref g9, .ref g10, .int 0, .int 0, .int 0]))]) [2] (by decide) rfl
  have hKc := hK.sub (tys' := []) [] rfl
  have hFc := va_free (wc := [(di, .inr (2, [.ref g1, .ref g2, .ref g3, .ref g4, .ref g5, .ref g6, .ref g7, .ref g8, .ref g9, .ref g10, .int 0, .int 0, .int 0]))]) hD hS hA [2] rfl
  refine va_calli (va_runVN (As := [.int n]) (rest := []) ⟨hx, hb, hml, hown, hts⟩ (c_X1_has l dC dI z di g1 g2 g3 g4 g5 g6 g7 g8 g9 g10 n H.size) ⟨va_cnB 1 hts (ws_good e21) rfl rfl rfl (hN _ n32) (hts _ e20) ⟨by decide +kernel, by decide +kernel, by decide +kernel⟩ ⟨Nat.le_of_ble_eq_true rfl, Nat.le_of_ble_eq_true rfl⟩, (hts _ e19), (hts _ e22)⟩ ⟨pPre_blind, va_recv hKc hPc (ci := 2) (q0 := 0) rfl rfl, fun U hU hW => ⟨rfl, pPre_at hPc hKc hDc hE hS hFc U hU hW⟩⟩ rfl rfl hl.1 rfl (lv_room (Nat.le_of_ble_eq_true rfl)) dX11_nameOf_8 ⟨Nat.le_of_ble_eq_true rfl, Nat.le_of_ble_eq_true rfl⟩) hS (fun q _ h => hFc q h) hFc (fun r1 u2 t H1 locs ht hvm hw hB hz1 hk1 hS => ?_)
  obtain ⟨hP1, hK1, hD1⟩ := hB
  rw [ht] at hP1
  have hK1 := va_K.moved hvm.symm hK1
  obtain ⟨hP, hD⟩ := va_join (wr := [(h0, .inr (12, [.ref ma, .ref rn, .ref ef, .ref ck, .ref tr, .int 0, .int 0, .int 0, .int 0, .long 0])), (ma, .inr (7, [.ref fi, .ref se, .ref ce, .ref pr, .ref di, .ref dr, .ref li, .ref ru, .ref ba, .int 1000, .int 0, .int 0, .int 0, .int 0, .int 0, .int 0]))]) (w1 := [(di, .inr (2, [.ref g1, .ref g2, .ref g3, .ref g4, .ref g5, .ref g6, .ref g7, .ref g8, .ref g9, .ref g10, .int 0, .int 0, .int 0]))]) hP hD [2] [0, 1] rfl rfl (by decide) (by decide) hk1 hFc hP1 hD1
  have hK := hK.app hK1
  generalize H1 = H at hP hS ⊢
  have hP : va_P (dC, dI) pcl [(h0, .inr (12, [.ref ma, .ref rn, .ref ef, .ref ck, .ref tr, .int 0, .int 0, .int 0, .int 0, .long 0])), (ma, .inr (7, [.ref fi, .ref se, .ref ce, .ref pr, .ref di, .ref dr, .ref li, .ref ru, .ref ba, .int 1000, .int 0, .int 0, .int 0, .int 0, .int 0, .int 0])), (di, .inr (2, [.ref g1, .ref g2, .ref g3, .ref g4, .ref g5, .ref g6, .ref g7, .ref g8, .ref g9, .ref g10, .int 0, .int 0, .int 0]))] H := hP
  have hD : va_D A [(h0, .inr (12, [.ref ma, .ref rn, .ref ef, .ref ck, .ref tr, .int 0, .int 0, .int 0, .int 0, .long 0])), (ma, .inr (7, [.ref fi, .ref se, .ref ce, .ref pr, .ref di, .ref dr, .ref li, .ref ru, .ref ba, .int 1000, .int 0, .int 0, .int 0, .int 0, .int 0, .int 0])), (di, .inr (2, [.ref g1, .ref g2, .ref g3, .ref g4, .ref g5, .ref g6, .ref g7, .ref g8, .ref g9, .ref g10, .int 0, .int 0, .int 0]))] := hD
  have hK : va_K (dC, dI) pcl [] s := hK
  subst hw
  refine lv_if_ne (tgt := 24) hx hb dX11_nameOf_11 (by decide) (fun h9 => absurd (by decide) h9) (fun _ => ?_)
  obtain ⟨sa, hstr⟩ := hE.2.2.2.2.2.2.2.2.1 (RX11, 200, "there is no such entry") (List.mem_of_getElem? (i := 8) rfl)
  exact vx_throwS hx hb hfl (own := RX11) (cls := "java/lang/IndexOutOfBoundsException") (text := "there is no such entry") (names := xnames) hown (by decide +kernel) (by decide +kernel) (hts _ e164) (hts _ e165) hstr (xat2 hts hN) xgood2 hE.2.1 hE.2.2.1 hS (hl.1.trans hml.symm) dX11_nameOf_14 dX11_nameOf_17 dX11_nameOf_18 dX11_nameOf_20 dX11_nameOf_23 (fun x9 h9 => (ht9 x9 h9).elim) (Nat.le_of_ble_eq_true rfl) (Nat.le_of_ble_eq_true rfl) (Nat.le_of_ble_eq_true rfl) (Nat.le_of_ble_eq_true rfl) hlocks (fun t _ h1 h2 => ⟨(), trivial, rfl, p_FX hS h1 h2⟩) hS.2.2 (Nat.le_of_ble_eq_true rfl) (Nat.le_of_ble_eq_true rfl)
set_option maxHeartbeats 4000000 in
set_option maxRecDepth 100000 in
theorem c_X11_kindOf (l : Launch) (hfl : l.stackTraces = false) (dC : Nat → ClassId) (dI : Nat → Nat → Nat) (z : pG) (h0 : Nat) (ma : Nat) (rn : Nat) (ef : Nat) (ck : Nat) (tr : Nat) (fi : Nat) (se : Nat) (ce : Nat) (pr : Nat) (di : Nat) (dr : Nat) (li : Nat) (ru : Nat) (ba : Nat) (g1 : Nat) (g2 : Nat) (g3 : Nat) (g4 : Nat) (g5 : Nat) (g6 : Nat) (g7 : Nat) (g8 : Nat) (g9 : Nat) (g10 : Nat) (n : Int32) (sz : Nat) : vx_Met l yX11_kindOf (ws_ yX11_kindOf cX11_kindOf 2 (some .char)) ({ frames := 6, cells := 1, slots := 6, locals := 82 }) (va_Pc [.ref h0, .int n] (pPre z dC dI [(h0, .inr (12, [.ref ma, .ref rn, .ref ef, .ref ck, .ref tr, .int 0, .int 0, .int 0, .int 0, .long 0])), (ma, .inr (7, [.ref fi, .ref se, .ref ce, .ref pr, .ref di, .ref dr, .ref li, .ref ru, .ref ba, .int 1000, .int 0, .int 0, .int 0, .int 0, .int 0, .int 0])), (di, .inr (2, [.ref g1, .ref g2, .ref g3, .ref g4, .ref g5, .ref g6, .ref g7, .ref g8, .ref g9, .ref g10, .int 0, .int 0, .int 0]))] [] sz)) (va_Qi (fun (_ : Int32) (_ : Unit) => False) (fun _ _ => True) (va_A [(h0, .inr (12, [.ref ma, .ref rn, .ref ef, .ref ck, .ref tr, .int 0, .int 0, .int 0, .int 0, .long 0])), (ma, .inr (7, [.ref fi, .ref se, .ref ce, .ref pr, .ref di, .ref dr, .ref li, .ref ru, .ref ba, .int 1000, .int 0, .int 0, .int 0, .int 0, .int 0, .int 0])), (di, .inr (2, [.ref g1, .ref g2, .ref g3, .ref g4, .ref g5, .ref g6, .ref g7, .ref g8, .ref g9, .ref g10, .int 0, .int 0, .int 0]))] sz)) (vx_X (fun (_ : Unit) => True) (fun E _ _ => E = "java/lang/IndexOutOfBoundsException") (va_A [(h0, .inr (12, [.ref ma, .ref rn, .ref ef, .ref ck, .ref tr, .int 0, .int 0, .int 0, .int 0, .long 0])), (ma, .inr (7, [.ref fi, .ref se, .ref ce, .ref pr, .ref di, .ref dr, .ref li, .ref ru, .ref ba, .int 1000, .int 0, .int 0, .int 0, .int 0, .int 0, .int 0])), (di, .inr (2, [.ref g1, .ref g2, .ref g3, .ref g4, .ref g5, .ref g6, .ref g7, .ref g8, .ref g9, .ref g10, .int 0, .int 0, .int 0]))] sz)) 1 6 (va_A [(h0, .inr (12, [.ref ma, .ref rn, .ref ef, .ref ck, .ref tr, .int 0, .int 0, .int 0, .int 0, .long 0])), (ma, .inr (7, [.ref fi, .ref se, .ref ce, .ref pr, .ref di, .ref dr, .ref li, .ref ru, .ref ba, .int 1000, .int 0, .int 0, .int 0, .int 0, .int 0, .int 0])), (di, .inr (2, [.ref g1, .ref g2, .ref g3, .ref g4, .ref g5, .ref g6, .ref g7, .ref g8, .ref g9, .ref g10, .int 0, .int 0, .int 0]))] sz) := by
  refine vx_ofW (cc := cX11_kindOf) (maxL := 2) (ret := (some .char)) (by decide) rfl ?_
  intro p e s m args below meth c s₁ B hml ht9 hv
  obtain ⟨rfl, hsz, hP, hK, hD0, hE⟩ := hv
  have hx := B.exec
  have hb := B.bytes
  have hr := B.returns
  have hts0 := atoms_spec (ws := ws_ yX11_kindOf cX11_kindOf 2 (some .char)) B.pre
  have hts := fun (w : Cond) (h : w ∈ pw) => hts0 w (List.mem_cons_of_mem _ h)
  have hown : s.vm.findClass RX11 = some m.cls := findClass_of_methodNamed B.named
  have hlocks := B.notSynchronized
  subst hsz
  have hD := hD0.self (sz := s.heap.size)
  generalize hAe : va_A [(h0, .inr (12, [.ref ma, .ref rn, .ref ef, .ref ck, .ref tr, .int 0, .int 0, .int 0, .int 0, .long 0])), (ma, .inr (7, [.ref fi, .ref se, .ref ce, .ref pr, .ref di, .ref dr, .ref li, .ref ru, .ref ba, .int 1000, .int 0, .int 0, .int 0, .int 0, .int 0, .int 0])), (di, .inr (2, [.ref g1, .ref g2, .ref g3, .ref g4, .ref g5, .ref g6, .ref g7, .ref g8, .ref g9, .ref g10, .int 0, .int 0, .int 0]))] s.heap.size = A at hD hE ⊢
  have hA : ∀ q : Nat, s.heap.size ≤ q → A q := fun q h => by rw [← hAe]; exact Or.inr h
  have hS : va_S A s.heap s.heap [] := va_S.rf
  have hN := hE.1
  have hP : va_P (dC, dI) pcl [(h0, .inr (12, [.ref ma, .ref rn, .ref ef, .ref ck, .ref tr, .int 0, .int 0, .int 0, .int 0, .long 0])), (ma, .inr (7, [.ref fi, .ref se, .ref ce, .ref pr, .ref di, .ref dr, .ref li, .ref ru, .ref ba, .int 1000, .int 0, .int 0, .int 0, .int 0, .int 0, .int 0])), (di, .inr (2, [.ref g1, .ref g2, .ref g3, .ref g4, .ref g5, .ref g6, .ref g7, .ref g8, .ref g9, .ref g10, .int 0, .int 0, .int 0]))] s.heap := hP
  have hl := lv_entry ([.ref h0, .int n]) (n := 2) (Nat.le_of_ble_eq_true rfl)
  rw [lg_entry_eq]
  generalize (lg_sl ([.ref h0, .int n]) ++ List.replicate (2 - (lg_sl ([.ref h0, .int n])).length) Slot.unset).toArray = ls at hl ⊢
  have hl : lv_has ls 2 [(0, .ref h0), (1, .int n)] := hl
  obtain ⟨H, hH0⟩ : ∃ H, H = s.heap := ⟨_, rfl⟩
  rw [← hH0] at hP ⊢
  have hS : va_S A s.heap H [] := by rw [hH0]; exact hS
  refine lv_aload_n hx hb dX11_kindOf_0 rfl (lv_at hl 0 rfl) ?_
  refine va_get (D := (dC, dI)) (ci := 12) (v := .ref ma) (C := RX11) (T := TX11) (N := 10) hx hb hts pinX11 hown hK hP 0 rfl rfl 0 (by decide) (hts _ e120) (fun _ h9 => h9) rfl dX11_kindOf_1 ?_
  refine va_getN (D := (dC, dI)) (ci := 7) (v := .ref di) (C := RX6) (T := TX6) (N := 16) hx hb hts pinX6 hown hK hP 1 rfl rfl 4 (by decide) (va_Nw.use rfl (hN _ n13)) (fun _ h9 => h9) rfl dX11_kindOf_4 ?_
  refine lv_iload_n hx hb dX11_kindOf_7 rfl (lv_at hl 1 rfl) ?_
  have hPc := hP.sub (ws' := [(di, .inr (2, [.ref g1, .ref g2, .ref g3, .ref g4, .ref g5, .ref g6, .ref g7, .ref g8, .ref g9, .ref g10, .int 0, .int 0, .int 0]))]) [2] rfl
  have hDc := hD.sub (ws' := [(di, .inr (2, [.ref g1, .ref g2, .ref g3, .ref g4, .ref g5, .ref g6, .ref g7, .ref g8, .ref g9, .ref g10, .int 0, .int 0, .int 0]))]) [2] (by decide) rfl
  have hKc := hK.sub (tys' := []) [] rfl
  have hFc := va_free (wc := [(di, .inr (2, [.ref g1, .ref g2, .ref g3, .ref g4, .ref g5, .ref g6, .ref g7, .ref g8, .ref g9, .ref g10, .int 0, .int 0, .int 0]))]) hD hS hA [2] rfl
  refine va_calli (va_runVN (As := [.int n]) (rest := []) ⟨hx, hb, hml, hown, hts⟩ (c_X1_has l dC dI z di g1 g2 g3 g4 g5 g6 g7 g8 g9 g10 n H.size) ⟨va_cnB 1 hts (ws_good e21) rfl rfl rfl (hN _ n32) (hts _ e20) ⟨by decide +kernel, by decide +kernel, by decide +kernel⟩ ⟨Nat.le_of_ble_eq_true rfl, Nat.le_of_ble_eq_true rfl⟩, (hts _ e19), (hts _ e22)⟩ ⟨pPre_blind, va_recv hKc hPc (ci := 2) (q0 := 0) rfl rfl, fun U hU hW => ⟨rfl, pPre_at hPc hKc hDc hE hS hFc U hU hW⟩⟩ rfl rfl hl.1 rfl (lv_room (Nat.le_of_ble_eq_true rfl)) dX11_kindOf_8 ⟨Nat.le_of_ble_eq_true rfl, Nat.le_of_ble_eq_true rfl⟩) hS (fun q _ h => hFc q h) hFc (fun r1 u2 t H1 locs ht hvm hw hB hz1 hk1 hS => ?_)
  obtain ⟨hP1, hK1, hD1⟩ := hB
  rw [ht] at hP1
  have hK1 := va_K.moved hvm.symm hK1
  obtain ⟨hP, hD⟩ := va_join (wr := [(h0, .inr (12, [.ref ma, .ref rn, .ref ef, .ref ck, .ref tr, .int 0, .int 0, .int 0, .int 0, .long 0])), (ma, .inr (7, [.ref fi, .ref se, .ref ce, .ref pr, .ref di, .ref dr, .ref li, .ref ru, .ref ba, .int 1000, .int 0, .int 0, .int 0, .int 0, .int 0, .int 0]))]) (w1 := [(di, .inr (2, [.ref g1, .ref g2, .ref g3, .ref g4, .ref g5, .ref g6, .ref g7, .ref g8, .ref g9, .ref g10, .int 0, .int 0, .int 0]))]) hP hD [2] [0, 1] rfl rfl (by decide) (by decide) hk1 hFc hP1 hD1
  have hK := hK.app hK1
  generalize H1 = H at hP hS ⊢
  have hP : va_P (dC, dI) pcl [(h0, .inr (12, [.ref ma, .ref rn, .ref ef, .ref ck, .ref tr, .int 0, .int 0, .int 0, .int 0, .long 0])), (ma, .inr (7, [.ref fi, .ref se, .ref ce, .ref pr, .ref di, .ref dr, .ref li, .ref ru, .ref ba, .int 1000, .int 0, .int 0, .int 0, .int 0, .int 0, .int 0])), (di, .inr (2, [.ref g1, .ref g2, .ref g3, .ref g4, .ref g5, .ref g6, .ref g7, .ref g8, .ref g9, .ref g10, .int 0, .int 0, .int 0]))] H := hP
  have hD : va_D A [(h0, .inr (12, [.ref ma, .ref rn, .ref ef, .ref ck, .ref tr, .int 0, .int 0, .int 0, .int 0, .long 0])), (ma, .inr (7, [.ref fi, .ref se, .ref ce, .ref pr, .ref di, .ref dr, .ref li, .ref ru, .ref ba, .int 1000, .int 0, .int 0, .int 0, .int 0, .int 0, .int 0])), (di, .inr (2, [.ref g1, .ref g2, .ref g3, .ref g4, .ref g5, .ref g6, .ref g7, .ref g8, .ref g9, .ref g10, .int 0, .int 0, .int 0]))] := hD
  have hK : va_K (dC, dI) pcl [] s := hK
  subst hw
  refine lv_if_ne (tgt := 24) hx hb dX11_kindOf_11 (by decide) (fun h9 => absurd (by decide) h9) (fun _ => ?_)
  obtain ⟨sa, hstr⟩ := hE.2.2.2.2.2.2.2.2.1 (RX11, 200, "there is no such entry") (List.mem_of_getElem? (i := 8) rfl)
  exact vx_throwS hx hb hfl (own := RX11) (cls := "java/lang/IndexOutOfBoundsException") (text := "there is no such entry") (names := xnames) hown (by decide +kernel) (by decide +kernel) (hts _ e164) (hts _ e165) hstr (xat2 hts hN) xgood2 hE.2.1 hE.2.2.1 hS (hl.1.trans hml.symm) dX11_kindOf_14 dX11_kindOf_17 dX11_kindOf_18 dX11_kindOf_20 dX11_kindOf_23 (fun x9 h9 => (ht9 x9 h9).elim) (Nat.le_of_ble_eq_true rfl) (Nat.le_of_ble_eq_true rfl) (Nat.le_of_ble_eq_true rfl) (Nat.le_of_ble_eq_true rfl) hlocks (fun t _ h1 h2 => ⟨(), trivial, rfl, p_FX hS h1 h2⟩) hS.2.2 (Nat.le_of_ble_eq_true rfl) (Nat.le_of_ble_eq_true rfl)
set_option maxHeartbeats 4000000 in
set_option maxRecDepth 100000 in
theorem c_X11_isImmediate (l : Launch) (hfl : l.stackTraces = false) (dC : Nat → ClassId) (dI : Nat → Nat → Nat) (z : pG) (h0 : Nat) (ma : Nat) (rn : Nat) (ef : Nat) (ck : Nat) (tr : Nat) (fi : Nat) (se : Nat) (ce : Nat) (pr : Nat) (di : Nat) (dr : Nat) (li : Nat) (ru : Nat) (ba : Nat) (g1 : Nat) (g2 : Nat) (g3 : Nat) (g4 : Nat) (g5 : Nat) (g6 : Nat) (g7 : Nat) (g8 : Nat) (g9 : Nat) (g10 : Nat) (n : Int32) (sz : Nat) : vx_Met l yX11_isImmediate (ws_ yX11_isImmediate cX11_isImmediate 2 (some .boolean)) ({ frames := 6, cells := 1, slots := 6, locals := 82 }) (va_Pc [.ref h0, .int n] (pPre z dC dI [(h0, .inr (12, [.ref ma, .ref rn, .ref ef, .ref ck, .ref tr, .int 0, .int 0, .int 0, .int 0, .long 0])), (ma, .inr (7, [.ref fi, .ref se, .ref ce, .ref pr, .ref di, .ref dr, .ref li, .ref ru, .ref ba, .int 1000, .int 0, .int 0, .int 0, .int 0, .int 0, .int 0])), (di, .inr (2, [.ref g1, .ref g2, .ref g3, .ref g4, .ref g5, .ref g6, .ref g7, .ref g8, .ref g9, .ref g10, .int 0, .int 0, .int 0]))] [] sz)) (va_Qi (fun (_ : Int32) (_ : Unit) => False) (fun _ _ => True) (va_A [(h0, .inr (12, [.ref ma, .ref rn, .ref ef, .ref ck, .ref tr, .int 0, .int 0, .int 0, .int 0, .long 0])), (ma, .inr (7, [.ref fi, .ref se, .ref ce, .ref pr, .ref di, .ref dr, .ref li, .ref ru, .ref ba, .int 1000, .int 0, .int 0, .int 0, .int 0, .int 0, .int 0])), (di, .inr (2, [.ref g1, .ref g2, .ref g3, .ref g4, .ref g5, .ref g6, .ref g7, .ref g8, .ref g9, .ref g10, .int 0, .int 0, .int 0]))] sz)) (vx_X (fun (_ : Unit) => True) (fun E _ _ => E = "java/lang/IndexOutOfBoundsException") (va_A [(h0, .inr (12, [.ref ma, .ref rn, .ref ef, .ref ck, .ref tr, .int 0, .int 0, .int 0, .int 0, .long 0])), (ma, .inr (7, [.ref fi, .ref se, .ref ce, .ref pr, .ref di, .ref dr, .ref li, .ref ru, .ref ba, .int 1000, .int 0, .int 0, .int 0, .int 0, .int 0, .int 0])), (di, .inr (2, [.ref g1, .ref g2, .ref g3, .ref g4, .ref g5, .ref g6, .ref g7, .ref g8, .ref g9, .ref g10, .int 0, .int 0, .int 0]))] sz)) 1 6 (va_A [(h0, .inr (12, [.ref ma, .ref rn, .ref ef, .ref ck, .ref tr, .int 0, .int 0, .int 0, .int 0, .long 0])), (ma, .inr (7, [.ref fi, .ref se, .ref ce, .ref pr, .ref di, .ref dr, .ref li, .ref ru, .ref ba, .int 1000, .int 0, .int 0, .int 0, .int 0, .int 0, .int 0])), (di, .inr (2, [.ref g1, .ref g2, .ref g3, .ref g4, .ref g5, .ref g6, .ref g7, .ref g8, .ref g9, .ref g10, .int 0, .int 0, .int 0]))] sz) := by
  refine vx_ofW (cc := cX11_isImmediate) (maxL := 2) (ret := (some .boolean)) (by decide) rfl ?_
  intro p e s m args below meth c s₁ B hml ht9 hv
  obtain ⟨rfl, hsz, hP, hK, hD0, hE⟩ := hv
  have hx := B.exec
  have hb := B.bytes
  have hr := B.returns
  have hts0 := atoms_spec (ws := ws_ yX11_isImmediate cX11_isImmediate 2 (some .boolean)) B.pre
  have hts := fun (w : Cond) (h : w ∈ pw) => hts0 w (List.mem_cons_of_mem _ h)
  have hown : s.vm.findClass RX11 = some m.cls := findClass_of_methodNamed B.named
  have hlocks := B.notSynchronized
  subst hsz
  have hD := hD0.self (sz := s.heap.size)
  generalize hAe : va_A [(h0, .inr (12, [.ref ma, .ref rn, .ref ef, .ref ck, .ref tr, .int 0, .int 0, .int 0, .int 0, .long 0])), (ma, .inr (7, [.ref fi, .ref se, .ref ce, .ref pr, .ref di, .ref dr, .ref li, .ref ru, .ref ba, .int 1000, .int 0, .int 0, .int 0, .int 0, .int 0, .int 0])), (di, .inr (2, [.ref g1, .ref g2, .ref g3, .ref g4, .ref g5, .ref g6, .ref g7, .ref g8, .ref g9, .ref g10, .int 0, .int 0, .int 0]))] s.heap.size = A at hD hE ⊢
  have hA : ∀ q : Nat, s.heap.size ≤ q → A q := fun q h => by rw [← hAe]; exact Or.inr h
  have hS : va_S A s.heap s.heap [] := va_S.rf
  have hN := hE.1
  have hP : va_P (dC, dI) pcl [(h0, .inr (12, [.ref ma, .ref rn, .ref ef, .ref ck, .ref tr, .int 0, .int 0, .int 0, .int 0, .long 0])), (ma, .inr (7, [.ref fi, .ref se, .ref ce, .ref pr, .ref di, .ref dr, .ref li, .ref ru, .ref ba, .int 1000, .int 0, .int 0, .int 0, .int 0, .int 0, .int 0])), (di, .inr (2, [.ref g1, .ref g2, .ref g3, .ref g4, .ref g5, .ref g6, .ref g7, .ref g8, .ref g9, .ref g10, .int 0, .int 0, .int 0]))] s.heap := hP
  have hl := lv_entry ([.ref h0, .int n]) (n := 2) (Nat.le_of_ble_eq_true rfl)
  rw [lg_entry_eq]
  generalize (lg_sl ([.ref h0, .int n]) ++ List.replicate (2 - (lg_sl ([.ref h0, .int n])).length) Slot.unset).toArray = ls at hl ⊢
  have hl : lv_has ls 2 [(0, .ref h0), (1, .int n)] := hl
  obtain ⟨H, hH0⟩ : ∃ H, H = s.heap := ⟨_, rfl⟩
  rw [← hH0] at hP ⊢
  have hS : va_S A s.heap H [] := by rw [hH0]; exact hS
  refine lv_aload_n hx hb dX11_isImmediate_0 rfl (lv_at hl 0 rfl) ?_
  refine va_get (D := (dC, dI)) (ci := 12) (v := .ref ma) (C := RX11) (T := TX11) (N := 10) hx hb hts pinX11 hown hK hP 0 rfl rfl 0 (by decide) (hts _ e120) (fun _ h9 => h9) rfl dX11_isImmediate_1 ?_
  refine va_getN (D := (dC, dI)) (ci := 7) (v := .ref di) (C := RX6) (T := TX6) (N := 16) hx hb hts pinX6 hown hK hP 1 rfl rfl 4 (by decide) (va_Nw.use rfl (hN _ n13)) (fun _ h9 => h9) rfl dX11_isImmediate_4 ?_
  refine lv_iload_n hx hb dX11_isImmediate_7 rfl (lv_at hl 1 rfl) ?_
  have hPc := hP.sub (ws' := [(di, .inr (2, [.ref g1, .ref g2, .ref g3, .ref g4, .ref g5, .ref g6, .ref g7, .ref g8, .ref g9, .ref g10, .int 0, .int 0, .int 0]))]) [2] rfl
  have hDc := hD.sub (ws' := [(di, .inr (2, [.ref g1, .ref g2, .ref g3, .ref g4, .ref g5, .ref g6, .ref g7, .ref g8, .ref g9, .ref g10, .int 0, .int 0, .int 0]))]) [2] (by decide) rfl
  have hKc := hK.sub (tys' := []) [] rfl
  have hFc := va_free (wc := [(di, .inr (2, [.ref g1, .ref g2, .ref g3, .ref g4, .ref g5, .ref g6, .ref g7, .ref g8, .ref g9, .ref g10, .int 0, .int 0, .int 0]))]) hD hS hA [2] rfl
  refine va_calli (va_runVN (As := [.int n]) (rest := []) ⟨hx, hb, hml, hown, hts⟩ (c_X1_has l dC dI z di g1 g2 g3 g4 g5 g6 g7 g8 g9 g10 n H.size) ⟨va_cnB 1 hts (ws_good e21) rfl rfl rfl (hN _ n32) (hts _ e20) ⟨by decide +kernel, by decide +kernel, by decide +kernel⟩ ⟨Nat.le_of_ble_eq_true rfl, Nat.le_of_ble_eq_true rfl⟩, (hts _ e19), (hts _ e22)⟩ ⟨pPre_blind, va_recv hKc hPc (ci := 2) (q0 := 0) rfl rfl, fun U hU hW => ⟨rfl, pPre_at hPc hKc hDc hE hS hFc U hU hW⟩⟩ rfl rfl hl.1 rfl (lv_room (Nat.le_of_ble_eq_true rfl)) dX11_isImmediate_8 ⟨Nat.le_of_ble_eq_true rfl, Nat.le_of_ble_eq_true rfl⟩) hS (fun q _ h => hFc q h) hFc (fun r1 u2 t H1 locs ht hvm hw hB hz1 hk1 hS => ?_)
  obtain ⟨hP1, hK1, hD1⟩ := hB
  rw [ht] at hP1
  have hK1 := va_K.moved hvm.symm hK1
  obtain ⟨hP, hD⟩ := va_join (wr := [(h0, .inr (12, [.ref ma, .ref rn, .ref ef, .ref ck, .ref tr, .int 0, .int 0, .int 0, .int 0, .long 0])), (ma, .inr (7, [.ref fi, .ref se, .ref ce, .ref pr, .ref di, .ref dr, .ref li, .ref ru, .ref ba, .int 1000, .int 0, .int 0, .int 0, .int 0, .int 0, .int 0]))]) (w1 := [(di, .inr (2, [.ref g1, .ref g2, .ref g3, .ref g4, .ref g5, .ref g6, .ref g7, .ref g8, .ref g9, .ref g10, .int 0, .int 0, .int 0]))]) hP hD [2] [0, 1] rfl rfl (by decide) (by decide) hk1 hFc hP1 hD1
  have hK := hK.app hK1
  generalize H1 = H at hP hS ⊢
  have hP : va_P (dC, dI) pcl [(h0, .inr (12, [.ref ma, .ref rn, .ref ef, .ref ck, .ref tr, .int 0, .int 0, .int 0, .int 0, .long 0])), (ma, .inr (7, [.ref fi, .ref se, .ref ce, .ref pr, .ref di, .ref dr, .ref li, .ref ru, .ref ba, .int 1000, .int 0, .int 0, .int 0, .int 0, .int 0, .int 0])), (di, .inr (2, [.ref g1, .ref g2, .ref g3, .ref g4, .ref g5, .ref g6, .ref g7, .ref g8, .ref g9, .ref g10, .int 0, .int 0, .int 0]))] H := hP
  have hD : va_D A [(h0, .inr (12, [.ref ma, .ref rn, .ref ef, .ref ck, .ref tr, .int 0, .int 0, .int 0, .int 0, .long 0])), (ma, .inr (7, [.ref fi, .ref se, .ref ce, .ref pr, .ref di, .ref dr, .ref li, .ref ru, .ref ba, .int 1000, .int 0, .int 0, .int 0, .int 0, .int 0, .int 0])), (di, .inr (2, [.ref g1, .ref g2, .ref g3, .ref g4, .ref g5, .ref g6, .ref g7, .ref g8, .ref g9, .ref g10, .int 0, .int 0, .int 0]))] := hD
  have hK : va_K (dC, dI) pcl [] s := hK
  subst hw
  refine lv_if_ne (tgt := 24) hx hb dX11_isImmediate_11 (by decide) (fun h9 => absurd (by decide) h9) (fun _ => ?_)
  obtain ⟨sa, hstr⟩ := hE.2.2.2.2.2.2.2.2.1 (RX11, 200, "there is no such entry") (List.mem_of_getElem? (i := 8) rfl)
  exact vx_throwS hx hb hfl (own := RX11) (cls := "java/lang/IndexOutOfBoundsException") (text := "there is no such entry") (names := xnames) hown (by decide +kernel) (by decide +kernel) (hts _ e164) (hts _ e165) hstr (xat2 hts hN) xgood2 hE.2.1 hE.2.2.1 hS (hl.1.trans hml.symm) dX11_isImmediate_14 dX11_isImmediate_17 dX11_isImmediate_18 dX11_isImmediate_20 dX11_isImmediate_23 (fun x9 h9 => (ht9 x9 h9).elim) (Nat.le_of_ble_eq_true rfl) (Nat.le_of_ble_eq_true rfl) (Nat.le_of_ble_eq_true rfl) (Nat.le_of_ble_eq_true rfl) hlocks (fun t _ h1 h2 => ⟨(), trivial, rfl, p_FX hS h1 h2⟩) hS.2.2 (Nat.le_of_ble_eq_true rfl) (Nat.le_of_ble_eq_true rfl)
set_option maxHeartbeats 4000000 in
set_option maxRecDepth 100000 in
theorem c_X11_vocabularyOf (l : Launch) (hfl : l.stackTraces = false) (dC : Nat → ClassId) (dI : Nat → Nat → Nat) (z : pG) (h0 : Nat) (ma : Nat) (rn : Nat) (ef : Nat) (ck : Nat) (tr : Nat) (fi : Nat) (se : Nat) (ce : Nat) (pr : Nat) (di : Nat) (dr : Nat) (li : Nat) (ru : Nat) (ba : Nat) (g1 : Nat) (g2 : Nat) (g3 : Nat) (g4 : Nat) (g5 : Nat) (g6 : Nat) (g7 : Nat) (g8 : Nat) (g9 : Nat) (g10 : Nat) (n : Int32) (sz : Nat) : vx_Met l yX11_vocabularyOf (ws_ yX11_vocabularyOf cX11_vocabularyOf 2 (some .int)) ({ frames := 6, cells := 1, slots := 6, locals := 82 }) (va_Pc [.ref h0, .int n] (pPre z dC dI [(h0, .inr (12, [.ref ma, .ref rn, .ref ef, .ref ck, .ref tr, .int 0, .int 0, .int 0, .int 0, .long 0])), (ma, .inr (7, [.ref fi, .ref se, .ref ce, .ref pr, .ref di, .ref dr, .ref li, .ref ru, .ref ba, .int 1000, .int 0, .int 0, .int 0, .int 0, .int 0, .int 0])), (di, .inr (2, [.ref g1, .ref g2, .ref g3, .ref g4, .ref g5, .ref g6, .ref g7, .ref g8, .ref g9, .ref g10, .int 0, .int 0, .int 0]))] [] sz)) (va_Qi (fun (_ : Int32) (_ : Unit) => False) (fun _ _ => True) (va_A [(h0, .inr (12, [.ref ma, .ref rn, .ref ef, .ref ck, .ref tr, .int 0, .int 0, .int 0, .int 0, .long 0])), (ma, .inr (7, [.ref fi, .ref se, .ref ce, .ref pr, .ref di, .ref dr, .ref li, .ref ru, .ref ba, .int 1000, .int 0, .int 0, .int 0, .int 0, .int 0, .int 0])), (di, .inr (2, [.ref g1, .ref g2, .ref g3, .ref g4, .ref g5, .ref g6, .ref g7, .ref g8, .ref g9, .ref g10, .int 0, .int 0, .int 0]))] sz)) (vx_X (fun (_ : Unit) => True) (fun E _ _ => E = "java/lang/IndexOutOfBoundsException") (va_A [(h0, .inr (12, [.ref ma, .ref rn, .ref ef, .ref ck, .ref tr, .int 0, .int 0, .int 0, .int 0, .long 0])), (ma, .inr (7, [.ref fi, .ref se, .ref ce, .ref pr, .ref di, .ref dr, .ref li, .ref ru, .ref ba, .int 1000, .int 0, .int 0, .int 0, .int 0, .int 0, .int 0])), (di, .inr (2, [.ref g1, .ref g2, .ref g3, .ref g4, .ref g5, .ref g6, .ref g7, .ref g8, .ref g9, .ref g10, .int 0, .int 0, .int 0]))] sz)) 1 6 (va_A [(h0, .inr (12, [.ref ma, .ref rn, .ref ef, .ref ck, .ref tr, .int 0, .int 0, .int 0, .int 0, .long 0])), (ma, .inr (7, [.ref fi, .ref se, .ref ce, .ref pr, .ref di, .ref dr, .ref li, .ref ru, .ref ba, .int 1000, .int 0, .int 0, .int 0, .int 0, .int 0, .int 0])), (di, .inr (2, [.ref g1, .ref g2, .ref g3, .ref g4, .ref g5, .ref g6, .ref g7, .ref g8, .ref g9, .ref g10, .int 0, .int 0, .int 0]))] sz) := by
  refine vx_ofW (cc := cX11_vocabularyOf) (maxL := 2) (ret := (some .int)) (by decide) rfl ?_
  intro p e s m args below meth c s₁ B hml ht9 hv
  obtain ⟨rfl, hsz, hP, hK, hD0, hE⟩ := hv
  have hx := B.exec
  have hb := B.bytes
  have hr := B.returns
  have hts0 := atoms_spec (ws := ws_ yX11_vocabularyOf cX11_vocabularyOf 2 (some .int)) B.pre
  have hts := fun (w : Cond) (h : w ∈ pw) => hts0 w (List.mem_cons_of_mem _ h)
  have hown : s.vm.findClass RX11 = some m.cls := findClass_of_methodNamed B.named
  have hlocks := B.notSynchronized
  subst hsz
  have hD := hD0.self (sz := s.heap.size)
  generalize hAe : va_A [(h0, .inr (12, [.ref ma, .ref rn, .ref ef, .ref ck, .ref tr, .int 0, .int 0, .int 0, .int 0, .long 0])), (ma, .inr (7, [.ref fi, .ref se, .ref ce, .ref pr, .ref di, .ref dr, .ref li, .ref ru, .ref ba, .int 1000, .int 0, .int 0, .int 0, .int 0, .int 0, .int 0])), (di, .inr (2, [.ref g1, .ref g2, .ref g3, .ref g4, .ref g5, .ref g6, .ref g7, .ref g8, .ref g9, .ref g10, .int 0, .int 0, .int 0]))] s.heap.size = A at hD hE ⊢
  have hA : ∀ q : Nat, s.heap.size ≤ q → A q := fun q h => by rw [← hAe]; exact Or.inr h
  have hS : va_S A s.heap s.heap [] := va_S.rf
  have hN := hE.1
  have hP : va_P (dC, dI) pcl [(h0, .inr (12, [.ref ma, .ref rn, .ref ef, .ref ck, .ref tr, .int 0, .int 0, .int 0, .int 0, .long 0])), (ma, .inr (7, [.ref fi, .ref se, .ref ce, .ref pr, .ref di, .ref dr, .ref li, .ref ru, .ref ba, .int 1000, .int 0, .int 0, .int 0, .int 0, .int 0, .int 0])), (di, .inr (2, [.ref g1, .ref g2, .ref g3, .ref g4, .ref g5, .ref g6, .ref g7, .ref g8, .ref g9, .ref g10, .int 0, .int 0, .int 0]))] s.heap := hP
  have hl := lv_entry ([.ref h0, .int n]) (n := 2) (Nat.le_of_ble_eq_true rfl)
  rw [lg_entry_eq]
  generalize (lg_sl ([.ref h0, .int n]) ++ List.replicate (2 - (lg_sl ([.ref h0, .int n])).length) Slot.unset).toArray = ls at hl ⊢
  have hl : lv_has ls 2 [(0, .ref h0), (1, .int n)] := hl
  obtain ⟨H, hH0⟩ : ∃ H, H = s.heap := ⟨_, rfl⟩
  rw [← hH0] at hP ⊢
  have hS : va_S A s.heap H [] := by rw [hH0]; exact hS
  refine lv_aload_n hx hb dX11_vocabularyOf_0 rfl (lv_at hl 0 rfl) ?_
  refine va_get (D := (dC, dI)) (ci := 12) (v := .ref ma) (C := RX11) (T := TX11) (N := 10) hx hb hts pinX11 hown hK hP 0 rfl rfl 0 (by decide) (hts _ e120) (fun _ h9 => h9) rfl dX11_vocabularyOf_1 ?_
  refine va_getN (D := (dC, dI)) (ci := 7) (v := .ref di) (C := RX6) (T := TX6) (N := 16) hx hb hts pinX6 hown hK hP 1 rfl rfl 4 (by decide) (va_Nw.use rfl (hN _ n13)) (fun _ h9 => h9) rfl dX11_vocabularyOf_4 ?_
  refine lv_iload_n hx hb dX11_vocabularyOf_7 rfl (lv_at hl 1 rfl) ?_
  have hPc := hP.sub (ws' := [(di, .inr (2, [.ref g1, .ref g2, .ref g3, .ref g4, .ref g5, .ref g6, .ref g7, .ref g8, .ref g9, .ref g10, .int 0, .int 0, .int 0]))]) [2] rfl
  have hDc := hD.sub (ws' := [(di, .inr (2, [.ref g1, .ref g2, .ref g3, .ref g4, .ref g5, .ref g6, .ref g7, .ref g8, .ref g9, .ref g10, .int 0, .int 0, .int 0]))]) [2] (by decide) rfl
  have hKc := hK.sub (tys' := []) [] rfl
  have hFc := va_free (wc := [(di, .inr (2, [.ref g1, .ref g2, .ref g3, .ref g4, .ref g5, .ref g6, .ref g7, .ref g8, .ref g9, .ref g10, .int 0, .int 0, .int 0]))]) hD hS hA [2] rfl
  refine va_calli (va_runVN (As := [.int n]) (rest := []) ⟨hx, hb, hml, hown, hts⟩ (c_X1_has l dC dI z di g1 g2 g3 g4 g5 g6 g7 g8 g9 g10 n H.size) ⟨va_cnB 1 hts (ws_good e21) rfl rfl rfl (hN _ n32) (hts _ e20) ⟨by decide +kernel, by decide +kernel, by decide +kernel⟩ ⟨Nat.le_of_ble_eq_true rfl, Nat.le_of_ble_eq_true rfl⟩, (hts _ e19), (hts _ e22)⟩ ⟨pPre_blind, va_recv hKc hPc (ci := 2) (q0 := 0) rfl rfl, fun U hU hW => ⟨rfl, pPre_at hPc hKc hDc hE hS hFc U hU hW⟩⟩ rfl rfl hl.1 rfl (lv_room (Nat.le_of_ble_eq_true rfl)) dX11_vocabularyOf_8 ⟨Nat.le_of_ble_eq_true rfl, Nat.le_of_ble_eq_true rfl⟩) hS (fun q _ h => hFc q h) hFc (fun r1 u2 t H1 locs ht hvm hw hB hz1 hk1 hS => ?_)
  obtain ⟨hP1, hK1, hD1⟩ := hB
  rw [ht] at hP1
  have hK1 := va_K.moved hvm.symm hK1
  obtain ⟨hP, hD⟩ := va_join (wr := [(h0, .inr (12, [.ref ma, .ref rn, .ref ef, .ref ck, .ref tr, .int 0, .int 0, .int 0, .int 0, .long 0])), (ma, .inr (7, [.ref fi, .ref se, .ref ce, .ref pr, .ref di, .ref dr, .ref li, .ref ru, .ref ba, .int 1000, .int 0, .int 0, .int 0, .int 0, .int 0, .int 0]))]) (w1 := [(di, .inr (2, [.ref g1, .ref g2, .ref g3, .ref g4, .ref g5, .ref g6, .ref g7, .ref g8, .ref g9, .ref g10, .int 0, .int 0, .int 0]))]) hP hD [2] [0, 1] rfl rfl (by decide) (by decide) hk1 hFc hP1 hD1
  have hK := hK.app hK1
  generalize H1 = H at hP hS ⊢
  have hP : va_P (dC, dI) pcl [(h0, .inr (12, [.ref ma, .ref rn, .ref ef, .ref ck, .ref tr, .int 0, .int 0, .int 0, .int 0, .long 0])), (ma, .inr (7, [.ref fi, .ref se, .ref ce, .ref pr, .ref di, .ref dr, .ref li, .ref ru, .ref ba, .int 1000, .int 0, .int 0, .int 0, .int 0, .int 0, .int 0])), (di, .inr (2, [.ref g1, .ref g2, .ref g3, .ref g4, .ref g5, .ref g6, .ref g7, .ref g8, .ref g9, .ref g10, .int 0, .int 0, .int 0]))] H := hP
  have hD : va_D A [(h0, .inr (12, [.ref ma, .ref rn, .ref ef, .ref ck, .ref tr, .int 0, .int 0, .int 0, .int 0, .long 0])), (ma, .inr (7, [.ref fi, .ref se, .ref ce, .ref pr, .ref di, .ref dr, .ref li, .ref ru, .ref ba, .int 1000, .int 0, .int 0, .int 0, .int 0, .int 0, .int 0])), (di, .inr (2, [.ref g1, .ref g2, .ref g3, .ref g4, .ref g5, .ref g6, .ref g7, .ref g8, .ref g9, .ref g10, .int 0, .int 0, .int 0]))] := hD
  have hK : va_K (dC, dI) pcl [] s := hK
  subst hw
  refine lv_if_ne (tgt := 24) hx hb dX11_vocabularyOf_11 (by decide) (fun h9 => absurd (by decide) h9) (fun _ => ?_)
  obtain ⟨sa, hstr⟩ := hE.2.2.2.2.2.2.2.2.1 (RX11, 200, "there is no such entry") (List.mem_of_getElem? (i := 8) rfl)
  exact vx_throwS hx hb hfl (own := RX11) (cls := "java/lang/IndexOutOfBoundsException") (text := "there is no such entry") (names := xnames) hown (by decide +kernel) (by decide +kernel) (hts _ e164) (hts _ e165) hstr (xat2 hts hN) xgood2 hE.2.1 hE.2.2.1 hS (hl.1.trans hml.symm) dX11_vocabularyOf_14 dX11_vocabularyOf_17 dX11_vocabularyOf_18 dX11_vocabularyOf_20 dX11_vocabularyOf_23 (fun x9 h9 => (ht9 x9 h9).elim) (Nat.le_of_ble_eq_true rfl) (Nat.le_of_ble_eq_true rfl) (Nat.le_of_ble_eq_true rfl) (Nat.le_of_ble_eq_true rfl) hlocks (fun t _ h1 h2 => ⟨(), trivial, rfl, p_FX hS h1 h2⟩) hS.2.2 (Nat.le_of_ble_eq_true rfl) (Nat.le_of_ble_eq_true rfl)
set_option maxHeartbeats 4000000 in
set_option maxRecDepth 100000 in
theorem c_X11_ops (l : Launch) (hfl : l.stackTraces = false) (dC : Nat → ClassId) (dI : Nat → Nat → Nat) (z : pG) (h0 : Nat) (ma : Nat) (rn : Nat) (ef : Nat) (ck : Nat) (tr : Nat) (fi : Nat) (se : Nat) (ce : Nat) (pr : Nat) (di : Nat) (dr : Nat) (li : Nat) (ru : Nat) (ba : Nat) (g1 : Nat) (g2 : Nat) (g3 : Nat) (g4 : Nat) (g5 : Nat) (g6 : Nat) (g7 : Nat) (g8 : Nat) (g9 : Nat) (g10 : Nat) (n : Int32) (sz : Nat) : vx_Met l yX11_ops (ws_ yX11_ops cX11_ops 2 (some .int)) ({ frames := 6, cells := 1, slots := 6, locals := 82 }) (va_Pc [.ref h0, .int n] (pPre z dC dI [(h0, .inr (12, [.ref ma, .ref rn, .ref ef, .ref ck, .ref tr, .int 0, .int 0, .int 0, .int 0, .long 0])), (ma, .inr (7, [.ref fi, .ref se, .ref ce, .ref pr, .ref di, .ref dr, .ref li, .ref ru, .ref ba, .int 1000, .int 0, .int 0, .int 0, .int 0, .int 0, .int 0])), (di, .inr (2, [.ref g1, .ref g2, .ref g3, .ref g4, .ref g5, .ref g6, .ref g7, .ref g8, .ref g9, .ref g10, .int 0, .int 0, .int 0]))] [] sz)) (va_Qi (fun (_ : Int32) (_ : Unit) => False) (fun _ _ => True) (va_A [(h0, .inr (12, [.ref ma, .ref rn, .ref ef, .ref ck, .ref tr, .int 0, .int 0, .int 0, .int 0, .long 0])), (ma, .inr (7, [.ref fi, .ref se, .ref ce, .ref pr, .ref di, .ref dr, .ref li, .ref ru, .ref ba, .int 1000, .int 0, .int 0, .int 0, .int 0, .int 0, .int 0])), (di, .inr (2, [.ref g1, .ref g2, .ref g3, .ref g4, .ref g5, .ref g6, .ref g7, .ref g8, .ref g9, .ref g10, .int 0, .int 0, .int 0]))] sz)) (vx_X (fun (_ : Unit) => True) (fun E _ _ => E = "java/lang/IndexOutOfBoundsException") (va_A [(h0, .inr (12, [.ref ma, .ref rn, .ref ef, .ref ck, .ref tr, .int 0, .int 0, .int 0, .int 0, .long 0])), (ma, .inr (7, [.ref fi, .ref se, .ref ce, .ref pr, .ref di, .ref dr, .ref li, .ref ru, .ref ba, .int 1000, .int 0, .int 0, .int 0, .int 0, .int 0, .int 0])), (di, .inr (2, [.ref g1, .ref g2, .ref g3, .ref g4, .ref g5, .ref g6, .ref g7, .ref g8, .ref g9, .ref g10, .int 0, .int 0, .int 0]))] sz)) 1 6 (va_A [(h0, .inr (12, [.ref ma, .ref rn, .ref ef, .ref ck, .ref tr, .int 0, .int 0, .int 0, .int 0, .long 0])), (ma, .inr (7, [.ref fi, .ref se, .ref ce, .ref pr, .ref di, .ref dr, .ref li, .ref ru, .ref ba, .int 1000, .int 0, .int 0, .int 0, .int 0, .int 0, .int 0])), (di, .inr (2, [.ref g1, .ref g2, .ref g3, .ref g4, .ref g5, .ref g6, .ref g7, .ref g8, .ref g9, .ref g10, .int 0, .int 0, .int 0]))] sz) := by
  refine vx_ofW (cc := cX11_ops) (maxL := 2) (ret := (some .int)) (by decide) rfl ?_
  intro p e s m args below meth c s₁ B hml ht9 hv
  obtain ⟨rfl, hsz, hP, hK, hD0, hE⟩ := hv
  have hx := B.exec
  have hb := B.bytes
  have hr := B.returns
  have hts0 := atoms_spec (ws := ws_ yX11_ops cX11_ops 2 (some .int)) B.pre
  have hts := fun (w : Cond) (h : w ∈ pw) => hts0 w (List.mem_cons_of_mem _ h)
  have hown : s.vm.findClass RX11 = some m.cls := findClass_of_methodNamed B.named
  have hlocks := B.notSynchronized
  subst hsz
  have hD := hD0.self (sz := s.heap.size)
  generalize hAe : va_A [(h0, .inr (12, [.ref ma, .ref rn, .ref ef, .ref ck, .ref tr, .int 0, .int 0, .int 0, .int 0, .long 0])), (ma, .inr (7, [.ref fi, .ref se, .ref ce, .ref pr, .ref di, .ref dr, .ref li, .ref ru, .ref ba, .int 1000, .int 0, .int 0, .int 0, .int 0, .int 0, .int 0])), (di, .inr (2, [.ref g1, .ref g2, .ref g3, .ref g4, .ref g5, .ref g6, .ref g7, .ref g8, .ref g9, .ref g10, .int 0, .int 0, .int 0]))] s.heap.size = A at hD hE ⊢
  have hA : ∀ q : Nat, s.heap.size ≤ q → A q := fun q h => by rw [← hAe]; exact Or.inr h
  have hS : va_S A s.heap s.heap [] := va_S.rf
  have hN := hE.1
  have hP : va_P (dC, dI) pcl [(h0, .inr (12, [.ref ma, .ref rn, .ref ef, .ref ck, .ref tr, .int 0, .int 0, .int 0, .int 0, .long 0])), (ma, .inr (7, [.ref fi, .ref se, .ref ce, .ref pr, .ref di, .ref dr, .ref li, .ref ru, .ref ba, .int 1000, .int 0, .int 0, .int 0, .int 0, .int 0, .int 0])), (di, .inr (2, [.ref g1, .ref g2, .ref g3, .ref g4, .ref g5, .ref g6, .ref g7, .ref g8, .ref g9, .ref g10, .int 0, .int 0, .int 0]))] s.heap := hP
  have hl := lv_entry ([.ref h0, .int n]) (n := 2) (Nat.le_of_ble_eq_true rfl)
  rw [lg_entry_eq]
  generalize (lg_sl ([.ref h0, .int n]) ++ List.replicate (2 - (lg_sl ([.ref h0, .int n])).length) Slot.unset).toArray = ls at hl ⊢
  have hl : lv_has ls 2 [(0, .ref h0), (1, .int n)] := hl
  obtain ⟨H, hH0⟩ : ∃ H, H = s.heap := ⟨_, rfl⟩
  rw [← hH0] at hP ⊢
  have hS : va_S A s.heap H [] := by rw [hH0]; exact hS
  refine lv_aload_n hx hb dX11_ops_0 rfl (lv_at hl 0 rfl) ?_
  refine va_get (D := (dC, dI)) (ci := 12) (v := .ref ma) (C := RX11) (T := TX11) (N := 10) hx hb hts pinX11 hown hK hP 0 rfl rfl 0 (by decide) (hts _ e120) (fun _ h9 => h9) rfl dX11_ops_1 ?_
  refine va_getN (D := (dC, dI)) (ci := 7) (v := .ref di) (C := RX6) (T := TX6) (N := 16) hx hb hts pinX6 hown hK hP 1 rfl rfl 4 (by decide) (va_Nw.use rfl (hN _ n13)) (fun _ h9 => h9) rfl dX11_ops_4 ?_
  refine lv_iload_n hx hb dX11_ops_7 rfl (lv_at hl 1 rfl) ?_
  have hPc := hP.sub (ws' := [(di, .inr (2, [.ref g1, .ref g2, .ref g3, .ref g4, .ref g5, .ref g6, .ref g7, .ref g8, .ref g9, .ref g10, .int 0, .int 0, .int 0]))]) [2] rfl
  have hDc := hD.sub (ws' := [(di, .inr (2, [.ref g1, .ref g2, .ref g3, .ref g4, .ref g5, .ref g6, .ref g7, .ref g8, .ref g9, .ref g10, .int 0, .int 0, .int 0]))]) [2] (by decide) rfl
  have hKc := hK.sub (tys' := []) [] rfl
  have hFc := va_free (wc := [(di, .inr (2, [.ref g1, .ref g2, .ref g3, .ref g4, .ref g5, .ref g6, .ref g7, .ref g8, .ref g9, .ref g10, .int 0, .int 0, .int 0]))]) hD hS hA [2] rfl
  refine va_calli (va_runVN (As := [.int n]) (rest := []) ⟨hx, hb, hml, hown, hts⟩ (c_X1_has l dC dI z di g1 g2 g3 g4 g5 g6 g7 g8 g9 g10 n H.size) ⟨va_cnB 1 hts (ws_good e21) rfl rfl rfl (hN _ n32) (hts _ e20) ⟨by decide +kernel, by decide +kernel, by decide +kernel⟩ ⟨Nat.le_of_ble_eq_true rfl, Nat.le_of_ble_eq_true rfl⟩, (hts _ e19), (hts _ e22)⟩ ⟨pPre_blind, va_recv hKc hPc (ci := 2) (q0 := 0) rfl rfl, fun U hU hW => ⟨rfl, pPre_at hPc hKc hDc hE hS hFc U hU hW⟩⟩ rfl rfl hl.1 rfl (lv_room (Nat.le_of_ble_eq_true rfl)) dX11_ops_8 ⟨Nat.le_of_ble_eq_true rfl, Nat.le_of_ble_eq_true rfl⟩) hS (fun q _ h => hFc q h) hFc (fun r1 u2 t H1 locs ht hvm hw hB hz1 hk1 hS => ?_)
  obtain ⟨hP1, hK1, hD1⟩ := hB
  rw [ht] at hP1
  have hK1 := va_K.moved hvm.symm hK1
  obtain ⟨hP, hD⟩ := va_join (wr := [(h0, .inr (12, [.ref ma, .ref rn, .ref ef, .ref ck, .ref tr, .int 0, .int 0, .int 0, .int 0, .long 0])), (ma, .inr (7, [.ref fi, .ref se, .ref ce, .ref pr, .ref di, .ref dr, .ref li, .ref ru, .ref ba, .int 1000, .int 0, .int 0, .int 0, .int 0, .int 0, .int 0]))]) (w1 := [(di, .inr (2, [.ref g1, .ref g2, .ref g3, .ref g4, .ref g5, .ref g6, .ref g7, .ref g8, .ref g9, .ref g10, .int 0, .int 0, .int 0]))]) hP hD [2] [0, 1] rfl rfl (by decide) (by decide) hk1 hFc hP1 hD1
  have hK := hK.app hK1
  generalize H1 = H at hP hS ⊢
  have hP : va_P (dC, dI) pcl [(h0, .inr (12, [.ref ma, .ref rn, .ref ef, .ref ck, .ref tr, .int 0, .int 0, .int 0, .int 0, .long 0])), (ma, .inr (7, [.ref fi, .ref se, .ref ce, .ref pr, .ref di, .ref dr, .ref li, .ref ru, .ref ba, .int 1000, .int 0, .int 0, .int 0, .int 0, .int 0, .int 0])), (di, .inr (2, [.ref g1, .ref g2, .ref g3, .ref g4, .ref g5, .ref g6, .ref g7, .ref g8, .ref g9, .ref g10, .int 0, .int 0, .int 0]))] H := hP
  have hD : va_D A [(h0, .inr (12, [.ref ma, .ref rn, .ref ef, .ref ck, .ref tr, .int 0, .int 0, .int 0, .int 0, .long 0])), (ma, .inr (7, [.ref fi, .ref se, .ref ce, .ref pr, .ref di, .ref dr, .ref li, .ref ru, .ref ba, .int 1000, .int 0, .int 0, .int 0, .int 0, .int 0, .int 0])), (di, .inr (2, [.ref g1, .ref g2, .ref g3, .ref g4, .ref g5, .ref g6, .ref g7, .ref g8, .ref g9, .ref g10, .int 0, .int 0, .int 0]))] := hD
  have hK : va_K (dC, dI) pcl [] s := hK
  subst hw
  refine lv_if_ne (tgt := 24) hx hb dX11_ops_11 (by decide) (fun h9 => absurd (by decide) h9) (fun _ => ?_)
  obtain ⟨sa, hstr⟩ := hE.2.2.2.2.2.2.2.2.1 (RX11, 200, "there is no such entry") (List.mem_of_getElem? (i := 8) rfl)
  exact vx_throwS hx hb hfl (own := RX11) (cls := "java/lang/IndexOutOfBoundsException") (text := "there is no such entry") (names := xnames) hown (by decide +kernel) (by decide +kernel) (hts _ e164) (hts _ e165) hstr (xat2 hts hN) xgood2 hE.2.1 hE.2.2.1 hS (hl.1.trans hml.symm) dX11_ops_14 dX11_ops_17 dX11_ops_18 dX11_ops_20 dX11_ops_23 (fun x9 h9 => (ht9 x9 h9).elim) (Nat.le_of_ble_eq_true rfl) (Nat.le_of_ble_eq_true rfl) (Nat.le_of_ble_eq_true rfl) (Nat.le_of_ble_eq_true rfl) hlocks (fun t _ h1 h2 => ⟨(), trivial, rfl, p_FX hS h1 h2⟩) hS.2.2 (Nat.le_of_ble_eq_true rfl) (Nat.le_of_ble_eq_true rfl)
set_option maxHeartbeats 4000000 in
set_option maxRecDepth 100000 in
theorem c_X11_effect (l : Launch) (hfl : l.stackTraces = false) (dC : Nat → ClassId) (dI : Nat → Nat → Nat) (z : pG) (h0 : Nat) (ma : Nat) (rn : Nat) (ef : Nat) (ck : Nat) (tr : Nat) (fi : Nat) (se : Nat) (ce : Nat) (pr : Nat) (di : Nat) (dr : Nat) (li : Nat) (ru : Nat) (ba : Nat) (g1 : Nat) (g2 : Nat) (g3 : Nat) (g4 : Nat) (g5 : Nat) (g6 : Nat) (g7 : Nat) (g8 : Nat) (g9 : Nat) (g10 : Nat) (n : Int32) (v1 : Nat) (v2 : Nat) (v3 : Nat) (v4 : Nat) (sz : Nat) : vx_Met l yX11_effect (ws_ yX11_effect cX11_effect 2 (some .int)) ({ frames := 6, cells := 1, slots := 6, locals := 82 }) (va_Pc [.ref h0, .int n] (pPre z dC dI [(h0, .inr (12, [.ref ma, .ref rn, .ref ef, .ref ck, .ref tr, .int 0, .int 0, .int 0, .int 0, .long 0])), (ma, .inr (7, [.ref fi, .ref se, .ref ce, .ref pr, .ref di, .ref dr, .ref li, .ref ru, .ref ba, .int 1000, .int 0, .int 0, .int 0, .int 0, .int 0, .int 0])), (di, .inr (2, [.ref g1, .ref g2, .ref g3, .ref g4, .ref g5, .ref g6, .ref g7, .ref g8, .ref g9, .ref g10, .int 0, .int 0, .int 0])), (ef, .inr (4, [.ref di, .ref v1, .ref v2, .ref v3, .ref v4, .int 0, .int 0, .int 0, .int 0]))] [] sz)) (va_Qi (fun (_ : Int32) (_ : Unit) => False) (fun _ _ => True) (va_A [(h0, .inr (12, [.ref ma, .ref rn, .ref ef, .ref ck, .ref tr, .int 0, .int 0, .int 0, .int 0, .long 0])), (ma, .inr (7, [.ref fi, .ref se, .ref ce, .ref pr, .ref di, .ref dr, .ref li, .ref ru, .ref ba, .int 1000, .int 0, .int 0, .int 0, .int 0, .int 0, .int 0])), (di, .inr (2, [.ref g1, .ref g2, .ref g3, .ref g4, .ref g5, .ref g6, .ref g7, .ref g8, .ref g9, .ref g10, .int 0, .int 0, .int 0])), (ef, .inr (4, [.ref di, .ref v1, .ref v2, .ref v3, .ref v4, .int 0, .int 0, .int 0, .int 0]))] sz)) (vx_X (fun (_ : Unit) => True) (fun E _ _ => E = "java/lang/IndexOutOfBoundsException") (va_A [(h0, .inr (12, [.ref ma, .ref rn, .ref ef, .ref ck, .ref tr, .int 0, .int 0, .int 0, .int 0, .long 0])), (ma, .inr (7, [.ref fi, .ref se, .ref ce, .ref pr, .ref di, .ref dr, .ref li, .ref ru, .ref ba, .int 1000, .int 0, .int 0, .int 0, .int 0, .int 0, .int 0])), (di, .inr (2, [.ref g1, .ref g2, .ref g3, .ref g4, .ref g5, .ref g6, .ref g7, .ref g8, .ref g9, .ref g10, .int 0, .int 0, .int 0])), (ef, .inr (4, [.ref di, .ref v1, .ref v2, .ref v3, .ref v4, .int 0, .int 0, .int 0, .int 0]))] sz)) 1 6 (va_A [(h0, .inr (12, [.ref ma, .ref rn, .ref ef, .ref ck, .ref tr, .int 0, .int 0, .int 0, .int 0, .long 0])), (ma, .inr (7, [.ref fi, .ref se, .ref ce, .ref pr, .ref di, .ref dr, .ref li, .ref ru, .ref ba, .int 1000, .int 0, .int 0, .int 0, .int 0, .int 0, .int 0])), (di, .inr (2, [.ref g1, .ref g2, .ref g3, .ref g4, .ref g5, .ref g6, .ref g7, .ref g8, .ref g9, .ref g10, .int 0, .int 0, .int 0])), (ef, .inr (4, [.ref di, .ref v1, .ref v2, .ref v3, .ref v4, .int 0, .int 0, .int 0, .int 0]))] sz) := by
  refine vx_ofW (cc := cX11_effect) (maxL := 2) (ret := (some .int)) (by decide) rfl ?_
  intro p e s m args below meth c s₁ B hml ht9 hv
  obtain ⟨rfl, hsz, hP, hK, hD0, hE⟩ := hv
  have hx := B.exec
  have hb := B.bytes
  have hr := B.returns
  have hts0 := atoms_spec (ws := ws_ yX11_effect cX11_effect 2 (some .int)) B.pre
  have hts := fun (w : Cond) (h : w ∈ pw) => hts0 w (List.mem_cons_of_mem _ h)
  have hown : s.vm.findClass RX11 = some m.cls := findClass_of_methodNamed B.named
  have hlocks := B.notSynchronized
  subst hsz
  have hD := hD0.self (sz := s.heap.size)
  generalize hAe : va_A [(h0, .inr (12, [.ref ma, .ref rn, .ref ef, .ref ck, .ref tr, .int 0, .int 0, .int 0, .int 0, .long 0])), (ma, .inr (7, [.ref fi, .ref se, .ref ce, .ref pr, .ref di, .ref dr, .ref li, .ref ru, .ref ba, .int 1000, .int 0, .int 0, .int 0, .int 0, .int 0, .int 0])), (di, .inr (2, [.ref g1, .ref g2, .ref g3, .ref g4, .ref g5, .ref g6, .ref g7, .ref g8, .ref g9, .ref g10, .int 0, .int 0, .int 0])), (ef, .inr (4, [.ref di, .ref v1, .ref v2, .ref v3, .ref v4, .int 0, .int 0, .int 0, .int 0]))] s.heap.size = A at hD hE ⊢
  have hA : ∀ q : Nat, s.heap.size ≤ q → A q := fun q h => by rw [← hAe]; exact Or.inr h
  have hS : va_S A s.heap s.heap [] := va_S.rf
  have hN := hE.1
  have hP : va_P (dC, dI) pcl [(h0, .inr (12, [.ref ma, .ref rn, .ref ef, .ref ck, .ref tr, .int 0, .int 0, .int 0, .int 0, .long 0])), (ma, .inr (7, [.ref fi, .ref se, .ref ce, .ref pr, .ref di, .ref dr, .ref li, .ref ru, .ref ba, .int 1000, .int 0, .int 0, .int 0, .int 0, .int 0, .int 0])), (di, .inr (2, [.ref g1, .ref g2, .ref g3, .ref g4, .ref g5, .ref g6, .ref g7, .ref g8, .ref g9, .ref g10, .int 0, .int 0, .int 0])), (ef, .inr (4, [.ref di, .ref v1, .ref v2, .ref v3, .ref v4, .int 0, .int 0, .int 0, .int 0]))] s.heap := hP
  have hl := lv_entry ([.ref h0, .int n]) (n := 2) (Nat.le_of_ble_eq_true rfl)
  rw [lg_entry_eq]
  generalize (lg_sl ([.ref h0, .int n]) ++ List.replicate (2 - (lg_sl ([.ref h0, .int n])).length) Slot.unset).toArray = ls at hl ⊢
  have hl : lv_has ls 2 [(0, .ref h0), (1, .int n)] := hl
  obtain ⟨H, hH0⟩ : ∃ H, H = s.heap := ⟨_, rfl⟩
  rw [← hH0] at hP ⊢
  have hS : va_S A s.heap H [] := by rw [hH0]; exact hS
  refine lv_aload_n hx hb dX11_effect_0 rfl (lv_at hl 0 rfl) ?_
  refine va_get (D := (dC, dI)) (ci := 12) (v := .ref ma) (C := RX11) (T := TX11) (N := 10) hx hb hts pinX11 hown hK hP 0 rfl rfl 0 (by decide) (hts _ e120) (fun _ h9 => h9) rfl dX11_effect_1 ?_
  refine va_getN (D := (dC, dI)) (ci := 7) (v := .ref di) (C := RX6) (T := TX6) (N := 16) hx hb hts pinX6 hown hK hP 1 rfl rfl 4 (by decide) (va_Nw.use rfl (hN _ n13)) (fun _ h9 => h9) rfl dX11_effect_4 ?_
  refine lv_iload_n hx hb dX11_effect_7 rfl (lv_at hl 1 rfl) ?_
  have hPc := hP.sub (ws' := [(di, .inr (2, [.ref g1, .ref g2, .ref g3, .ref g4, .ref g5, .ref g6, .ref g7, .ref g8, .ref g9, .ref g10, .int 0, .int 0, .int 0]))]) [2] rfl
  have hDc := hD.sub (ws' := [(di, .inr (2, [.ref g1, .ref g2, .ref g3, .ref g4, .ref g5, .ref g6, .ref g7, .ref g8, .ref g9, .ref g10, .int 0, .int 0, .int 0]))]) [2] (by decide) rfl
  have hKc := hK.sub (tys' := []) [] rfl
  have hFc := va_free (wc := [(di, .inr (2, [.ref g1, .ref g2, .ref g3, .ref g4, .ref g5, .ref g6, .ref g7, .ref g8, .ref g9, .ref g10, .int 0, .int 0, .int 0]))]) hD hS hA [2] rfl
  refine va_calli (va_runVN (As := [.int n]) (rest := []) ⟨hx, hb, hml, hown, hts⟩ (c_X1_has l dC dI z di g1 g2 g3 g4 g5 g6 g7 g8 g9 g10 n H.size) ⟨va_cnB 1 hts (ws_good e21) rfl rfl rfl (hN _ n32) (hts _ e20) ⟨by decide +kernel, by decide +kernel, by decide +kernel⟩ ⟨Nat.le_of_ble_eq_true rfl, Nat.le_of_ble_eq_true rfl⟩, (hts _ e19), (hts _ e22)⟩ ⟨pPre_blind, va_recv hKc hPc (ci := 2) (q0 := 0) rfl rfl, fun U hU hW => ⟨rfl, pPre_at hPc hKc hDc hE hS hFc U hU hW⟩⟩ rfl rfl hl.1 rfl (lv_room (Nat.le_of_ble_eq_true rfl)) dX11_effect_8 ⟨Nat.le_of_ble_eq_true rfl, Nat.le_of_ble_eq_true rfl⟩) hS (fun q _ h => hFc q h) hFc (fun r1 u2 t H1 locs ht hvm hw hB hz1 hk1 hS => ?_)
  obtain ⟨hP1, hK1, hD1⟩ := hB
  rw [ht] at hP1
  have hK1 := va_K.moved hvm.symm hK1
  obtain ⟨hP, hD⟩ := va_join (wr := [(h0, .inr (12, [.ref ma, .ref rn, .ref ef, .ref ck, .ref tr, .int 0, .int 0, .int 0, .int 0, .long 0])), (ma, .inr (7, [.ref fi, .ref se, .ref ce, .ref pr, .ref di, .ref dr, .ref li, .ref ru, .ref ba, .int 1000, .int 0, .int 0, .int 0, .int 0, .int 0, .int 0])), (ef, .inr (4, [.ref di, .ref v1, .ref v2, .ref v3, .ref v4, .int 0, .int 0, .int 0, .int 0]))]) (w1 := [(di, .inr (2, [.ref g1, .ref g2, .ref g3, .ref g4, .ref g5, .ref g6, .ref g7, .ref g8, .ref g9, .ref g10, .int 0, .int 0, .int 0]))]) hP hD [2] [0, 1, 3] rfl rfl (by decide) (by decide) hk1 hFc hP1 hD1
  have hK := hK.app hK1
  generalize H1 = H at hP hS ⊢
  have hP : va_P (dC, dI) pcl [(h0, .inr (12, [.ref ma, .ref rn, .ref ef, .ref ck, .ref tr, .int 0, .int 0, .int 0, .int 0, .long 0])), (ma, .inr (7, [.ref fi, .ref se, .ref ce, .ref pr, .ref di, .ref dr, .ref li, .ref ru, .ref ba, .int 1000, .int 0, .int 0, .int 0, .int 0, .int 0, .int 0])), (ef, .inr (4, [.ref di, .ref v1, .ref v2, .ref v3, .ref v4, .int 0, .int 0, .int 0, .int 0])), (di, .inr (2, [.ref g1, .ref g2, .ref g3, .ref g4, .ref g5, .ref g6, .ref g7, .ref g8, .ref g9, .ref g10, .int 0, .int 0, .int 0]))] H := hP
  have hD : va_D A [(h0, .inr (12, [.ref ma, .ref rn, .ref ef, .ref ck, .ref tr, .int 0, .int 0, .int 0, .int 0, .long 0])), (ma, .inr (7, [.ref fi, .ref se, .ref ce, .ref pr, .ref di, .ref dr, .ref li, .ref ru, .ref ba, .int 1000, .int 0, .int 0, .int 0, .int 0, .int 0, .int 0])), (ef, .inr (4, [.ref di, .ref v1, .ref v2, .ref v3, .ref v4, .int 0, .int 0, .int 0, .int 0])), (di, .inr (2, [.ref g1, .ref g2, .ref g3, .ref g4, .ref g5, .ref g6, .ref g7, .ref g8, .ref g9, .ref g10, .int 0, .int 0, .int 0]))] := hD
  have hK : va_K (dC, dI) pcl [] s := hK
  subst hw
  refine lv_if_ne (tgt := 24) hx hb dX11_effect_11 (by decide) (fun h9 => absurd (by decide) h9) (fun _ => ?_)
  obtain ⟨sa, hstr⟩ := hE.2.2.2.2.2.2.2.2.1 (RX11, 200, "there is no such entry") (List.mem_of_getElem? (i := 8) rfl)
  exact vx_throwS hx hb hfl (own := RX11) (cls := "java/lang/IndexOutOfBoundsException") (text := "there is no such entry") (names := xnames) hown (by decide +kernel) (by decide +kernel) (hts _ e164) (hts _ e165) hstr (xat2 hts hN) xgood2 hE.2.1 hE.2.2.1 hS (hl.1.trans hml.symm) dX11_effect_14 dX11_effect_17 dX11_effect_18 dX11_effect_20 dX11_effect_23 (fun x9 h9 => (ht9 x9 h9).elim) (Nat.le_of_ble_eq_true rfl) (Nat.le_of_ble_eq_true rfl) (Nat.le_of_ble_eq_true rfl) (Nat.le_of_ble_eq_true rfl) hlocks (fun t _ h1 h2 => ⟨(), trivial, rfl, p_FX hS h1 h2⟩) hS.2.2 (Nat.le_of_ble_eq_true rfl) (Nat.le_of_ble_eq_true rfl)
set_option maxHeartbeats 4000000 in
set_option maxRecDepth 100000 in
theorem c_X11_opAt (l : Launch) (hfl : l.stackTraces = false) (dC : Nat → ClassId) (dI : Nat → Nat → Nat) (z : pG) (h0 : Nat) (ma : Nat) (rn : Nat) (ef : Nat) (ck : Nat) (tr : Nat) (fi : Nat) (se : Nat) (ce : Nat) (pr : Nat) (di : Nat) (dr : Nat) (li : Nat) (ru : Nat) (ba : Nat) (g1 : Nat) (g2 : Nat) (g3 : Nat) (g4 : Nat) (g5 : Nat) (g6 : Nat) (g7 : Nat) (g8 : Nat) (g9 : Nat) (g10 : Nat) (n : Int32) (k : Int32) (sz : Nat) : vx_Met l yX11_opAt (ws_ yX11_opAt cX11_opAt 3 (some .char)) ({ frames := 6, cells := 1, slots := 6, locals := 82 }) (va_Pc [.ref h0, .int n, .int k] (pPre z dC dI [(h0, .inr (12, [.ref ma, .ref rn, .ref ef, .ref ck, .ref tr, .int 0, .int 0, .int 0, .int 0, .long 0])), (ma, .inr (7, [.ref fi, .ref se, .ref ce, .ref pr, .ref di, .ref dr, .ref li, .ref ru, .ref ba, .int 1000, .int 0, .int 0, .int 0, .int 0, .int 0, .int 0])), (di, .inr (2, [.ref g1, .ref g2, .ref g3, .ref g4, .ref g5, .ref g6, .ref g7, .ref g8, .ref g9, .ref g10, .int 0, .int 0, .int 0]))] [] sz)) (va_Qi (fun (_ : Int32) (_ : Unit) => False) (fun _ _ => True) (va_A [(h0, .inr (12, [.ref ma, .ref rn, .ref ef, .ref ck, .ref tr, .int 0, .int 0, .int 0, .int 0, .long 0])), (ma, .inr (7, [.ref fi, .ref se, .ref ce, .ref pr, .ref di, .ref dr, .ref li, .ref ru, .ref ba, .int 1000, .int 0, .int 0, .int 0, .int 0, .int 0, .int 0])), (di, .inr (2, [.ref g1, .ref g2, .ref g3, .ref g4, .ref g5, .ref g6, .ref g7, .ref g8, .ref g9, .ref g10, .int 0, .int 0, .int 0]))] sz)) (vx_X (fun (_ : Unit) => True) (fun E _ _ => E = "java/lang/IndexOutOfBoundsException") (va_A [(h0, .inr (12, [.ref ma, .ref rn, .ref ef, .ref ck, .ref tr, .int 0, .int 0, .int 0, .int 0, .long 0])), (ma, .inr (7, [.ref fi, .ref se, .ref ce, .ref pr, .ref di, .ref dr, .ref li, .ref ru, .ref ba, .int 1000, .int 0, .int 0, .int 0, .int 0, .int 0, .int 0])), (di, .inr (2, [.ref g1, .ref g2, .ref g3, .ref g4, .ref g5, .ref g6, .ref g7, .ref g8, .ref g9, .ref g10, .int 0, .int 0, .int 0]))] sz)) 1 6 (va_A [(h0, .inr (12, [.ref ma, .ref rn, .ref ef, .ref ck, .ref tr, .int 0, .int 0, .int 0, .int 0, .long 0])), (ma, .inr (7, [.ref fi, .ref se, .ref ce, .ref pr, .ref di, .ref dr, .ref li, .ref ru, .ref ba, .int 1000, .int 0, .int 0, .int 0, .int 0, .int 0, .int 0])), (di, .inr (2, [.ref g1, .ref g2, .ref g3, .ref g4, .ref g5, .ref g6, .ref g7, .ref g8, .ref g9, .ref g10, .int 0, .int 0, .int 0]))] sz) := by
  refine vx_ofW (cc := cX11_opAt) (maxL := 3) (ret := (some .char)) (by decide) rfl ?_
  intro p e s m args below meth c s₁ B hml ht9 hv
  obtain ⟨rfl, hsz, hP, hK, hD0, hE⟩ := hv
  have hx := B.exec
  have hb := B.bytes
  have hr := B.returns
  have hts0 := atoms_spec (ws := ws_ yX11_opAt cX11_opAt 3 (some .char)) B.pre
  have hts := fun (w : Cond) (h : w ∈ pw) => hts0 w (List.mem_cons_of_mem _ h)
  have hown : s.vm.findClass RX11 = some m.cls := findClass_of_methodNamed B.named
  have hlocks := B.notSynchronized
  subst hsz
  have hD := hD0.self (sz := s.heap.size)
  generalize hAe : va_A [(h0, .inr (12, [.ref ma, .ref rn, .ref ef, .ref ck, .ref tr, .int 0, .int 0, .int 0, .int 0, .long 0])), (ma, .inr (7, [.ref fi, .ref se, .ref ce, .ref pr, .ref di, .ref dr, .ref li, .ref ru, .ref ba, .int 1000, .int 0, .int 0, .int 0, .int 0, .int 0, .int 0])), (di, .inr (2, [.ref g1, .ref g2, .ref g3, .ref g4, .ref g5, .ref g6, .ref g7, .ref g8, .ref g9, .ref g10, .int 0, .int 0, .int 0]))] s.heap.size = A at hD hE ⊢
  have hA : ∀ q : Nat, s.heap.size ≤ q → A q := fun q h => by rw [← hAe]; exact Or.inr h
  have hS : va_S A s.heap s.heap [] := va_S.rf
  have hN := hE.1
  have hP : va_P (dC, dI) pcl [(h0, .inr (12, [.ref ma, .ref rn, .ref ef, .ref ck, .ref tr, .int 0, .int 0, .int 0, .int 0, .long 0])), (ma, .inr (7, [.ref fi, .ref se, .ref ce, .ref pr, .ref di, .ref dr, .ref li, .ref ru, .ref ba, .int 1000, .int 0, .int 0, .int 0, .int 0, .int 0, .int 0])), (di, .inr (2, [.ref g1, .ref g2, .ref g3, .ref g4, .ref g5, .ref g6, .ref g7, .ref g8, .ref g9, .ref g10, .int 0, .int 0, .int 0]))] s.heap := hP
  have hl := lv_entry ([.ref h0, .int n, .int k]) (n := 3) (Nat.le_of_ble_eq_true rfl)
  rw [lg_entry_eq]
  generalize (lg_sl ([.ref h0, .int n, .int k]) ++ List.replicate (3 - (lg_sl ([.ref h0, .int n, .int k])).length) Slot.unset).toArray = ls at hl ⊢
  have hl : lv_has ls 3 [(0, .ref h0), (1, .int n), (2, .int k)] := hl
  obtain ⟨H, hH0⟩ : ∃ H, H = s.heap := ⟨_, rfl⟩
  rw [← hH0] at hP ⊢
  have hS : va_S A s.heap H [] := by rw [hH0]; exact hS
  refine lv_aload_n hx hb dX11_opAt_0 rfl (lv_at hl 0 rfl) ?_
  refine va_get (D := (dC, dI)) (ci := 12) (v := .ref ma) (C := RX11) (T := TX11) (N := 10) hx hb hts pinX11 hown hK hP 0 rfl rfl 0 (by decide) (hts _ e120) (fun _ h9 => h9) rfl dX11_opAt_1 ?_
  refine va_getN (D := (dC, dI)) (ci := 7) (v := .ref di) (C := RX6) (T := TX6) (N := 16) hx hb hts pinX6 hown hK hP 1 rfl rfl 4 (by decide) (va_Nw.use rfl (hN _ n13)) (fun _ h9 => h9) rfl dX11_opAt_4 ?_
  refine lv_iload_n hx hb dX11_opAt_7 rfl (lv_at hl 1 rfl) ?_
  refine lv_iload_n hx hb dX11_opAt_8 rfl (lv_at hl 2 rfl) ?_
  have hPc := hP.sub (ws' := [(di, .inr (2, [.ref g1, .ref g2, .ref g3, .ref g4, .ref g5, .ref g6, .ref g7, .ref g8, .ref g9, .ref g10, .int 0, .int 0, .int 0]))]) [2] rfl
  have hDc := hD.sub (ws' := [(di, .inr (2, [.ref g1, .ref g2, .ref g3, .ref g4, .ref g5, .ref g6, .ref g7, .ref g8, .ref g9, .ref g10, .int 0, .int 0, .int 0]))]) [2] (by decide) rfl
  have hKc := hK.sub (tys' := []) [] rfl
  have hFc := va_free (wc := [(di, .inr (2, [.ref g1, .ref g2, .ref g3, .ref g4, .ref g5, .ref g6, .ref g7, .ref g8, .ref g9, .ref g10, .int 0, .int 0, .int 0]))]) hD hS hA [2] rfl
  refine va_calli (va_runVN (As := [.int n, .int k]) (rest := []) ⟨hx, hb, hml, hown, hts⟩ (c_X1_hasOp l dC dI z di g1 g2 g3 g4 g5 g6 g7 g8 g9 g10 n k H.size) ⟨va_cnB 2 hts (ws_good e170) rfl rfl rfl (hN _ n39) (hts _ e20) ⟨by decide +kernel, by decide +kernel, by decide +kernel⟩ ⟨Nat.le_of_ble_eq_true rfl, Nat.le_of_ble_eq_true rfl⟩, (hts _ e169), (hts _ e171)⟩ ⟨pPre_blind, va_recv hKc hPc (ci := 2) (q0 := 0) rfl rfl, fun U hU hW => ⟨rfl, pPre_at hPc hKc hDc hE hS hFc U hU hW⟩⟩ rfl rfl hl.1 rfl (lv_room (Nat.le_of_ble_eq_true rfl)) dX11_opAt_9 ⟨Nat.le_of_ble_eq_true rfl, Nat.le_of_ble_eq_true rfl⟩) hS (fun q _ h => hFc q h) hFc (fun r1 u2 t H1 locs ht hvm hw hB hz1 hk1 hS => ?_)
  obtain ⟨hP1, hK1, hD1⟩ := hB
  rw [ht] at hP1
  have hK1 := va_K.moved hvm.symm hK1
  obtain ⟨hP, hD⟩ := va_join (wr := [(h0, .inr (12, [.ref ma, .ref rn, .ref ef, .ref ck, .ref tr, .int 0, .int 0, .int 0, .int 0, .long 0])), (ma, .inr (7, [.ref fi, .ref se, .ref ce, .ref pr, .ref di, .ref dr, .ref li, .ref ru, .ref ba, .int 1000, .int 0, .int 0, .int 0, .int 0, .int 0, .int 0]))]) (w1 := [(di, .inr (2, [.ref g1, .ref g2, .ref g3, .ref g4, .ref g5, .ref g6, .ref g7, .ref g8, .ref g9, .ref g10, .int 0, .int 0, .int 0]))]) hP hD [2] [0, 1] rfl rfl (by decide) (by decide) hk1 hFc hP1 hD1
  have hK := hK.app hK1
  generalize H1 = H at hP hS ⊢
  have hP : va_P (dC, dI) pcl [(h0, .inr (12, [.ref ma, .ref rn, .ref ef, .ref ck, .ref tr, .int 0, .int 0, .int 0, .int 0, .long 0])), (ma, .inr (7, [.ref fi, .ref se, .ref ce, .ref pr, .ref di, .ref dr, .ref li, .ref ru, .ref ba, .int 1000, .int 0, .int 0, .int 0, .int 0, .int 0, .int 0])), (di, .inr (2, [.ref g1, .ref g2, .ref g3, .ref g4, .ref g5, .ref g6, .ref g7, .ref g8, .ref g9, .ref g10, .int 0, .int 0, .int 0]))] H := hP
  have hD : va_D A [(h0, .inr (12, [.ref ma, .ref rn, .ref ef, .ref ck, .ref tr, .int 0, .int 0, .int 0, .int 0, .long 0])), (ma, .inr (7, [.ref fi, .ref se, .ref ce, .ref pr, .ref di, .ref dr, .ref li, .ref ru, .ref ba, .int 1000, .int 0, .int 0, .int 0, .int 0, .int 0, .int 0])), (di, .inr (2, [.ref g1, .ref g2, .ref g3, .ref g4, .ref g5, .ref g6, .ref g7, .ref g8, .ref g9, .ref g10, .int 0, .int 0, .int 0]))] := hD
  have hK : va_K (dC, dI) pcl [] s := hK
  subst hw
  refine lv_if_ne (tgt := 25) hx hb dX11_opAt_12 (by decide) (fun h9 => absurd (by decide) h9) (fun _ => ?_)
  obtain ⟨sa, hstr⟩ := hE.2.2.2.2.2.2.2.2.1 (RX11, 227, "there is no such entry or op") (List.mem_of_getElem? (i := 10) rfl)
  exact vx_throwS hx hb hfl (own := RX11) (cls := "java/lang/IndexOutOfBoundsException") (text := "there is no such entry or op") (names := xnames) hown (by decide +kernel) (by decide +kernel) (hts _ e164) (hts _ e165) hstr (xat2 hts hN) xgood2 hE.2.1 hE.2.2.1 hS (hl.1.trans hml.symm) dX11_opAt_15 dX11_opAt_18 dX11_opAt_19 dX11_opAt_21 dX11_opAt_24 (fun x9 h9 => (ht9 x9 h9).elim) (Nat.le_of_ble_eq_true rfl) (Nat.le_of_ble_eq_true rfl) (Nat.le_of_ble_eq_true rfl) (Nat.le_of_ble_eq_true rfl) hlocks (fun t _ h1 h2 => ⟨(), trivial, rfl, p_FX hS h1 h2⟩) hS.2.2 (Nat.le_of_ble_eq_true rfl) (Nat.le_of_ble_eq_true rfl)
set_option maxHeartbeats 4000000 in
set_option maxRecDepth 100000 in
theorem c_X11_opNumber (l : Launch) (hfl : l.stackTraces = false) (dC : Nat → ClassId) (dI : Nat → Nat → Nat) (z : pG) (h0 : Nat) (ma : Nat) (rn : Nat) (ef : Nat) (ck : Nat) (tr : Nat) (fi : Nat) (se : Nat) (ce : Nat) (pr : Nat) (di : Nat) (dr : Nat) (li : Nat) (ru : Nat) (ba : Nat) (g1 : Nat) (g2 : Nat) (g3 : Nat) (g4 : Nat) (g5 : Nat) (g6 : Nat) (g7 : Nat) (g8 : Nat) (g9 : Nat) (g10 : Nat) (n : Int32) (k : Int32) (sz : Nat) : vx_Met l yX11_opNumber (ws_ yX11_opNumber cX11_opNumber 3 (some .int)) ({ frames := 6, cells := 1, slots := 6, locals := 82 }) (va_Pc [.ref h0, .int n, .int k] (pPre z dC dI [(h0, .inr (12, [.ref ma, .ref rn, .ref ef, .ref ck, .ref tr, .int 0, .int 0, .int 0, .int 0, .long 0])), (ma, .inr (7, [.ref fi, .ref se, .ref ce, .ref pr, .ref di, .ref dr, .ref li, .ref ru, .ref ba, .int 1000, .int 0, .int 0, .int 0, .int 0, .int 0, .int 0])), (di, .inr (2, [.ref g1, .ref g2, .ref g3, .ref g4, .ref g5, .ref g6, .ref g7, .ref g8, .ref g9, .ref g10, .int 0, .int 0, .int 0]))] [] sz)) (va_Qi (fun (_ : Int32) (_ : Unit) => False) (fun _ _ => True) (va_A [(h0, .inr (12, [.ref ma, .ref rn, .ref ef, .ref ck, .ref tr, .int 0, .int 0, .int 0, .int 0, .long 0])), (ma, .inr (7, [.ref fi, .ref se, .ref ce, .ref pr, .ref di, .ref dr, .ref li, .ref ru, .ref ba, .int 1000, .int 0, .int 0, .int 0, .int 0, .int 0, .int 0])), (di, .inr (2, [.ref g1, .ref g2, .ref g3, .ref g4, .ref g5, .ref g6, .ref g7, .ref g8, .ref g9, .ref g10, .int 0, .int 0, .int 0]))] sz)) (vx_X (fun (_ : Unit) => True) (fun E _ _ => E = "java/lang/IndexOutOfBoundsException") (va_A [(h0, .inr (12, [.ref ma, .ref rn, .ref ef, .ref ck, .ref tr, .int 0, .int 0, .int 0, .int 0, .long 0])), (ma, .inr (7, [.ref fi, .ref se, .ref ce, .ref pr, .ref di, .ref dr, .ref li, .ref ru, .ref ba, .int 1000, .int 0, .int 0, .int 0, .int 0, .int 0, .int 0])), (di, .inr (2, [.ref g1, .ref g2, .ref g3, .ref g4, .ref g5, .ref g6, .ref g7, .ref g8, .ref g9, .ref g10, .int 0, .int 0, .int 0]))] sz)) 1 6 (va_A [(h0, .inr (12, [.ref ma, .ref rn, .ref ef, .ref ck, .ref tr, .int 0, .int 0, .int 0, .int 0, .long 0])), (ma, .inr (7, [.ref fi, .ref se, .ref ce, .ref pr, .ref di, .ref dr, .ref li, .ref ru, .ref ba, .int 1000, .int 0, .int 0, .int 0, .int 0, .int 0, .int 0])), (di, .inr (2, [.ref g1, .ref g2, .ref g3, .ref g4, .ref g5, .ref g6, .ref g7, .ref g8, .ref g9, .ref g10, .int 0, .int 0, .int 0]))] sz) := by
  refine vx_ofW (cc := cX11_opNumber) (maxL := 3) (ret := (some .int)) (by decide) rfl ?_
  intro p e s m args below meth c s₁ B hml ht9 hv
  obtain ⟨rfl, hsz, hP, hK, hD0, hE⟩ := hv
  have hx := B.exec
  have hb := B.bytes
  have hr := B.returns
  have hts0 := atoms_spec (ws := ws_ yX11_opNumber cX11_opNumber 3 (some .int)) B.pre
  have hts := fun (w : Cond) (h : w ∈ pw) => hts0 w (List.mem_cons_of_mem _ h)
  have hown : s.vm.findClass RX11 = some m.cls := findClass_of_methodNamed B.named
  have hlocks := B.notSynchronized
  subst hsz
  have hD := hD0.self (sz := s.heap.size)
  generalize hAe : va_A [(h0, .inr (12, [.ref ma, .ref rn, .ref ef, .ref ck, .ref tr, .int 0, .int 0, .int 0, .int 0, .long 0])), (ma, .inr (7, [.ref fi, .ref se, .ref ce, .ref pr, .ref di, .ref dr, .ref li, .ref ru, .ref ba, .int 1000, .int 0, .int 0, .int 0, .int 0, .int 0, .int 0])), (di, .inr (2, [.ref g1, .ref g2, .ref g3, .ref g4, .ref g5, .ref g6, .ref g7, .ref g8, .ref g9, .ref g10, .int 0, .int 0, .int 0]))] s.heap.size = A at hD hE ⊢
  have hA : ∀ q : Nat, s.heap.size ≤ q → A q := fun q h => by rw [← hAe]; exact Or.inr h
  have hS : va_S A s.heap s.heap [] := va_S.rf
  have hN := hE.1
  have hP : va_P (dC, dI) pcl [(h0, .inr (12, [.ref ma, .ref rn, .ref ef, .ref ck, .ref tr, .int 0, .int 0, .int 0, .int 0, .long 0])), (ma, .inr (7, [.ref fi, .ref se, .ref ce, .ref pr, .ref di, .ref dr, .ref li, .ref ru, .ref ba, .int 1000, .int 0, .int 0, .int 0, .int 0, .int 0, .int 0])), (di, .inr (2, [.ref g1, .ref g2, .ref g3, .ref g4, .ref g5, .ref g6, .ref g7, .ref g8, .ref g9, .ref g10, .int 0, .int 0, .int 0]))] s.heap := hP
  have hl := lv_entry ([.ref h0, .int n, .int k]) (n := 3) (Nat.le_of_ble_eq_true rfl)
  rw [lg_entry_eq]
  generalize (lg_sl ([.ref h0, .int n, .int k]) ++ List.replicate (3 - (lg_sl ([.ref h0, .int n, .int k])).length) Slot.unset).toArray = ls at hl ⊢
  have hl : lv_has ls 3 [(0, .ref h0), (1, .int n), (2, .int k)] := hl
  obtain ⟨H, hH0⟩ : ∃ H, H = s.heap := ⟨_, rfl⟩
  rw [← hH0] at hP ⊢
  have hS : va_S A s.heap H [] := by rw [hH0]; exact hS
  refine lv_aload_n hx hb dX11_opNumber_0 rfl (lv_at hl 0 rfl) ?_
  refine va_get (D := (dC, dI)) (ci := 12) (v := .ref ma) (C := RX11) (T := TX11) (N := 10) hx hb hts pinX11 hown hK hP 0 rfl rfl 0 (by decide) (hts _ e120) (fun _ h9 => h9) rfl dX11_opNumber_1 ?_
  refine va_getN (D := (dC, dI)) (ci := 7) (v := .ref di) (C := RX6) (T := TX6) (N := 16) hx hb hts pinX6 hown hK hP 1 rfl rfl 4 (by decide) (va_Nw.use rfl (hN _ n13)) (fun _ h9 => h9) rfl dX11_opNumber_4 ?_
  refine lv_iload_n hx hb dX11_opNumber_7 rfl (lv_at hl 1 rfl) ?_
  refine lv_iload_n hx hb dX11_opNumber_8 rfl (lv_at hl 2 rfl) ?_
  have hPc := hP.sub (ws' := [(di, .inr (2, [.ref g1, .ref g2, .ref g3, .ref g4, .ref g5, .ref g6, .ref g7, .ref g8, .ref g9, .ref g10, .int 0, .int 0, .int 0]))]) [2] rfl
  have hDc := hD.sub (ws' := [(di, .inr (2, [.ref g1, .ref g2, .ref g3, .ref g4, .ref g5, .ref g6, .ref g7, .ref g8, .ref g9, .ref g10, .int 0, .int 0, .int 0]))]) [2] (by decide) rfl
  have hKc := hK.sub (tys' := []) [] rfl
  have hFc := va_free (wc := [(di, .inr (2, [.ref g1, .ref g2, .ref g3, .ref g4, .ref g5, .ref g6, .ref g7, .ref g8, .ref g9, .ref g10, .int 0, .int 0, .int 0]))]) hD hS hA [2] rfl
  refine va_calli (va_runVN (As := [.int n, .int k]) (rest := []) ⟨hx, hb, hml, hown, hts⟩ (c_X1_hasOp l dC dI z di g1 g2 g3 g4 g5 g6 g7 g8 g9 g10 n k H.size) ⟨va_cnB 2 hts (ws_good e170) rfl rfl rfl (hN _ n39) (hts _ e20) ⟨by decide +kernel, by decide +kernel, by decide +kernel⟩ ⟨Nat.le_of_ble_eq_true rfl, Nat.le_of_ble_eq_true rfl⟩, (hts _ e169), (hts _ e171)⟩ ⟨pPre_blind, va_recv hKc hPc (ci := 2) (q0 := 0) rfl rfl, fun U hU hW => ⟨rfl, pPre_at hPc hKc hDc hE hS hFc U hU hW⟩⟩ rfl rfl hl.1 rfl (lv_room (Nat.le_of_ble_eq_true rfl)) dX11_opNumber_9 ⟨Nat.le_of_ble_eq_true rfl, Nat.le_of_ble_eq_true rfl⟩) hS (fun q _ h => hFc q h) hFc (fun r1 u2 t H1 locs ht hvm hw hB hz1 hk1 hS => ?_)
  obtain ⟨hP1, hK1, hD1⟩ := hB
  rw [ht] at hP1
  have hK1 := va_K.moved hvm.symm hK1
  obtain ⟨hP, hD⟩ := va_join (wr := [(h0, .inr (12, [.ref ma, .ref rn, .ref ef, .ref ck, .ref tr, .int 0, .int 0, .int 0, .int 0, .long 0])), (ma, .inr (7, [.ref fi, .ref se, .ref ce, .ref pr, .ref di, .ref dr, .ref li, .ref ru, .ref ba, .int 1000, .int 0, .int 0, .int 0, .int 0, .int 0, .int 0]))]) (w1 := [(di, .inr (2, [.ref g1, .ref g2, .ref g3, .ref g4, .ref g5, .ref g6, .ref g7, .ref g8, .ref g9, .ref g10, .int 0, .int 0, .int 0]))]) hP hD [2] [0, 1] rfl rfl (by decide) (by decide) hk1 hFc hP1 hD1
  have hK := hK.app hK1
  generalize H1 = H at hP hS ⊢
  have hP : va_P (dC, dI) pcl [(h0, .inr (12, [.ref ma, .ref rn, .ref ef, .ref ck, .ref tr, .int 0, .int 0, .int 0, .int 0, .long 0])), (ma, .inr (7, [.ref fi, .ref se, .ref ce, .ref pr, .ref di, .ref dr, .ref li, .ref ru, .ref ba, .int 1000, .int 0, .int 0, .int 0, .int 0, .int 0, .int 0])), (di, .inr (2, [.ref g1, .ref g2, .ref g3, .ref g4, .ref g5, .ref g6, .ref g7, .ref g8, .ref g9, .ref g10, .int 0, .int 0, .int 0]))] H := hP
  have hD : va_D A [(h0, .inr (12, [.ref ma, .ref rn, .ref ef, .ref ck, .ref tr, .int 0, .int 0, .int 0, .int 0, .long 0])), (ma, .inr (7, [.ref fi, .ref se, .ref ce, .ref pr, .ref di, .ref dr, .ref li, .ref ru, .ref ba, .int 1000, .int 0, .int 0, .int 0, .int 0, .int 0, .int 0])), (di, .inr (2, [.ref g1, .ref g2, .ref g3, .ref g4, .ref g5, .ref g6, .ref g7, .ref g8, .ref g9, .ref g10, .int 0, .int 0, .int 0]))] := hD
  have hK : va_K (dC, dI) pcl [] s := hK
  subst hw
  refine lv_if_ne (tgt := 25) hx hb dX11_opNumber_12 (by decide) (fun h9 => absurd (by decide) h9) (fun _ => ?_)
  obtain ⟨sa, hstr⟩ := hE.2.2.2.2.2.2.2.2.1 (RX11, 227, "there is no such entry or op") (List.mem_of_getElem? (i := 10) rfl)
  exact vx_throwS hx hb hfl (own := RX11) (cls := "java/lang/IndexOutOfBoundsException") (text := "there is no such entry or op") (names := xnames) hown (by decide +kernel) (by decide +kernel) (hts _ e164) (hts _ e165) hstr (xat2 hts hN) xgood2 hE.2.1 hE.2.2.1 hS (hl.1.trans hml.symm) dX11_opNumber_15 dX11_opNumber_18 dX11_opNumber_19 dX11_opNumber_21 dX11_opNumber_24 (fun x9 h9 => (ht9 x9 h9).elim) (Nat.le_of_ble_eq_true rfl) (Nat.le_of_ble_eq_true rfl) (Nat.le_of_ble_eq_true rfl) (Nat.le_of_ble_eq_true rfl) hlocks (fun t _ h1 h2 => ⟨(), trivial, rfl, p_FX hS h1 h2⟩) hS.2.2 (Nat.le_of_ble_eq_true rfl) (Nat.le_of_ble_eq_true rfl)
set_option maxHeartbeats 4000000 in
set_option maxRecDepth 100000 in
theorem c_X11_errorShare (l : Launch) (hfl : l.stackTraces = false) (dC : Nat → ClassId) (dI : Nat → Nat → Nat) (z : pG) (h0 : Nat) (ma : Nat) (rn : Nat) (ef : Nat) (ck : Nat) (tr : Nat) (sz : Nat) : vx_Met l yX11_errorShare (ws_ yX11_errorShare cX11_errorShare 1 (some .float)) ({ frames := 6, cells := 1, slots := 6, locals := 82 }) (va_Pc [.ref h0] (pPre z dC dI [(h0, .inr (12, [.ref ma, .ref rn, .ref ef, .ref ck, .ref tr, .int 0, .int 0, .int 0, .int 0, .long 0]))] [] sz)) (va_Qf (fun (_ : UInt32) (_ : Unit) => False) (fun _ _ => True) (va_A [(h0, .inr (12, [.ref ma, .ref rn, .ref ef, .ref ck, .ref tr, .int 0, .int 0, .int 0, .int 0, .long 0]))] sz)) (vx_X (fun (_ : Unit) => True) (fun E _ _ => E = "java/lang/ArithmeticException") (va_A [(h0, .inr (12, [.ref ma, .ref rn, .ref ef, .ref ck, .ref tr, .int 0, .int 0, .int 0, .int 0, .long 0]))] sz)) 1 6 (va_A [(h0, .inr (12, [.ref ma, .ref rn, .ref ef, .ref ck, .ref tr, .int 0, .int 0, .int 0, .int 0, .long 0]))] sz) := by
  refine vx_ofW (cc := cX11_errorShare) (maxL := 1) (ret := (some .float)) (by decide) rfl ?_
  intro p e s m args below meth c s₁ B hml ht9 hv
  obtain ⟨rfl, hsz, hP, hK, hD0, hE⟩ := hv
  have hx := B.exec
  have hb := B.bytes
  have hr := B.returns
  have hts0 := atoms_spec (ws := ws_ yX11_errorShare cX11_errorShare 1 (some .float)) B.pre
  have hts := fun (w : Cond) (h : w ∈ pw) => hts0 w (List.mem_cons_of_mem _ h)
  have hown : s.vm.findClass RX11 = some m.cls := findClass_of_methodNamed B.named
  have hlocks := B.notSynchronized
  subst hsz
  have hD := hD0.self (sz := s.heap.size)
  generalize hAe : va_A [(h0, .inr (12, [.ref ma, .ref rn, .ref ef, .ref ck, .ref tr, .int 0, .int 0, .int 0, .int 0, .long 0]))] s.heap.size = A at hD hE ⊢
  have hA : ∀ q : Nat, s.heap.size ≤ q → A q := fun q h => by rw [← hAe]; exact Or.inr h
  have hS : va_S A s.heap s.heap [] := va_S.rf
  have hN := hE.1
  have hP : va_P (dC, dI) pcl [(h0, .inr (12, [.ref ma, .ref rn, .ref ef, .ref ck, .ref tr, .int 0, .int 0, .int 0, .int 0, .long 0]))] s.heap := hP
  have hl := lv_entry ([.ref h0]) (n := 1) (Nat.le_of_ble_eq_true rfl)
  rw [lg_entry_eq]
  generalize (lg_sl ([.ref h0]) ++ List.replicate (1 - (lg_sl ([.ref h0])).length) Slot.unset).toArray = ls at hl ⊢
  have hl : lv_has ls 1 [(0, .ref h0)] := hl
  obtain ⟨H, hH0⟩ : ∃ H, H = s.heap := ⟨_, rfl⟩
  rw [← hH0] at hP ⊢
  have hS : va_S A s.heap H [] := by rw [hH0]; exact hS
  refine lv_aload_n hx hb dX11_errorShare_0 rfl (lv_at hl 0 rfl) ?_
  refine va_get (D := (dC, dI)) (ci := 12) (v := .int 0) (C := RX11) (T := TX11) (N := 10) hx hb hts pinX11 hown hK hP 0 rfl rfl 7 (by decide) (hts _ e157) (fun _ h9 => h9) rfl dX11_errorShare_1 ?_
  refine lv_if_ne (tgt := 18) hx hb dX11_errorShare_4 (by decide) (fun h9 => absurd (by decide) h9) (fun _ => ?_)
  obtain ⟨sa, hstr⟩ := hE.2.2.2.2.2.2.2.2.1 (RX11, 261, "no line was entered") (List.mem_of_getElem? (i := 12) rfl)
  exact vx_throwSW hx hb hfl (own := RX11) (cls := "java/lang/ArithmeticException") (text := "no line was entered") (names := xnames) hown (by decide +kernel) (by decide +kernel) (hts _ e177) (hts _ e178) hstr (xat4 hts hN) xgood4 hE.2.1 hE.2.2.1 hS (hl.1.trans hml.symm) dX11_errorShare_7 dX11_errorShare_10 dX11_errorShare_11 dX11_errorShare_14 dX11_errorShare_17 (fun x9 h9 => (ht9 x9 h9).elim) (Nat.le_of_ble_eq_true rfl) (Nat.le_of_ble_eq_true rfl) (Nat.le_of_ble_eq_true rfl) (Nat.le_of_ble_eq_true rfl) hlocks (fun t _ h1 h2 => ⟨(), trivial, rfl, p_FX hS h1 h2⟩) hS.2.2 (Nat.le_of_ble_eq_true rfl) (Nat.le_of_ble_eq_true rfl)
set_option maxHeartbeats 4000000 in
set_option maxRecDepth 100000 in
theorem c_X11_meanSteps (l : Launch) (hfl : l.stackTraces = false) (dC : Nat → ClassId) (dI : Nat → Nat → Nat) (z : pG) (h0 : Nat) (ma : Nat) (rn : Nat) (ef : Nat) (ck : Nat) (tr : Nat) (sz : Nat) : vx_Met l yX11_meanSteps (ws_ yX11_meanSteps cX11_meanSteps 1 (some .double)) ({ frames := 6, cells := 1, slots := 6, locals := 82 }) (va_Pc [.ref h0] (pPre z dC dI [(h0, .inr (12, [.ref ma, .ref rn, .ref ef, .ref ck, .ref tr, .int 0, .int 0, .int 0, .int 0, .long 0]))] [] sz)) (va_Qd (fun (_ : UInt64) (_ : Unit) => False) (fun _ _ => True) (va_A [(h0, .inr (12, [.ref ma, .ref rn, .ref ef, .ref ck, .ref tr, .int 0, .int 0, .int 0, .int 0, .long 0]))] sz)) (vx_X (fun (_ : Unit) => True) (fun E _ _ => E = "java/lang/ArithmeticException") (va_A [(h0, .inr (12, [.ref ma, .ref rn, .ref ef, .ref ck, .ref tr, .int 0, .int 0, .int 0, .int 0, .long 0]))] sz)) 1 6 (va_A [(h0, .inr (12, [.ref ma, .ref rn, .ref ef, .ref ck, .ref tr, .int 0, .int 0, .int 0, .int 0, .long 0]))] sz) := by
  refine vx_ofW (cc := cX11_meanSteps) (maxL := 1) (ret := (some .double)) (by decide) rfl ?_
  intro p e s m args below meth c s₁ B hml ht9 hv
  obtain ⟨rfl, hsz, hP, hK, hD0, hE⟩ := hv
  have hx := B.exec
  have hb := B.bytes
  have hr := B.returns
  have hts0 := atoms_spec (ws := ws_ yX11_meanSteps cX11_meanSteps 1 (some .double)) B.pre
  have hts := fun (w : Cond) (h : w ∈ pw) => hts0 w (List.mem_cons_of_mem _ h)
  have hown : s.vm.findClass RX11 = some m.cls := findClass_of_methodNamed B.named
  have hlocks := B.notSynchronized
  subst hsz
  have hD := hD0.self (sz := s.heap.size)
  generalize hAe : va_A [(h0, .inr (12, [.ref ma, .ref rn, .ref ef, .ref ck, .ref tr, .int 0, .int 0, .int 0, .int 0, .long 0]))] s.heap.size = A at hD hE ⊢
  have hA : ∀ q : Nat, s.heap.size ≤ q → A q := fun q h => by rw [← hAe]; exact Or.inr h
  have hS : va_S A s.heap s.heap [] := va_S.rf
  have hN := hE.1
  have hP : va_P (dC, dI) pcl [(h0, .inr (12, [.ref ma, .ref rn, .ref ef, .ref ck, .ref tr, .int 0, .int 0, .int 0, .int 0, .long 0]))] s.heap := hP
  have hl := lv_entry ([.ref h0]) (n := 1) (Nat.le_of_ble_eq_true rfl)
  rw [lg_entry_eq]
  generalize (lg_sl ([.ref h0]) ++ List.replicate (1 - (lg_sl ([.ref h0])).length) Slot.unset).toArray = ls at hl ⊢
  have hl : lv_has ls 1 [(0, .ref h0)] := hl
  obtain ⟨H, hH0⟩ : ∃ H, H = s.heap := ⟨_, rfl⟩
  rw [← hH0] at hP ⊢
  have hS : va_S A s.heap H [] := by rw [hH0]; exact hS
  refine lv_aload_n hx hb dX11_meanSteps_0 rfl (lv_at hl 0 rfl) ?_
  refine va_get (D := (dC, dI)) (ci := 12) (v := .int 0) (C := RX11) (T := TX11) (N := 10) hx hb hts pinX11 hown hK hP 0 rfl rfl 7 (by decide) (hts _ e157) (fun _ h9 => h9) rfl dX11_meanSteps_1 ?_
  refine lv_if_ne (tgt := 18) hx hb dX11_meanSteps_4 (by decide) (fun h9 => absurd (by decide) h9) (fun _ => ?_)
  obtain ⟨sa, hstr⟩ := hE.2.2.2.2.2.2.2.2.1 (RX11, 261, "no line was entered") (List.mem_of_getElem? (i := 12) rfl)
  exact vx_throwSW hx hb hfl (own := RX11) (cls := "java/lang/ArithmeticException") (text := "no line was entered") (names := xnames) hown (by decide +kernel) (by decide +kernel) (hts _ e177) (hts _ e178) hstr (xat4 hts hN) xgood4 hE.2.1 hE.2.2.1 hS (hl.1.trans hml.symm) dX11_meanSteps_7 dX11_meanSteps_10 dX11_meanSteps_11 dX11_meanSteps_14 dX11_meanSteps_17 (fun x9 h9 => (ht9 x9 h9).elim) (Nat.le_of_ble_eq_true rfl) (Nat.le_of_ble_eq_true rfl) (Nat.le_of_ble_eq_true rfl) (Nat.le_of_ble_eq_true rfl) hlocks (fun t _ h1 h2 => ⟨(), trivial, rfl, p_FX hS h1 h2⟩) hS.2.2 (Nat.le_of_ble_eq_true rfl) (Nat.le_of_ble_eq_true rfl)
set_option maxHeartbeats 4000000 in
set_option maxRecDepth 100000 in
theorem c_X11_cell (l : Launch) (hfl : l.stackTraces = false) (dC : Nat → ClassId) (dI : Nat → Nat → Nat) (z : pG) (h0 : Nat) (ma : Nat) (rn : Nat) (ef : Nat) (ck : Nat) (tr : Nat) (fi : Nat) (se : Nat) (ce : Nat) (pr : Nat) (di : Nat) (dr : Nat) (li : Nat) (ru : Nat) (ba : Nat) (cB : ClassId) (n : Int32) (sz : Nat) : vx_Met l yX11_cell (ws_ yX11_cell cX11_cell 2 (some .int)) ({ frames := 6, cells := 1, slots := 6, locals := 82 }) (va_Pc [.ref h0, .int n] (pPre z dC dI [(h0, .inr (12, [.ref ma, .ref rn, .ref ef, .ref ck, .ref tr, .int 0, .int 0, .int 0, .int 0, .long 0])), (ma, .inr (7, [.ref fi, .ref se, .ref ce, .ref pr, .ref di, .ref dr, .ref li, .ref ru, .ref ba, .int 1000, .int 0, .int 0, .int 0, .int 0, .int 0, .int 0])), (ce, .inl (cB, 100, .inl (fun _ => 0)))] [(cB, .int)] sz)) (va_Qi (fun (r : Int32) (_ : Unit) => (r = 0 ∧ ¬ n < 0 ∧ n < 100)) (fun _ t => pPost dC dI (va_A [(h0, .inr (12, [.ref ma, .ref rn, .ref ef, .ref ck, .ref tr, .int 0, .int 0, .int 0, .int 0, .long 0])), (ma, .inr (7, [.ref fi, .ref se, .ref ce, .ref pr, .ref di, .ref dr, .ref li, .ref ru, .ref ba, .int 1000, .int 0, .int 0, .int 0, .int 0, .int 0, .int 0])), (ce, .inl (cB, 100, .inl (fun _ => 0)))] sz) [(h0, .inr (12, [.ref ma, .ref rn, .ref ef, .ref ck, .ref tr, .int 0, .int 0, .int 0, .int 0, .long 0])), (ma, .inr (7, [.ref fi, .ref se, .ref ce, .ref pr, .ref di, .ref dr, .ref li, .ref ru, .ref ba, .int 1000, .int 0, .int 0, .int 0, .int 0, .int 0, .int 0])), (ce, .inl (cB, 100, .inl (fun _ => 0)))] [(cB, .int)] t) (va_A [(h0, .inr (12, [.ref ma, .ref rn, .ref ef, .ref ck, .ref tr, .int 0, .int 0, .int 0, .int 0, .long 0])), (ma, .inr (7, [.ref fi, .ref se, .ref ce, .ref pr, .ref di, .ref dr, .ref li, .ref ru, .ref ba, .int 1000, .int 0, .int 0, .int 0, .int 0, .int 0, .int 0])), (ce, .inl (cB, 100, .inl (fun _ => 0)))] sz)) (vx_X (fun (_ : Unit) => True) (fun E _ _ => E = "java/lang/IndexOutOfBoundsException" ∧ (n < 0 ∨ ¬ n < 100)) (va_A [(h0, .inr (12, [.ref ma, .ref rn, .ref ef, .ref ck, .ref tr, .int 0, .int 0, .int 0, .int 0, .long 0])), (ma, .inr (7, [.ref fi, .ref se, .ref ce, .ref pr, .ref di, .ref dr, .ref li, .ref ru, .ref ba, .int 1000, .int 0, .int 0, .int 0, .int 0, .int 0, .int 0])), (ce, .inl (cB, 100, .inl (fun _ => 0)))] sz)) 1 6 (va_A [(h0, .inr (12, [.ref ma, .ref rn, .ref ef, .ref ck, .ref tr, .int 0, .int 0, .int 0, .int 0, .long 0])), (ma, .inr (7, [.ref fi, .ref se, .ref ce, .ref pr, .ref di, .ref dr, .ref li, .ref ru, .ref ba, .int 1000, .int 0, .int 0, .int 0, .int 0, .int 0, .int 0])), (ce, .inl (cB, 100, .inl (fun _ => 0)))] sz) := by
  refine vx_ofW (cc := cX11_cell) (maxL := 2) (ret := (some .int)) (by decide) rfl ?_
  intro p e s m args below meth c s₁ B hml ht9 hv
  obtain ⟨rfl, hsz, hP, hK, hD0, hE⟩ := hv
  have hx := B.exec
  have hb := B.bytes
  have hr := B.returns
  have hts0 := atoms_spec (ws := ws_ yX11_cell cX11_cell 2 (some .int)) B.pre
  have hts := fun (w : Cond) (h : w ∈ pw) => hts0 w (List.mem_cons_of_mem _ h)
  have hown : s.vm.findClass RX11 = some m.cls := findClass_of_methodNamed B.named
  have hlocks := B.notSynchronized
  subst hsz
  have hD := hD0.self (sz := s.heap.size)
  generalize hAe : va_A [(h0, .inr (12, [.ref ma, .ref rn, .ref ef, .ref ck, .ref tr, .int 0, .int 0, .int 0, .int 0, .long 0])), (ma, .inr (7, [.ref fi, .ref se, .ref ce, .ref pr, .ref di, .ref dr, .ref li, .ref ru, .ref ba, .int 1000, .int 0, .int 0, .int 0, .int 0, .int 0, .int 0])), (ce, .inl (cB, 100, .inl (fun _ => 0)))] s.heap.size = A at hD hE ⊢
  have hA : ∀ q : Nat, s.heap.size ≤ q → A q := fun q h => by rw [← hAe]; exact Or.inr h
  have hS : va_S A s.heap s.heap [] := va_S.rf
  have hN := hE.1
  have hP : va_P (dC, dI) pcl [(h0, .inr (12, [.ref ma, .ref rn, .ref ef, .ref ck, .ref tr, .int 0, .int 0, .int 0, .int 0, .long 0])), (ma, .inr (7, [.ref fi, .ref se, .ref ce, .ref pr, .ref di, .ref dr, .ref li, .ref ru, .ref ba, .int 1000, .int 0, .int 0, .int 0, .int 0, .int 0, .int 0])), (ce, .inl (cB, 100, .inl (fun _ => 0)))] s.heap := hP
  have hl := lv_entry ([.ref h0, .int n]) (n := 2) (Nat.le_of_ble_eq_true rfl)
  rw [lg_entry_eq]
  generalize (lg_sl ([.ref h0, .int n]) ++ List.replicate (2 - (lg_sl ([.ref h0, .int n])).length) Slot.unset).toArray = ls at hl ⊢
  have hl : lv_has ls 2 [(0, .ref h0), (1, .int n)] := hl
  obtain ⟨H, hH0⟩ : ∃ H, H = s.heap := ⟨_, rfl⟩
  rw [← hH0] at hP ⊢
  have hS : va_S A s.heap H [] := by rw [hH0]; exact hS
  refine lv_iload_n hx hb dX11_cell_0 rfl (lv_at hl 1 rfl) ?_
  refine lv_if_lt (tgt := 10) hx hb dX11_cell_1 (by decide) (fun k1 => ?_) (fun k1 => ?_)
  · obtain ⟨sa, hstr⟩ := hE.2.2.2.2.2.2.2.2.1 (RX11, 174, "there is no such cell") (List.mem_of_getElem? (i := 6) rfl)
    exact vx_throwS hx hb hfl (own := RX11) (cls := "java/lang/IndexOutOfBoundsException") (text := "there is no such cell") (names := xnames) hown (by decide +kernel) (by decide +kernel) (hts _ e164) (hts _ e165) hstr (xat2 hts hN) xgood2 hE.2.1 hE.2.2.1 hS (hl.1.trans hml.symm) dX11_cell_10 dX11_cell_13 dX11_cell_14 dX11_cell_16 dX11_cell_19 (fun x9 h9 => (ht9 x9 h9).elim) (Nat.le_of_ble_eq_true rfl) (Nat.le_of_ble_eq_true rfl) (Nat.le_of_ble_eq_true rfl) (Nat.le_of_ble_eq_true rfl) hlocks (fun t _ h1 h2 => ⟨(), trivial, ⟨rfl, Or.inl k1⟩, p_FX hS h1 h2⟩) hS.2.2 (Nat.le_of_ble_eq_true rfl) (Nat.le_of_ble_eq_true rfl)
  · refine lv_iload_n hx hb dX11_cell_4 rfl (lv_at hl 1 rfl) ?_
    refine lv_bipush (v := 100) hx hb dX11_cell_5 (by decide) ?_
    refine lv_icmp_lt (tgt := 20) hx hb dX11_cell_7 (by decide) (fun k2 => ?_) (fun k2 => ?_)
    · refine lv_aload_n hx hb dX11_cell_20 rfl (lv_at hl 0 rfl) ?_
      refine va_get (D := (dC, dI)) (ci := 12) (v := .ref ma) (C := RX11) (T := TX11) (N := 10) hx hb hts pinX11 hown hK hP 0 rfl rfl 0 (by decide) (hts _ e120) (fun _ h9 => h9) rfl dX11_cell_21 ?_
      refine va_getN (D := (dC, dI)) (ci := 7) (v := .ref ce) (C := RX6) (T := TX6) (N := 16) hx hb hts pinX6 hown hK hP 1 rfl rfl 2 (by decide) (va_Nw.use rfl (hN _ n27)) (fun _ h9 => h9) rfl dX11_cell_24 ?_
      refine lv_iload_n hx hb dX11_cell_27 rfl (lv_at hl 1 rfl) ?_
      refine va_iald hx hb hK hP 2 0 rfl rfl (p_in100 k1 k2) dX11_cell_28 ?_
      refine W.eq (g2 := F0 m 29 ls [.int 0]) (by rfl) ?_
      have hP9 := hP.sub (ws' := [(h0, .inr (12, [.ref ma, .ref rn, .ref ef, .ref ck, .ref tr, .int 0, .int 0, .int 0, .int 0, .long 0])), (ma, .inr (7, [.ref fi, .ref se, .ref ce, .ref pr, .ref di, .ref dr, .ref li, .ref ru, .ref ba, .int 1000, .int 0, .int 0, .int 0, .int 0, .int 0, .int 0])), (ce, .inl (cB, 100, .inl (fun _ => 0)))]) [0, 1, 2] rfl
      have hD9 := hD.sub (ws' := [(h0, .inr (12, [.ref ma, .ref rn, .ref ef, .ref ck, .ref tr, .int 0, .int 0, .int 0, .int 0, .long 0])), (ma, .inr (7, [.ref fi, .ref se, .ref ce, .ref pr, .ref di, .ref dr, .ref li, .ref ru, .ref ba, .int 1000, .int 0, .int 0, .int 0, .int 0, .int 0, .int 0])), (ce, .inl (cB, 100, .inl (fun _ => 0)))]) [0, 1, 2] (by decide) rfl
      have hK9 := hK.sub (tys' := [(cB, .int)]) [0] rfl
      refine W.widen (k := 1) (n := 6) (Nat.le_of_ble_eq_true rfl) (Nat.le_of_ble_eq_true rfl) ?_
      refine vx_ret ?_
      exact W.iret (v := 0) hx hb hr (fun t ht hW => ⟨⟨0, (), rfl, ⟨rfl, ⟨k1, k2⟩⟩, by rw [ht]; exact hP9, va_K.moved hW.alike hK9, hD9⟩, hS.F ht⟩) hS.2.2 dX11_cell_29
    · obtain ⟨sa, hstr⟩ := hE.2.2.2.2.2.2.2.2.1 (RX11, 174, "there is no such cell") (List.mem_of_getElem? (i := 6) rfl)
      exact vx_throwS hx hb hfl (own := RX11) (cls := "java/lang/IndexOutOfBoundsException") (text := "there is no such cell") (names := xnames) hown (by decide +kernel) (by decide +kernel) (hts _ e164) (hts _ e165) hstr (xat2 hts hN) xgood2 hE.2.1 hE.2.2.1 hS (hl.1.trans hml.symm) dX11_cell_10 dX11_cell_13 dX11_cell_14 dX11_cell_16 dX11_cell_19 (fun x9 h9 => (ht9 x9 h9).elim) (Nat.le_of_ble_eq_true rfl) (Nat.le_of_ble_eq_true rfl) (Nat.le_of_ble_eq_true rfl) (Nat.le_of_ble_eq_true rfl) hlocks (fun t _ h1 h2 => ⟨(), trivial, ⟨rfl, Or.inr k2⟩, p_FX hS h1 h2⟩) hS.2.2 (Nat.le_of_ble_eq_true rfl) (Nat.le_of_ble_eq_true rfl)
set_option maxHeartbeats 4000000 in
set_option maxRecDepth 100000 in
theorem c_X11_name (l : Launch) (hfl : l.stackTraces = false) (dC : Nat → ClassId) (dI : Nat → Nat → Nat) (z : pG) (h0 : Nat) (ma : Nat) (rn : Nat) (ef : Nat) (ck : Nat) (tr : Nat) (fi : Nat) (se : Nat) (ce : Nat) (pr : Nat) (di : Nat) (dr : Nat) (li : Nat) (ru : Nat) (ba : Nat) (so : Nat) (va : Nat) (cC : ClassId) (cD : ClassId) (n : Int32) (sz : Nat) : vx_Met l yX11_name (ws_ yX11_name cX11_name 2 (some .int)) ({ frames := 6, cells := 1, slots := 6, locals := 82 }) (va_Pc [.ref h0, .int n] (pPre z dC dI [(h0, .inr (12, [.ref ma, .ref rn, .ref ef, .ref ck, .ref tr, .int 0, .int 0, .int 0, .int 0, .long 0])), (ma, .inr (7, [.ref fi, .ref se, .ref ce, .ref pr, .ref di, .ref dr, .ref li, .ref ru, .ref ba, .int 1000, .int 0, .int 0, .int 0, .int 0, .int 0, .int 0])), (li, .inr (6, [.ref so, .ref va, .int 0, .int 0])), (so, .inl (cC, 40, .inl (fun _ => 0))), (va, .inl (cD, 40, .inl (fun _ => 0)))] [(cC, .int), (cD, .int)] sz)) (va_Qi (fun (r : Int32) (_ : Unit) => (r = 1 ∧ ¬ n < 0 ∧ n < 16)) (fun _ t => ∃ (f1 : Nat → Int32) (f2 : Nat → Int32), pPost dC dI (va_A [(h0, .inr (12, [.ref ma, .ref rn, .ref ef, .ref ck, .ref tr, .int 0, .int 0, .int 0, .int 0, .long 0])), (ma, .inr (7, [.ref fi, .ref se, .ref ce, .ref pr, .ref di, .ref dr, .ref li, .ref ru, .ref ba, .int 1000, .int 0, .int 0, .int 0, .int 0, .int 0, .int 0])), (li, .inr (6, [.ref so, .ref va, .int 0, .int 0])), (so, .inl (cC, 40, .inl (fun _ => 0))), (va, .inl (cD, 40, .inl (fun _ => 0)))] sz) [(h0, .inr (12, [.ref ma, .ref rn, .ref ef, .ref ck, .ref tr, .int 0, .int 0, .int 0, .int 0, .long 0])), (ma, .inr (7, [.ref fi, .ref se, .ref ce, .ref pr, .ref di, .ref dr, .ref li, .ref ru, .ref ba, .int 1000, .int 0, .int 0, .int 0, .int 0, .int 0, .int 0])), (li, .inr (6, [.ref so, .ref va, .int 1, .int 0])), (so, .inl (cC, 40, .inl f1)), (va, .inl (cD, 40, .inl f2))] [(cC, .int), (cD, .int)] t) (va_A [(h0, .inr (12, [.ref ma, .ref rn, .ref ef, .ref ck, .ref tr, .int 0, .int 0, .int 0, .int 0, .long 0])), (ma, .inr (7, [.ref fi, .ref se, .ref ce, .ref pr, .ref di, .ref dr, .ref li, .ref ru, .ref ba, .int 1000, .int 0, .int 0, .int 0, .int 0, .int 0, .int 0])), (li, .inr (6, [.ref so, .ref va, .int 0, .int 0])), (so, .inl (cC, 40, .inl (fun _ => 0))), (va, .inl (cD, 40, .inl (fun _ => 0)))] sz)) (vx_X (fun (_ : Unit) => True) (fun E _ _ => E = "java/lang/IllegalArgumentException" ∧ (n < 0 ∨ ¬ n < 16)) (va_A [(h0, .inr (12, [.ref ma, .ref rn, .ref ef, .ref ck, .ref tr, .int 0, .int 0, .int 0, .int 0, .long 0])), (ma, .inr (7, [.ref fi, .ref se, .ref ce, .ref pr, .ref di, .ref dr, .ref li, .ref ru, .ref ba, .int 1000, .int 0, .int 0, .int 0, .int 0, .int 0, .int 0])), (li, .inr (6, [.ref so, .ref va, .int 0, .int 0])), (so, .inl (cC, 40, .inl (fun _ => 0))), (va, .inl (cD, 40, .inl (fun _ => 0)))] sz)) 1 6 (va_A [(h0, .inr (12, [.ref ma, .ref rn, .ref ef, .ref ck, .ref tr, .int 0, .int 0, .int 0, .int 0, .long 0])), (ma, .inr (7, [.ref fi, .ref se, .ref ce, .ref pr, .ref di, .ref dr, .ref li, .ref ru, .ref ba, .int 1000, .int 0, .int 0, .int 0, .int 0, .int 0, .int 0])), (li, .inr (6, [.ref so, .ref va, .int 0, .int 0])), (so, .inl (cC, 40, .inl (fun _ => 0))), (va, .inl (cD, 40, .inl (fun _ => 0)))] sz) := by
  refine vx_ofW (cc := cX11_name) (maxL := 2) (ret := (some .int)) (by decide) rfl ?_
  intro p e s m args below meth c s₁ B hml ht9 hv
  obtain ⟨rfl, hsz, hP, hK, hD0, hE⟩ := hv
  have hx := B.exec
  have hb := B.bytes
  have hr := B.returns
  have hts0 := atoms_spec (ws := ws_ yX11_name cX11_name 2 (some .int)) B.pre
  have hts := fun (w : Cond) (h : w ∈ pw) => hts0 w (List.mem_cons_of_mem _ h)
  have hown : s.vm.findClass RX11 = some m.cls := findClass_of_methodNamed B.named
  have hlocks := B.notSynchronized
  subst hsz
  have hD := hD0.self (sz := s.heap.size)
  generalize hAe : va_A [(h0, .inr (12, [.ref ma, .ref rn, .ref ef, .ref ck, .ref tr, .int 0, .int 0, .int 0, .int 0, .long 0])), (ma, .inr (7, [.ref fi, .ref se, .ref ce, .ref pr, .ref di, .ref dr, .ref li, .ref ru, .ref ba, .int 1000, .int 0, .int 0, .int 0, .int 0, .int 0, .int 0])), (li, .inr (6, [.ref so, .ref va, .int 0, .int 0])), (so, .inl (cC, 40, .inl (fun _ => 0))), (va, .inl (cD, 40, .inl (fun _ => 0)))] s.heap.size = A at hD hE ⊢
  have hA : ∀ q : Nat, s.heap.size ≤ q → A q := fun q h => by rw [← hAe]; exact Or.inr h
  have hS : va_S A s.heap s.heap [] := va_S.rf
  have hN := hE.1
  have hP : va_P (dC, dI) pcl [(h0, .inr (12, [.ref ma, .ref rn, .ref ef, .ref ck, .ref tr, .int 0, .int 0, .int 0, .int 0, .long 0])), (ma, .inr (7, [.ref fi, .ref se, .ref ce, .ref pr, .ref di, .ref dr, .ref li, .ref ru, .ref ba, .int 1000, .int 0, .int 0, .int 0, .int 0, .int 0, .int 0])), (li, .inr (6, [.ref so, .ref va, .int 0, .int 0])), (so, .inl (cC, 40, .inl (fun _ => 0))), (va, .inl (cD, 40, .inl (fun _ => 0)))] s.heap := hP
  have hl := lv_entry ([.ref h0, .int n]) (n := 2) (Nat.le_of_ble_eq_true rfl)
  rw [lg_entry_eq]
  generalize (lg_sl ([.ref h0, .int n]) ++ List.replicate (2 - (lg_sl ([.ref h0, .int n])).length) Slot.unset).toArray = ls at hl ⊢
  have hl : lv_has ls 2 [(0, .ref h0), (1, .int n)] := hl
  obtain ⟨H, hH0⟩ : ∃ H, H = s.heap := ⟨_, rfl⟩
  rw [← hH0] at hP ⊢
  have hS : va_S A s.heap H [] := by rw [hH0]; exact hS
  refine lv_iload_n hx hb dX11_name_0 rfl (lv_at hl 1 rfl) ?_
  refine lv_if_lt (tgt := 10) hx hb dX11_name_1 (by decide) (fun k1 => ?_) (fun k1 => ?_)
  · obtain ⟨sa, hstr⟩ := hE.2.2.2.2.2.2.2.2.1 (RX11, 87, "there is no such name") (List.mem_of_getElem? (i := 2) rfl)
    exact vx_throwS hx hb hfl (own := RX11) (cls := "java/lang/IllegalArgumentException") (text := "there is no such name") (names := xnames) hown (by decide +kernel) (by decide +kernel) (hts _ e141) (hts _ e142) hstr (xat0 hts hN) xgood0 hE.2.1 hE.2.2.1 hS (hl.1.trans hml.symm) dX11_name_10 dX11_name_13 dX11_name_14 dX11_name_16 dX11_name_19 (fun x9 h9 => (ht9 x9 h9).elim) (Nat.le_of_ble_eq_true rfl) (Nat.le_of_ble_eq_true rfl) (Nat.le_of_ble_eq_true rfl) (Nat.le_of_ble_eq_true rfl) hlocks (fun t _ h1 h2 => ⟨(), trivial, ⟨rfl, Or.inl k1⟩, p_FX hS h1 h2⟩) hS.2.2 (Nat.le_of_ble_eq_true rfl) (Nat.le_of_ble_eq_true rfl)
  · refine lv_iload_n hx hb dX11_name_4 rfl (lv_at hl 1 rfl) ?_
    refine lv_bipush (v := 16) hx hb dX11_name_5 (by decide) ?_
    refine lv_icmp_lt (tgt := 20) hx hb dX11_name_7 (by decide) (fun k2 => ?_) (fun k2 => ?_)
    · refine lv_aload_n hx hb dX11_name_20 rfl (lv_at hl 0 rfl) ?_
      refine va_get (D := (dC, dI)) (ci := 12) (v := .ref ma) (C := RX11) (T := TX11) (N := 10) hx hb hts pinX11 hown hK hP 0 rfl rfl 0 (by decide) (hts _ e120) (fun _ h9 => h9) rfl dX11_name_21 ?_
      refine va_getN (D := (dC, dI)) (ci := 7) (v := .ref li) (C := RX6) (T := TX6) (N := 16) hx hb hts pinX6 hown hK hP 1 rfl rfl 6 (by decide) (va_Nw.use rfl (hN _ n16)) (fun _ h9 => h9) rfl dX11_name_24 ?_
      have hPc := hP.sub (ws' := [(li, .inr (6, [.ref so, .ref va, .int 0, .int 0]))]) [2] rfl
      have hDc := hD.sub (ws' := [(li, .inr (6, [.ref so, .ref va, .int 0, .int 0]))]) [2] (by decide) rfl
      have hKc := hK.sub (tys' := []) [] rfl
      have hFc := va_free (wc := [(li, .inr (6, [.ref so, .ref va, .int 0, .int 0]))]) hD hS hA [2] rfl
      refine va_calli (va_runVN (As := []) (rest := []) ⟨hx, hb, hml, hown, hts⟩ (c_X5_isFull l dC dI z li so va H.size) ⟨va_cnB 0 hts (ws_good e144) rfl rfl rfl (hN _ n17) (hts _ e83) ⟨by decide +kernel, by decide +kernel, by decide +kernel⟩ ⟨Nat.le_of_ble_eq_true rfl, Nat.le_of_ble_eq_true rfl⟩, (hts _ e143), (hts _ e145)⟩ ⟨pPre_blind, va_recv hKc hPc (ci := 6) (q0 := 0) rfl rfl, fun U hU hW => ⟨rfl, pPre_at hPc hKc hDc hE hS hFc U hU hW⟩⟩ rfl rfl hl.1 rfl (lv_room (Nat.le_of_ble_eq_true rfl)) dX11_name_27 ⟨Nat.le_of_ble_eq_true rfl, Nat.le_of_ble_eq_true rfl⟩) hS (fun q _ h => hFc q h) hFc (fun r3 u4 t H1 locs ht hvm hw hB hz1 hk1 hS => ?_)
      obtain ⟨hP1, hK1, hD1⟩ := hB
      rw [ht] at hP1
      have hK1 := va_K.moved hvm.symm hK1
      obtain ⟨hP, hD⟩ := va_join (wr := [(h0, .inr (12, [.ref ma, .ref rn, .ref ef, .ref ck, .ref tr, .int 0, .int 0, .int 0, .int 0, .long 0])), (ma, .inr (7, [.ref fi, .ref se, .ref ce, .ref pr, .ref di, .ref dr, .ref li, .ref ru, .ref ba, .int 1000, .int 0, .int 0, .int 0, .int 0, .int 0, .int 0])), (so, .inl (cC, 40, .inl (fun _ => 0))), (va, .inl (cD, 40, .inl (fun _ => 0)))]) (w1 := [(li, .inr (6, [.ref so, .ref va, .int 0, .int 0]))]) hP hD [2] [0, 1, 3, 4] rfl rfl (by decide) (by decide) hk1 hFc hP1 hD1
      have hK := hK.app hK1
      generalize H1 = H at hP hS ⊢
      have hP : va_P (dC, dI) pcl [(h0, .inr (12, [.ref ma, .ref rn, .ref ef, .ref ck, .ref tr, .int 0, .int 0, .int 0, .int 0, .long 0])), (ma, .inr (7, [.ref fi, .ref se, .ref ce, .ref pr, .ref di, .ref dr, .ref li, .ref ru, .ref ba, .int 1000, .int 0, .int 0, .int 0, .int 0, .int 0, .int 0])), (so, .inl (cC, 40, .inl (fun _ => 0))), (va, .inl (cD, 40, .inl (fun _ => 0))), (li, .inr (6, [.ref so, .ref va, .int 0, .int 0]))] H := hP
      have hD : va_D A [(h0, .inr (12, [.ref ma, .ref rn, .ref ef, .ref ck, .ref tr, .int 0, .int 0, .int 0, .int 0, .long 0])), (ma, .inr (7, [.ref fi, .ref se, .ref ce, .ref pr, .ref di, .ref dr, .ref li, .ref ru, .ref ba, .int 1000, .int 0, .int 0, .int 0, .int 0, .int 0, .int 0])), (so, .inl (cC, 40, .inl (fun _ => 0))), (va, .inl (cD, 40, .inl (fun _ => 0))), (li, .inr (6, [.ref so, .ref va, .int 0, .int 0]))] := hD
      have hK : va_K (dC, dI) pcl [(cC, .int), (cD, .int)] s := hK
      subst hw
      refine lv_if_eq (tgt := 43) hx hb dX11_name_30 (by decide) (fun _ => ?_) (fun h9 => absurd (by decide) h9)
      refine lv_aload_n hx hb dX11_name_43 rfl (lv_at hl 0 rfl) ?_
      refine va_get (D := (dC, dI)) (ci := 12) (v := .ref ma) (C := RX11) (T := TX11) (N := 10) hx hb hts pinX11 hown hK hP 0 rfl rfl 0 (by decide) (hts _ e120) (fun _ h9 => h9) rfl dX11_name_44 ?_
      refine va_getN (D := (dC, dI)) (ci := 7) (v := .ref li) (C := RX6) (T := TX6) (N := 16) hx hb hts pinX6 hown hK hP 1 rfl rfl 6 (by decide) (va_Nw.use rfl (hN _ n16)) (fun _ h9 => h9) rfl dX11_name_47 ?_
      refine lv_iconst (v := 2) hx hb dX11_name_50 (by decide) ?_
      refine lv_iload_n hx hb dX11_name_51 rfl (lv_at hl 1 rfl) ?_
      have hPc := hP.sub (ws' := [(li, .inr (6, [.ref so, .ref va, .int 0, .int 0])), (so, .inl (cC, 40, .inl (fun _ => 0))), (va, .inl (cD, 40, .inl (fun _ => 0)))]) [4, 2, 3] rfl
      have hDc := hD.sub (ws' := [(li, .inr (6, [.ref so, .ref va, .int 0, .int 0])), (so, .inl (cC, 40, .inl (fun _ => 0))), (va, .inl (cD, 40, .inl (fun _ => 0)))]) [4, 2, 3] (by decide) rfl
      have hKc := hK.sub (tys' := [(cC, .int), (cD, .int)]) [0, 1] rfl
      have hFc := va_free (wc := [(li, .inr (6, [.ref so, .ref va, .int 0, .int 0])), (so, .inl (cC, 40, .inl (fun _ => 0))), (va, .inl (cD, 40, .inl (fun _ => 0)))]) hD hS hA [4, 2, 3] rfl
      refine va_calli (va_runVN (As := [.int 2, .int n]) (rest := []) ⟨hx, hb, hml, hown, hts⟩ (c_X5_add l dC dI z li so va cC cD 2 n H.size) ⟨va_cnB 2 hts (ws_good e149) rfl rfl rfl (hN _ n18) (hts _ e83) ⟨by decide +kernel, by decide +kernel, by decide +kernel⟩ ⟨Nat.le_of_ble_eq_true rfl, Nat.le_of_ble_eq_true rfl⟩, (hts _ e148), (hts _ e150)⟩ ⟨pPre_blind, va_recv hKc hPc (ci := 6) (q0 := 0) rfl rfl, fun U hU hW => ⟨rfl, pPre_at hPc hKc hDc hE hS hFc U hU hW⟩⟩ rfl rfl hl.1 rfl (lv_room (Nat.le_of_ble_eq_true rfl)) dX11_name_52 ⟨Nat.le_of_ble_eq_true rfl, Nat.le_of_ble_eq_true rfl⟩) hS (fun q _ h => hFc q h) hFc (fun r5 u8 t H1 locs ht hvm hw hB hz1 hk1 hS => ?_)
      obtain ⟨y6, y7, hP1, hK1, hD1⟩ := hB
      rw [ht] at hP1
      have hK1 := va_K.moved hvm.symm hK1
      obtain ⟨hP, hD⟩ := va_join (wr := [(h0, .inr (12, [.ref ma, .ref rn, .ref ef, .ref ck, .ref tr, .int 0, .int 0, .int 0, .int 0, .long 0])), (ma, .inr (7, [.ref fi, .ref se, .ref ce, .ref pr, .ref di, .ref dr, .ref li, .ref ru, .ref ba, .int 1000, .int 0, .int 0, .int 0, .int 0, .int 0, .int 0]))]) (w1 := [(li, .inr (6, [.ref so, .ref va, .int 1, .int 0])), (so, .inl (cC, 40, .inl y6)), (va, .inl (cD, 40, .inl y7))]) hP hD [4, 2, 3] [0, 1] rfl rfl (by decide) (by decide) hk1 hFc hP1 hD1
      have hK := hK.app hK1
      generalize H1 = H at hP hS ⊢
      have hP : va_P (dC, dI) pcl [(h0, .inr (12, [.ref ma, .ref rn, .ref ef, .ref ck, .ref tr, .int 0, .int 0, .int 0, .int 0, .long 0])), (ma, .inr (7, [.ref fi, .ref se, .ref ce, .ref pr, .ref di, .ref dr, .ref li, .ref ru, .ref ba, .int 1000, .int 0, .int 0, .int 0, .int 0, .int 0, .int 0])), (li, .inr (6, [.ref so, .ref va, .int 1, .int 0])), (so, .inl (cC, 40, .inl y6)), (va, .inl (cD, 40, .inl y7))] H := hP
      have hD : va_D A [(h0, .inr (12, [.ref ma, .ref rn, .ref ef, .ref ck, .ref tr, .int 0, .int 0, .int 0, .int 0, .long 0])), (ma, .inr (7, [.ref fi, .ref se, .ref ce, .ref pr, .ref di, .ref dr, .ref li, .ref ru, .ref ba, .int 1000, .int 0, .int 0, .int 0, .int 0, .int 0, .int 0])), (li, .inr (6, [.ref so, .ref va, .int 1, .int 0])), (so, .inl (cC, 40, .inl y6)), (va, .inl (cD, 40, .inl y7))] := hD
      have hK : va_K (dC, dI) pcl [(cC, .int), (cD, .int), (cC, .int), (cD, .int)] s := hK
      have hK := hK.sub (tys' := [(cC, .int), (cD, .int)]) [0, 1] rfl
      subst hw
      have hP9 := hP.sub (ws' := [(h0, .inr (12, [.ref ma, .ref rn, .ref ef, .ref ck, .ref tr, .int 0, .int 0, .int 0, .int 0, .long 0])), (ma, .inr (7, [.ref fi, .ref se, .ref ce, .ref pr, .ref di, .ref dr, .ref li, .ref ru, .ref ba, .int 1000, .int 0, .int 0, .int 0, .int 0, .int 0, .int 0])), (li, .inr (6, [.ref so, .ref va, .int 1, .int 0])), (so, .inl (cC, 40, .inl y6)), (va, .inl (cD, 40, .inl y7))]) [0, 1, 2, 3, 4] rfl
      have hD9 := hD.sub (ws' := [(h0, .inr (12, [.ref ma, .ref rn, .ref ef, .ref ck, .ref tr, .int 0, .int 0, .int 0, .int 0, .long 0])), (ma, .inr (7, [.ref fi, .ref se, .ref ce, .ref pr, .ref di, .ref dr, .ref li, .ref ru, .ref ba, .int 1000, .int 0, .int 0, .int 0, .int 0, .int 0, .int 0])), (li, .inr (6, [.ref so, .ref va, .int 1, .int 0])), (so, .inl (cC, 40, .inl y6)), (va, .inl (cD, 40, .inl y7))]) [0, 1, 2, 3, 4] (by decide) rfl
      have hK9 := hK.sub (tys' := [(cC, .int), (cD, .int)]) [0, 1] rfl
      refine W.widen (k := 1) (n := 6) (Nat.le_of_ble_eq_true rfl) (Nat.le_of_ble_eq_true rfl) ?_
      refine vx_ret ?_
      exact W.iret (v := 1) hx hb hr (fun t ht hW => ⟨⟨1, (), rfl, ⟨rfl, ⟨k1, k2⟩⟩, y6, y7, by rw [ht]; exact hP9, va_K.moved hW.alike hK9, hD9⟩, hS.F ht⟩) hS.2.2 dX11_name_55
    · obtain ⟨sa, hstr⟩ := hE.2.2.2.2.2.2.2.2.1 (RX11, 87, "there is no such name") (List.mem_of_getElem? (i := 2) rfl)
      exact vx_throwS hx hb hfl (own := RX11) (cls := "java/lang/IllegalArgumentException") (text := "there is no such name") (names := xnames) hown (by decide +kernel) (by decide +kernel) (hts _ e141) (hts _ e142) hstr (xat0 hts hN) xgood0 hE.2.1 hE.2.2.1 hS (hl.1.trans hml.symm) dX11_name_10 dX11_name_13 dX11_name_14 dX11_name_16 dX11_name_19 (fun x9 h9 => (ht9 x9 h9).elim) (Nat.le_of_ble_eq_true rfl) (Nat.le_of_ble_eq_true rfl) (Nat.le_of_ble_eq_true rfl) (Nat.le_of_ble_eq_true rfl) hlocks (fun t _ h1 h2 => ⟨(), trivial, ⟨rfl, Or.inr k2⟩, p_FX hS h1 h2⟩) hS.2.2 (Nat.le_of_ble_eq_true rfl) (Nat.le_of_ble_eq_true rfl)
set_option maxHeartbeats 4000000 in
set_option maxRecDepth 100000 in
theorem c_X11_number (l : Launch) (dC : Nat → ClassId) (dI : Nat → Nat → Nat) (z : pG) (h0 : Nat) (ma : Nat) (rn : Nat) (ef : Nat) (ck : Nat) (tr : Nat) (fi : Nat) (se : Nat) (ce : Nat) (pr : Nat) (di : Nat) (dr : Nat) (li : Nat) (ru : Nat) (ba : Nat) (so : Nat) (va : Nat) (cC : ClassId) (cD : ClassId) (n : Int32) (sz : Nat) : Met l yX11_number (ws_ yX11_number cX11_number 2 (some .int)) ({ frames := 1, cells := 0, slots := 0, locals := 22 }) (va_Pc [.ref h0, .int n] (pPre z dC dI [(h0, .inr (12, [.ref ma, .ref rn, .ref ef, .ref ck, .ref tr, .int 0, .int 0, .int 0, .int 0, .long 0])), (ma, .inr (7, [.ref fi, .ref se, .ref ce, .ref pr, .ref di, .ref dr, .ref li, .ref ru, .ref ba, .int 1000, .int 0, .int 0, .int 0, .int 0, .int 0, .int 0])), (li, .inr (6, [.ref so, .ref va, .int 0, .int 0])), (so, .inl (cC, 40, .inl (fun _ => 0))), (va, .inl (cD, 40, .inl (fun _ => 0)))] [(cC, .int), (cD, .int)] sz)) (va_Qi (fun (r : Int32) (_ : Unit) => r = 1) (fun _ t => ∃ (f1 : Nat → Int32) (f2 : Nat → Int32), pPost dC dI (va_A [(h0, .inr (12, [.ref ma, .ref rn, .ref ef, .ref ck, .ref tr, .int 0, .int 0, .int 0, .int 0, .long 0])), (ma, .inr (7, [.ref fi, .ref se, .ref ce, .ref pr, .ref di, .ref dr, .ref li, .ref ru, .ref ba, .int 1000, .int 0, .int 0, .int 0, .int 0, .int 0, .int 0])), (li, .inr (6, [.ref so, .ref va, .int 0, .int 0])), (so, .inl (cC, 40, .inl (fun _ => 0))), (va, .inl (cD, 40, .inl (fun _ => 0)))] sz) [(h0, .inr (12, [.ref ma, .ref rn, .ref ef, .ref ck, .ref tr, .int 0, .int 0, .int 0, .int 0, .long 0])), (ma, .inr (7, [.ref fi, .ref se, .ref ce, .ref pr, .ref di, .ref dr, .ref li, .ref ru, .ref ba, .int 1000, .int 0, .int 0, .int 0, .int 0, .int 0, .int 0])), (li, .inr (6, [.ref so, .ref va, .int 1, .int 0])), (so, .inl (cC, 40, .inl f1)), (va, .inl (cD, 40, .inl f2))] [(cC, .int), (cD, .int)] t) (va_A [(h0, .inr (12, [.ref ma, .ref rn, .ref ef, .ref ck, .ref tr, .int 0, .int 0, .int 0, .int 0, .long 0])), (ma, .inr (7, [.ref fi, .ref se, .ref ce, .ref pr, .ref di, .ref dr, .ref li, .ref ru, .ref ba, .int 1000, .int 0, .int 0, .int 0, .int 0, .int 0, .int 0])), (li, .inr (6, [.ref so, .ref va, .int 0, .int 0])), (so, .inl (cC, 40, .inl (fun _ => 0))), (va, .inl (cD, 40, .inl (fun _ => 0)))] sz)) 0 0 (va_A [(h0, .inr (12, [.ref ma, .ref rn, .ref ef, .ref ck, .ref tr, .int 0, .int 0, .int 0, .int 0, .long 0])), (ma, .inr (7, [.ref fi, .ref se, .ref ce, .ref pr, .ref di, .ref dr, .ref li, .ref ru, .ref ba, .int 1000, .int 0, .int 0, .int 0, .int 0, .int 0, .int 0])), (li, .inr (6, [.ref so, .ref va, .int 0, .int 0])), (so, .inl (cC, 40, .inl (fun _ => 0))), (va, .inl (cD, 40, .inl (fun _ => 0)))] sz) := by
  refine Met.ofW (cc := cX11_number) (maxL := 2) (ret := (some .int)) (by decide) rfl ?_
  intro p e s m args below meth c s₁ B hml hv
  obtain ⟨rfl, hsz, hP, hK, hD0, hE⟩ := hv
  have hx := B.exec
  have hb := B.bytes
  have hr := B.returns
  have hts0 := atoms_spec (ws := ws_ yX11_number cX11_number 2 (some .int)) B.pre
  have hts := fun (w : Cond) (h : w ∈ pw) => hts0 w (List.mem_cons_of_mem _ h)
  have hown : s.vm.findClass RX11 = some m.cls := findClass_of_methodNamed B.named
  have hlocks := B.notSynchronized
  subst hsz
  have hD := hD0.self (sz := s.heap.size)
  generalize hAe : va_A [(h0, .inr (12, [.ref ma, .ref rn, .ref ef, .ref ck, .ref tr, .int 0, .int 0, .int 0, .int 0, .long 0])), (ma, .inr (7, [.ref fi, .ref se, .ref ce, .ref pr, .ref di, .ref dr, .ref li, .ref ru, .ref ba, .int 1000, .int 0, .int 0, .int 0, .int 0, .int 0, .int 0])), (li, .inr (6, [.ref so, .ref va, .int 0, .int 0])), (so, .inl (cC, 40, .inl (fun _ => 0))), (va, .inl (cD, 40, .inl (fun _ => 0)))] s.heap.size = A at hD hE ⊢
  have hA : ∀ q : Nat, s.heap.size ≤ q → A q := fun q h => by rw [← hAe]; exact Or.inr h
  have hS : va_S A s.heap s.heap [] := va_S.rf
  have hN := hE.1
  have hP : va_P (dC, dI) pcl [(h0, .inr (12, [.ref ma, .ref rn, .ref ef, .ref ck, .ref tr, .int 0, .int 0, .int 0, .int 0, .long 0])), (ma, .inr (7, [.ref fi, .ref se, .ref ce, .ref pr, .ref di, .ref dr, .ref li, .ref ru, .ref ba, .int 1000, .int 0, .int 0, .int 0, .int 0, .int 0, .int 0])), (li, .inr (6, [.ref so, .ref va, .int 0, .int 0])), (so, .inl (cC, 40, .inl (fun _ => 0))), (va, .inl (cD, 40, .inl (fun _ => 0)))] s.heap := hP
  have hl := lv_entry ([.ref h0, .int n]) (n := 2) (Nat.le_of_ble_eq_true rfl)
  rw [lg_entry_eq]
  generalize (lg_sl ([.ref h0, .int n]) ++ List.replicate (2 - (lg_sl ([.ref h0, .int n])).length) Slot.unset).toArray = ls at hl ⊢
  have hl : lv_has ls 2 [(0, .ref h0), (1, .int n)] := hl
  obtain ⟨H, hH0⟩ : ∃ H, H = s.heap := ⟨_, rfl⟩
  rw [← hH0] at hP ⊢
  have hS : va_S A s.heap H [] := by rw [hH0]; exact hS
  refine lv_aload_n hx hb dX11_number_0 rfl (lv_at hl 0 rfl) ?_
  refine va_get (D := (dC, dI)) (ci := 12) (v := .ref ma) (C := RX11) (T := TX11) (N := 10) hx hb hts pinX11 hown hK hP 0 rfl rfl 0 (by decide) (hts _ e120) (fun _ h9 => h9) rfl dX11_number_1 ?_
  refine va_getN (D := (dC, dI)) (ci := 7) (v := .ref li) (C := RX6) (T := TX6) (N := 16) hx hb hts pinX6 hown hK hP 1 rfl rfl 6 (by decide) (va_Nw.use rfl (hN _ n16)) (fun _ h9 => h9) rfl dX11_number_4 ?_
  have hPc := hP.sub (ws' := [(li, .inr (6, [.ref so, .ref va, .int 0, .int 0]))]) [2] rfl
  have hDc := hD.sub (ws' := [(li, .inr (6, [.ref so, .ref va, .int 0, .int 0]))]) [2] (by decide) rfl
  have hKc := hK.sub (tys' := []) [] rfl
  have hFc := va_free (wc := [(li, .inr (6, [.ref so, .ref va, .int 0, .int 0]))]) hD hS hA [2] rfl
  refine va_calli (va_runVN (As := []) (rest := []) ⟨hx, hb, hml, hown, hts⟩ (c_X5_isFull l dC dI z li so va H.size) ⟨va_cnB 0 hts (ws_good e144) rfl rfl rfl (hN _ n17) (hts _ e83) ⟨by decide +kernel, by decide +kernel, by decide +kernel⟩ ⟨Nat.le_of_ble_eq_true rfl, Nat.le_of_ble_eq_true rfl⟩, (hts _ e143), (hts _ e145)⟩ ⟨pPre_blind, va_recv hKc hPc (ci := 6) (q0 := 0) rfl rfl, fun U hU hW => ⟨rfl, pPre_at hPc hKc hDc hE hS hFc U hU hW⟩⟩ rfl rfl hl.1 rfl (lv_room (Nat.le_of_ble_eq_true rfl)) dX11_number_7 ⟨Nat.le_of_ble_eq_true rfl, Nat.le_of_ble_eq_true rfl⟩) hS (fun q _ h => hFc q h) hFc (fun r1 u2 t H1 locs ht hvm hw hB hz1 hk1 hS => ?_)
  obtain ⟨hP1, hK1, hD1⟩ := hB
  rw [ht] at hP1
  have hK1 := va_K.moved hvm.symm hK1
  obtain ⟨hP, hD⟩ := va_join (wr := [(h0, .inr (12, [.ref ma, .ref rn, .ref ef, .ref ck, .ref tr, .int 0, .int 0, .int 0, .int 0, .long 0])), (ma, .inr (7, [.ref fi, .ref se, .ref ce, .ref pr, .ref di, .ref dr, .ref li, .ref ru, .ref ba, .int 1000, .int 0, .int 0, .int 0, .int 0, .int 0, .int 0])), (so, .inl (cC, 40, .inl (fun _ => 0))), (va, .inl (cD, 40, .inl (fun _ => 0)))]) (w1 := [(li, .inr (6, [.ref so, .ref va, .int 0, .int 0]))]) hP hD [2] [0, 1, 3, 4] rfl rfl (by decide) (by decide) hk1 hFc hP1 hD1
  have hK := hK.app hK1
  generalize H1 = H at hP hS ⊢
  have hP : va_P (dC, dI) pcl [(h0, .inr (12, [.ref ma, .ref rn, .ref ef, .ref ck, .ref tr, .int 0, .int 0, .int 0, .int 0, .long 0])), (ma, .inr (7, [.ref fi, .ref se, .ref ce, .ref pr, .ref di, .ref dr, .ref li, .ref ru, .ref ba, .int 1000, .int 0, .int 0, .int 0, .int 0, .int 0, .int 0])), (so, .inl (cC, 40, .inl (fun _ => 0))), (va, .inl (cD, 40, .inl (fun _ => 0))), (li, .inr (6, [.ref so, .ref va, .int 0, .int 0]))] H := hP
  have hD : va_D A [(h0, .inr (12, [.ref ma, .ref rn, .ref ef, .ref ck, .ref tr, .int 0, .int 0, .int 0, .int 0, .long 0])), (ma, .inr (7, [.ref fi, .ref se, .ref ce, .ref pr, .ref di, .ref dr, .ref li, .ref ru, .ref ba, .int 1000, .int 0, .int 0, .int 0, .int 0, .int 0, .int 0])), (so, .inl (cC, 40, .inl (fun _ => 0))), (va, .inl (cD, 40, .inl (fun _ => 0))), (li, .inr (6, [.ref so, .ref va, .int 0, .int 0]))] := hD
  have hK : va_K (dC, dI) pcl [(cC, .int), (cD, .int)] s := hK
  subst hw
  refine lv_if_eq (tgt := 23) hx hb dX11_number_10 (by decide) (fun _ => ?_) (fun h9 => absurd (by decide) h9)
  refine lv_aload_n hx hb dX11_number_23 rfl (lv_at hl 0 rfl) ?_
  refine va_get (D := (dC, dI)) (ci := 12) (v := .ref ma) (C := RX11) (T := TX11) (N := 10) hx hb hts pinX11 hown hK hP 0 rfl rfl 0 (by decide) (hts _ e120) (fun _ h9 => h9) rfl dX11_number_24 ?_
  refine va_getN (D := (dC, dI)) (ci := 7) (v := .ref li) (C := RX6) (T := TX6) (N := 16) hx hb hts pinX6 hown hK hP 1 rfl rfl 6 (by decide) (va_Nw.use rfl (hN _ n16)) (fun _ h9 => h9) rfl dX11_number_27 ?_
  refine lv_iconst (v := 0) hx hb dX11_number_30 (by decide) ?_
  refine lv_iload_n hx hb dX11_number_31 rfl (lv_at hl 1 rfl) ?_
  have hPc := hP.sub (ws' := [(li, .inr (6, [.ref so, .ref va, .int 0, .int 0])), (so, .inl (cC, 40, .inl (fun _ => 0))), (va, .inl (cD, 40, .inl (fun _ => 0)))]) [4, 2, 3] rfl
  have hDc := hD.sub (ws' := [(li, .inr (6, [.ref so, .ref va, .int 0, .int 0])), (so, .inl (cC, 40, .inl (fun _ => 0))), (va, .inl (cD, 40, .inl (fun _ => 0)))]) [4, 2, 3] (by decide) rfl
  have hKc := hK.sub (tys' := [(cC, .int), (cD, .int)]) [0, 1] rfl
  have hFc := va_free (wc := [(li, .inr (6, [.ref so, .ref va, .int 0, .int 0])), (so, .inl (cC, 40, .inl (fun _ => 0))), (va, .inl (cD, 40, .inl (fun _ => 0)))]) hD hS hA [4, 2, 3] rfl
  refine va_calli (va_runVN (As := [.int 0, .int n]) (rest := []) ⟨hx, hb, hml, hown, hts⟩ (c_X5_add l dC dI z li so va cC cD 0 n H.size) ⟨va_cnB 2 hts (ws_good e149) rfl rfl rfl (hN _ n18) (hts _ e83) ⟨by decide +kernel, by decide +kernel, by decide +kernel⟩ ⟨Nat.le_of_ble_eq_true rfl, Nat.le_of_ble_eq_true rfl⟩, (hts _ e148), (hts _ e150)⟩ ⟨pPre_blind, va_recv hKc hPc (ci := 6) (q0 := 0) rfl rfl, fun U hU hW => ⟨rfl, pPre_at hPc hKc hDc hE hS hFc U hU hW⟩⟩ rfl rfl hl.1 rfl (lv_room (Nat.le_of_ble_eq_true rfl)) dX11_number_32 ⟨Nat.le_of_ble_eq_true rfl, Nat.le_of_ble_eq_true rfl⟩) hS (fun q _ h => hFc q h) hFc (fun r3 u6 t H1 locs ht hvm hw hB hz1 hk1 hS => ?_)
  obtain ⟨y4, y5, hP1, hK1, hD1⟩ := hB
  rw [ht] at hP1
  have hK1 := va_K.moved hvm.symm hK1
  obtain ⟨hP, hD⟩ := va_join (wr := [(h0, .inr (12, [.ref ma, .ref rn, .ref ef, .ref ck, .ref tr, .int 0, .int 0, .int 0, .int 0, .long 0])), (ma, .inr (7, [.ref fi, .ref se, .ref ce, .ref pr, .ref di, .ref dr, .ref li, .ref ru, .ref ba, .int 1000, .int 0, .int 0, .int 0, .int 0, .int 0, .int 0]))]) (w1 := [(li, .inr (6, [.ref so, .ref va, .int 1, .int 0])), (so, .inl (cC, 40, .inl y4)), (va, .inl (cD, 40, .inl y5))]) hP hD [4, 2, 3] [0, 1] rfl rfl (by decide) (by decide) hk1 hFc hP1 hD1
  have hK := hK.app hK1
  generalize H1 = H at hP hS ⊢
  have hP : va_P (dC, dI) pcl [(h0, .inr (12, [.ref ma, .ref rn, .ref ef, .ref ck, .ref tr, .int 0, .int 0, .int 0, .int 0, .long 0])), (ma, .inr (7, [.ref fi, .ref se, .ref ce, .ref pr, .ref di, .ref dr, .ref li, .ref ru, .ref ba, .int 1000, .int 0, .int 0, .int 0, .int 0, .int 0, .int 0])), (li, .inr (6, [.ref so, .ref va, .int 1, .int 0])), (so, .inl (cC, 40, .inl y4)), (va, .inl (cD, 40, .inl y5))] H := hP
  have hD : va_D A [(h0, .inr (12, [.ref ma, .ref rn, .ref ef, .ref ck, .ref tr, .int 0, .int 0, .int 0, .int 0, .long 0])), (ma, .inr (7, [.ref fi, .ref se, .ref ce, .ref pr, .ref di, .ref dr, .ref li, .ref ru, .ref ba, .int 1000, .int 0, .int 0, .int 0, .int 0, .int 0, .int 0])), (li, .inr (6, [.ref so, .ref va, .int 1, .int 0])), (so, .inl (cC, 40, .inl y4)), (va, .inl (cD, 40, .inl y5))] := hD
  have hK : va_K (dC, dI) pcl [(cC, .int), (cD, .int), (cC, .int), (cD, .int)] s := hK
  have hK := hK.sub (tys' := [(cC, .int), (cD, .int)]) [0, 1] rfl
  subst hw
  have hP9 := hP.sub (ws' := [(h0, .inr (12, [.ref ma, .ref rn, .ref ef, .ref ck, .ref tr, .int 0, .int 0, .int 0, .int 0, .long 0])), (ma, .inr (7, [.ref fi, .ref se, .ref ce, .ref pr, .ref di, .ref dr, .ref li, .ref ru, .ref ba, .int 1000, .int 0, .int 0, .int 0, .int 0, .int 0, .int 0])), (li, .inr (6, [.ref so, .ref va, .int 1, .int 0])), (so, .inl (cC, 40, .inl y4)), (va, .inl (cD, 40, .inl y5))]) [0, 1, 2, 3, 4] rfl
  have hD9 := hD.sub (ws' := [(h0, .inr (12, [.ref ma, .ref rn, .ref ef, .ref ck, .ref tr, .int 0, .int 0, .int 0, .int 0, .long 0])), (ma, .inr (7, [.ref fi, .ref se, .ref ce, .ref pr, .ref di, .ref dr, .ref li, .ref ru, .ref ba, .int 1000, .int 0, .int 0, .int 0, .int 0, .int 0, .int 0])), (li, .inr (6, [.ref so, .ref va, .int 1, .int 0])), (so, .inl (cC, 40, .inl y4)), (va, .inl (cD, 40, .inl y5))]) [0, 1, 2, 3, 4] (by decide) rfl
  have hK9 := hK.sub (tys' := [(cC, .int), (cD, .int)]) [0, 1] rfl
  refine W.widen (k := 0) (n := 0) (Nat.le_of_ble_eq_true rfl) (Nat.le_of_ble_eq_true rfl) ?_
  exact W.iret (v := 1) hx hb hr (fun t ht hW => ⟨⟨1, (), rfl, rfl, y4, y5, by rw [ht]; exact hP9, va_K.moved hW.alike hK9, hD9⟩, hS.F ht⟩) hS.2.2 dX11_number_35
