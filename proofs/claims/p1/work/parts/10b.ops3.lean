set_option maxHeartbeats 4000000 in
set_option maxRecDepth 100000 in
theorem c_X11_error (l : Launch) (hfl : l.stackTraces = false) (dC : Nat → ClassId) (dI : Nat → Nat → Nat) (z : pG) (h0 : Nat) (ma : Nat) (rn : Nat) (ef : Nat) (ck : Nat) (tr : Nat) (sz : Nat) : vx_Met l yX11_error (ws_ yX11_error cX11_error 1 (some .int)) ({ frames := 6, cells := 1, slots := 6, locals := 82 }) (va_Pc [.ref h0] (pPre z dC dI [(h0, .inr (12, [.ref ma, .ref rn, .ref ef, .ref ck, .ref tr, .int 0, .int 0, .int 0, .int 0, .long 0]))] [] sz)) (va_Qi (fun (_ : Int32) (_ : Unit) => False) (fun _ _ => True) (va_A [(h0, .inr (12, [.ref ma, .ref rn, .ref ef, .ref ck, .ref tr, .int 0, .int 0, .int 0, .int 0, .long 0]))] sz)) (vx_X (fun (_ : Unit) => True) (fun E _ _ => E = "java/util/NoSuchElementException") (va_A [(h0, .inr (12, [.ref ma, .ref rn, .ref ef, .ref ck, .ref tr, .int 0, .int 0, .int 0, .int 0, .long 0]))] sz)) 1 6 (va_A [(h0, .inr (12, [.ref ma, .ref rn, .ref ef, .ref ck, .ref tr, .int 0, .int 0, .int 0, .int 0, .long 0]))] sz) := by
  refine vx_ofW (cc := cX11_error) (maxL := 1) (ret := (some .int)) (by decide) rfl ?_
  intro p e s m args below meth c s₁ B hml ht9 hv
  obtain ⟨rfl, hsz, hP, hK, hD0, hE⟩ := hv
  have hx := B.exec
  have hb := B.bytes
  have hr := B.returns
  have hts0 := atoms_spec (ws := ws_ yX11_error cX11_error 1 (some .int)) B.pre
  have hts := fun (w : Cond) (h : w ∈ pw) => hts0 w (List.mem_cons_of_mem _ h)
  have hown : s.vm.findClass RX11 = some m.cls := findClass_of_methodNamed B.named
  have hlocks := B.notSynchronized
  subst hsz
  have hD := hD0.self (sz := s.heap.size)
  generalize hAe : va_A [(h0, .inr (12, [.ref ma, .ref rn, .ref ef, .ref ck, .ref tr, .int 0, .int 0, .int 0, .int 0, .long 0]))] s.heap.size = A at hD hE ⊢
  have hA : ∀ q : Nat, s.heap.size ≤ q → A q := fun q h => by rw [← hAe]; exact Or.inr h
  have hS : va_S A s.heap s.heap [] := va_S.rf
  have hN := hE.1
  have hP : va_P (dC, dI) pcl [(h0, .inr (12, [.ref ma, .ref rn, .ref ef, .ref ck, .ref tr, .int 0, .int 0, .int 0, .int 0, .long 0]))] s.heap := hP
  have hl := lv_entry ([.ref h0]) (n := 1) (Nat.le_of_ble_eq_true rfl)
  rw [lg_entry_eq]
  generalize (lg_sl ([.ref h0]) ++ List.replicate (1 - (lg_sl ([.ref h0])).length) Slot.unset).toArray = ls at hl ⊢
  have hl : lv_has ls 1 [(0, .ref h0)] := hl
  obtain ⟨H, hH0⟩ : ∃ H, H = s.heap := ⟨_, rfl⟩
  rw [← hH0] at hP ⊢
  have hS : va_S A s.heap H [] := by rw [hH0]; exact hS
  refine lv_aload_n hx hb dX11_error_0 rfl (lv_at hl 0 rfl) ?_
  refine va_get (D := (dC, dI)) (ci := 12) (v := .int 0) (C := RX11) (T := TX11) (N := 10) hx hb hts pinX11 hown hK hP 0 rfl rfl 6 (by decide) (hts _ e159) (fun _ h9 => h9) rfl dX11_error_1 ?_
  refine lv_if_ne (tgt := 17) hx hb dX11_error_4 (by decide) (fun h9 => absurd (by decide) h9) (fun _ => ?_)
  obtain ⟨sa, hstr⟩ := hE.2.2.2.2.2.2.2.2.1 (RX11, 146, "the last line had no error") (List.mem_of_getElem? (i := 3) rfl)
  exact px_throwS hx hb hfl (own := RX11) (cls := "java/util/NoSuchElementException") (text := "the last line had no error") (names := ["java/lang/Exception"]) (Y9 := "java/lang/RuntimeException") (ix := 13) (rx := prog_56_method_4_code) (by decide +kernel) (by decide +kernel) (by decide +kernel) (by decide +kernel) (by decide +kernel) hown (by decide +kernel) (by decide +kernel) (hts _ e162) (hts _ e163) hstr (xat5 hts hN) xgood5 hE.2.1 hE.2.2.1 hS (hl.1.trans hml.symm) dX11_error_7 dX11_error_10 dX11_error_11 dX11_error_13 dX11_error_16 (fun x9 h9 => (ht9 x9 h9).elim) (Nat.le_of_ble_eq_true rfl) (Nat.le_of_ble_eq_true rfl) (Nat.le_of_ble_eq_true rfl) (Nat.le_of_ble_eq_true rfl) hlocks (fun t _ h1 h2 => ⟨(), trivial, rfl, p_FX hS h1 h2⟩) hS.2.2 (Nat.le_of_ble_eq_true rfl) (Nat.le_of_ble_eq_true rfl)
set_option maxHeartbeats 4000000 in
set_option maxRecDepth 100000 in
theorem c_X11_find (l : Launch) (hfl : l.stackTraces = false) (dC : Nat → ClassId) (dI : Nat → Nat → Nat) (z : pG) (h0 : Nat) (ma : Nat) (rn : Nat) (ef : Nat) (ck : Nat) (tr : Nat) (fi : Nat) (se : Nat) (ce : Nat) (pr : Nat) (di : Nat) (dr : Nat) (li : Nat) (ru : Nat) (ba : Nat) (g1 : Nat) (g2 : Nat) (g3 : Nat) (g4 : Nat) (g5 : Nat) (g6 : Nat) (g7 : Nat) (g8 : Nat) (g9 : Nat) (g10 : Nat) (n : Int32) (sz : Nat) : vx_Met l yX11_find (ws_ yX11_find cX11_find 3 (some .int)) ({ frames := 6, cells := 1, slots := 6, locals := 82 }) (va_Pc [.ref h0, .int n] (pPre z dC dI [(h0, .inr (12, [.ref ma, .ref rn, .ref ef, .ref ck, .ref tr, .int 0, .int 0, .int 0, .int 0, .long 0])), (ma, .inr (7, [.ref fi, .ref se, .ref ce, .ref pr, .ref di, .ref dr, .ref li, .ref ru, .ref ba, .int 1000, .int 0, .int 0, .int 0, .int 0, .int 0, .int 0])), (di, .inr (2, [.ref g1, .ref g2, .ref g3, .ref g4, .ref g5, .ref g6, .ref g7, .ref g8, .ref g9, .ref g10, .int 0, .int 0, .int 0]))] [] sz)) (va_Qi (fun (_ : Int32) (_ : Unit) => False) (fun _ _ => True) (va_A [(h0, .inr (12, [.ref ma, .ref rn, .ref ef, .ref ck, .ref tr, .int 0, .int 0, .int 0, .int 0, .long 0])), (ma, .inr (7, [.ref fi, .ref se, .ref ce, .ref pr, .ref di, .ref dr, .ref li, .ref ru, .ref ba, .int 1000, .int 0, .int 0, .int 0, .int 0, .int 0, .int 0])), (di, .inr (2, [.ref g1, .ref g2, .ref g3, .ref g4, .ref g5, .ref g6, .ref g7, .ref g8, .ref g9, .ref g10, .int 0, .int 0, .int 0]))] sz)) (vx_X (fun (_ : Unit) => True) (fun E _ _ => (E = "java/lang/IllegalArgumentException" ∧ (n < 0 ∨ ¬ n < 16)) ∨ (E = "java/util/NoSuchElementException" ∧ (¬ n < 0 ∧ n < 16))) (va_A [(h0, .inr (12, [.ref ma, .ref rn, .ref ef, .ref ck, .ref tr, .int 0, .int 0, .int 0, .int 0, .long 0])), (ma, .inr (7, [.ref fi, .ref se, .ref ce, .ref pr, .ref di, .ref dr, .ref li, .ref ru, .ref ba, .int 1000, .int 0, .int 0, .int 0, .int 0, .int 0, .int 0])), (di, .inr (2, [.ref g1, .ref g2, .ref g3, .ref g4, .ref g5, .ref g6, .ref g7, .ref g8, .ref g9, .ref g10, .int 0, .int 0, .int 0]))] sz)) 1 6 (va_A [(h0, .inr (12, [.ref ma, .ref rn, .ref ef, .ref ck, .ref tr, .int 0, .int 0, .int 0, .int 0, .long 0])), (ma, .inr (7, [.ref fi, .ref se, .ref ce, .ref pr, .ref di, .ref dr, .ref li, .ref ru, .ref ba, .int 1000, .int 0, .int 0, .int 0, .int 0, .int 0, .int 0])), (di, .inr (2, [.ref g1, .ref g2, .ref g3, .ref g4, .ref g5, .ref g6, .ref g7, .ref g8, .ref g9, .ref g10, .int 0, .int 0, .int 0]))] sz) := by
  refine vx_ofW (cc := cX11_find) (maxL := 3) (ret := (some .int)) (by decide) rfl ?_
  intro p e s m args below meth c s₁ B hml ht9 hv
  obtain ⟨rfl, hsz, hP, hK, hD0, hE⟩ := hv
  have hx := B.exec
  have hb := B.bytes
  have hr := B.returns
  have hts0 := atoms_spec (ws := ws_ yX11_find cX11_find 3 (some .int)) B.pre
  have hts := fun (w : Cond) (h : w ∈ pw) => hts0 w (List.mem_cons_of_mem _ h)
  have hown : s.vm.findClass RX11 = some m.cls := findClass_of_methodNamed B.named
  have hlocks := B.notSynchronized
  subst hsz
  have hD := hD0.self (sz := s.heap.size)
  generalize hAe : va_A [(h0, .inr (12, [.ref ma, .ref rn, .ref ef, .ref ck, .ref tr, .int 0, .int 0, .int 0, .int 0, .long 0])), (ma, .inr (7, [.ref fi, .ref se, .ref ce, .ref pr, .ref di, .ref dr, .ref li, .ref ru, .ref ba, .int 1000, .int 0, .int 0, .int 0, .int 0, .int 0, .int 0])), (di, .inr (2, [.ref g1, .ref g2, .ref g3, .ref g4, .ref g5, .ref g6, .ref g7, .ref g8, .ref g9, .ref g10, .int 0, .int 0, .int 0]))] s.heap.size = A at hD hE ⊢
  have hA : ∀ q : Nat, s.heap.size ≤ q → A q := fun q h => by rw [← hAe]; exact Or.inr h
  have hS : va_S A s.heap s.heap [] := va_S.rf
  have hN := hE.1
  have hP : va_P (dC, dI) pcl [(h0, .inr (12, [.ref ma, .ref rn, .ref ef, .ref ck, .ref tr, .int 0, .int 0, .int 0, .int 0, .long 0])), (ma, .inr (7, [.ref fi, .ref se, .ref ce, .ref pr, .ref di, .ref dr, .ref li, .ref ru, .ref ba, .int 1000, .int 0, .int 0, .int 0, .int 0, .int 0, .int 0])), (di, .inr (2, [.ref g1, .ref g2, .ref g3, .ref g4, .ref g5, .ref g6, .ref g7, .ref g8, .ref g9, .ref g10, .int 0, .int 0, .int 0]))] s.heap := hP
  have hl := lv_entry ([.ref h0, .int n]) (n := 3) (Nat.le_of_ble_eq_true rfl)
  rw [lg_entry_eq]
  generalize (lg_sl ([.ref h0, .int n]) ++ List.replicate (3 - (lg_sl ([.ref h0, .int n])).length) Slot.unset).toArray = ls at hl ⊢
  have hl : lv_has ls 3 [(0, .ref h0), (1, .int n)] := hl
  obtain ⟨H, hH0⟩ : ∃ H, H = s.heap := ⟨_, rfl⟩
  rw [← hH0] at hP ⊢
  have hS : va_S A s.heap H [] := by rw [hH0]; exact hS
  refine lv_iload_n hx hb dX11_find_0 rfl (lv_at hl 1 rfl) ?_
  refine lv_if_lt (tgt := 10) hx hb dX11_find_1 (by decide) (fun k1 => ?_) (fun k1 => ?_)
  · obtain ⟨sa, hstr⟩ := hE.2.2.2.2.2.2.2.2.1 (RX11, 87, "there is no such name") (List.mem_of_getElem? (i := 2) rfl)
    exact vx_throwS hx hb hfl (own := RX11) (cls := "java/lang/IllegalArgumentException") (text := "there is no such name") (names := xnames) hown (by decide +kernel) (by decide +kernel) (hts _ e141) (hts _ e142) hstr (xat0 hts hN) xgood0 hE.2.1 hE.2.2.1 hS (hl.1.trans hml.symm) dX11_find_10 dX11_find_13 dX11_find_14 dX11_find_16 dX11_find_19 (fun x9 h9 => (ht9 x9 h9).elim) (Nat.le_of_ble_eq_true rfl) (Nat.le_of_ble_eq_true rfl) (Nat.le_of_ble_eq_true rfl) (Nat.le_of_ble_eq_true rfl) hlocks (fun t _ h1 h2 => ⟨(), trivial, Or.inl ⟨rfl, Or.inl k1⟩, p_FX hS h1 h2⟩) hS.2.2 (Nat.le_of_ble_eq_true rfl) (Nat.le_of_ble_eq_true rfl)
  · refine lv_iload_n hx hb dX11_find_4 rfl (lv_at hl 1 rfl) ?_
    refine lv_bipush (v := 16) hx hb dX11_find_5 (by decide) ?_
    refine lv_icmp_lt (tgt := 20) hx hb dX11_find_7 (by decide) (fun k2 => ?_) (fun k2 => ?_)
    · refine lv_aload_n hx hb dX11_find_20 rfl (lv_at hl 0 rfl) ?_
      refine va_get (D := (dC, dI)) (ci := 12) (v := .ref ma) (C := RX11) (T := TX11) (N := 10) hx hb hts pinX11 hown hK hP 0 rfl rfl 0 (by decide) (hts _ e120) (fun _ h9 => h9) rfl dX11_find_21 ?_
      refine va_getN (D := (dC, dI)) (ci := 7) (v := .ref di) (C := RX6) (T := TX6) (N := 16) hx hb hts pinX6 hown hK hP 1 rfl rfl 4 (by decide) (va_Nw.use rfl (hN _ n13)) (fun _ h9 => h9) rfl dX11_find_24 ?_
      refine lv_iload_n hx hb dX11_find_27 rfl (lv_at hl 1 rfl) ?_
      have hPc := hP.sub (ws' := [(di, .inr (2, [.ref g1, .ref g2, .ref g3, .ref g4, .ref g5, .ref g6, .ref g7, .ref g8, .ref g9, .ref g10, .int 0, .int 0, .int 0]))]) [2] rfl
      have hDc := hD.sub (ws' := [(di, .inr (2, [.ref g1, .ref g2, .ref g3, .ref g4, .ref g5, .ref g6, .ref g7, .ref g8, .ref g9, .ref g10, .int 0, .int 0, .int 0]))]) [2] (by decide) rfl
      have hKc := hK.sub (tys' := []) [] rfl
      have hFc := va_free (wc := [(di, .inr (2, [.ref g1, .ref g2, .ref g3, .ref g4, .ref g5, .ref g6, .ref g7, .ref g8, .ref g9, .ref g10, .int 0, .int 0, .int 0]))]) hD hS hA [2] rfl
      refine va_calli (va_runVN (As := [.int n]) (rest := []) ⟨hx, hb, hml, hown, hts⟩ (c_X1_search l dC dI z di g1 g2 g3 g4 g5 g6 g7 g8 g9 g10 n H.size) ⟨va_cnB 1 hts (ws_good e167) rfl rfl rfl (hN _ n37) (hts _ e20) ⟨by decide +kernel, by decide +kernel, by decide +kernel⟩ ⟨Nat.le_of_ble_eq_true rfl, Nat.le_of_ble_eq_true rfl⟩, (hts _ e166), (hts _ e168)⟩ ⟨pPre_blind, va_recv hKc hPc (ci := 2) (q0 := 0) rfl rfl, fun U hU hW => ⟨rfl, pPre_at hPc hKc hDc hE hS hFc U hU hW⟩⟩ rfl rfl hl.1 rfl (lv_room (Nat.le_of_ble_eq_true rfl)) dX11_find_28 ⟨Nat.le_of_ble_eq_true rfl, Nat.le_of_ble_eq_true rfl⟩) hS (fun q _ h => hFc q h) hFc (fun r3 u4 t H1 locs ht hvm hw hB hz1 hk1 hS => ?_)
      obtain ⟨hP1, hK1, hD1⟩ := hB
      rw [ht] at hP1
      have hK1 := va_K.moved hvm.symm hK1
      obtain ⟨hP, hD⟩ := va_join (wr := [(h0, .inr (12, [.ref ma, .ref rn, .ref ef, .ref ck, .ref tr, .int 0, .int 0, .int 0, .int 0, .long 0])), (ma, .inr (7, [.ref fi, .ref se, .ref ce, .ref pr, .ref di, .ref dr, .ref li, .ref ru, .ref ba, .int 1000, .int 0, .int 0, .int 0, .int 0, .int 0, .int 0]))]) (w1 := [(di, .inr (2, [.ref g1, .ref g2, .ref g3, .ref g4, .ref g5, .ref g6, .ref g7, .ref g8, .ref g9, .ref g10, .int 0, .int 0, .int 0]))]) hP hD [2] [0, 1] rfl rfl (by decide) (by decide) hk1 hFc hP1 hD1
      have hK := hK.app hK1
      generalize H1 = H at hP hS ⊢
      have hP : va_P (dC, dI) pcl [(h0, .inr (12, [.ref ma, .ref rn, .ref ef, .ref ck, .ref tr, .int 0, .int 0, .int 0, .int 0, .long 0])), (ma, .inr (7, [.ref fi, .ref se, .ref ce, .ref pr, .ref di, .ref dr, .ref li, .ref ru, .ref ba, .int 1000, .int 0, .int 0, .int 0, .int 0, .int 0, .int 0])), (di, .inr (2, [.ref g1, .ref g2, .ref g3, .ref g4, .ref g5, .ref g6, .ref g7, .ref g8, .ref g9, .ref g10, .int 0, .int 0, .int 0]))] H := hP
      have hD : va_D A [(h0, .inr (12, [.ref ma, .ref rn, .ref ef, .ref ck, .ref tr, .int 0, .int 0, .int 0, .int 0, .long 0])), (ma, .inr (7, [.ref fi, .ref se, .ref ce, .ref pr, .ref di, .ref dr, .ref li, .ref ru, .ref ba, .int 1000, .int 0, .int 0, .int 0, .int 0, .int 0, .int 0])), (di, .inr (2, [.ref g1, .ref g2, .ref g3, .ref g4, .ref g5, .ref g6, .ref g7, .ref g8, .ref g9, .ref g10, .int 0, .int 0, .int 0]))] := hD
      have hK : va_K (dC, dI) pcl [] s := hK
      subst hw
      refine lv_istore_n (lv' := [(2, .int (-1)), (0, .ref h0), (1, .int n)]) hx hb dX11_find_31 rfl hl (by decide) rfl (fun ls hl => ?_)
      refine lv_iload_n hx hb dX11_find_32 rfl (lv_at hl 0 rfl) ?_
      refine lv_iconst (v := (-1)) hx hb dX11_find_33 (by decide) ?_
      refine lv_icmp_ne (tgt := 47) hx hb dX11_find_34 (by decide) (fun h9 => absurd (by decide) h9) (fun _ => ?_)
      obtain ⟨sa, hstr⟩ := hE.2.2.2.2.2.2.2.2.1 (RX11, 218, "the name is not found") (List.mem_of_getElem? (i := 9) rfl)
      exact px_throwS hx hb hfl (own := RX11) (cls := "java/util/NoSuchElementException") (text := "the name is not found") (names := ["java/lang/Exception"]) (Y9 := "java/lang/RuntimeException") (ix := 13) (rx := prog_56_method_4_code) (by decide +kernel) (by decide +kernel) (by decide +kernel) (by decide +kernel) (by decide +kernel) hown (by decide +kernel) (by decide +kernel) (hts _ e162) (hts _ e163) hstr (xat5 hts hN) xgood5 hE.2.1 hE.2.2.1 hS (hl.1.trans hml.symm) dX11_find_37 dX11_find_40 dX11_find_41 dX11_find_43 dX11_find_46 (fun x9 h9 => (ht9 x9 h9).elim) (Nat.le_of_ble_eq_true rfl) (Nat.le_of_ble_eq_true rfl) (Nat.le_of_ble_eq_true rfl) (Nat.le_of_ble_eq_true rfl) hlocks (fun t _ h1 h2 => ⟨(), trivial, Or.inr ⟨rfl, ⟨k1, k2⟩⟩, p_FX hS h1 h2⟩) hS.2.2 (Nat.le_of_ble_eq_true rfl) (Nat.le_of_ble_eq_true rfl)
    · obtain ⟨sa, hstr⟩ := hE.2.2.2.2.2.2.2.2.1 (RX11, 87, "there is no such name") (List.mem_of_getElem? (i := 2) rfl)
      exact vx_throwS hx hb hfl (own := RX11) (cls := "java/lang/IllegalArgumentException") (text := "there is no such name") (names := xnames) hown (by decide +kernel) (by decide +kernel) (hts _ e141) (hts _ e142) hstr (xat0 hts hN) xgood0 hE.2.1 hE.2.2.1 hS (hl.1.trans hml.symm) dX11_find_10 dX11_find_13 dX11_find_14 dX11_find_16 dX11_find_19 (fun x9 h9 => (ht9 x9 h9).elim) (Nat.le_of_ble_eq_true rfl) (Nat.le_of_ble_eq_true rfl) (Nat.le_of_ble_eq_true rfl) (Nat.le_of_ble_eq_true rfl) hlocks (fun t _ h1 h2 => ⟨(), trivial, Or.inl ⟨rfl, Or.inr k2⟩, p_FX hS h1 h2⟩) hS.2.2 (Nat.le_of_ble_eq_true rfl) (Nat.le_of_ble_eq_true rfl)
