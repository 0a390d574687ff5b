set_option maxHeartbeats 4000000 in
set_option maxRecDepth 100000 in
theorem c_X11_word (l : Launch) (hfl : l.stackTraces = false) (dC : Nat → ClassId) (dI : Nat → Nat → Nat) (z : pG) (h0 : Nat) (ma : Nat) (rn : Nat) (ef : Nat) (ck : Nat) (tr : Nat) (fi : Nat) (se : Nat) (ce : Nat) (pr : Nat) (di : Nat) (dr : Nat) (li : Nat) (ru : Nat) (ba : Nat) (so : Nat) (va : Nat) (cC : ClassId) (cD : ClassId) (c9 : Int32) (sz : Nat) : vx_Met l yX11_word (ws_ yX11_word cX11_word 2 (some .int)) ({ frames := 6, cells := 1, slots := 6, locals := 91 }) (va_Pc [.ref h0, .int c9] (pPre z dC dI [(h0, .inr (12, [.ref ma, .ref rn, .ref ef, .ref ck, .ref tr, .int 0, .int 0, .int 0, .int 0, .long 0])), (ma, .inr (7, [.ref fi, .ref se, .ref ce, .ref pr, .ref di, .ref dr, .ref li, .ref ru, .ref ba, .int 1000, .int 0, .int 0, .int 0, .int 0, .int 0, .int 0])), (li, .inr (6, [.ref so, .ref va, .int 0, .int 0])), (so, .inl (cC, 40, .inl (fun _ => 0))), (va, .inl (cD, 40, .inl (fun _ => 0)))] [(cC, .int), (cD, .int)] sz)) (va_Qi (fun (r : Int32) (_ : Unit) => (r = 1 ∧ ¬ (pNo 0 c9 ∧ pNo 1 c9))) (fun _ t => ∃ (f1 : Nat → Int32) (f2 : Nat → Int32), pPost dC dI (va_A [(h0, .inr (12, [.ref ma, .ref rn, .ref ef, .ref ck, .ref tr, .int 0, .int 0, .int 0, .int 0, .long 0])), (ma, .inr (7, [.ref fi, .ref se, .ref ce, .ref pr, .ref di, .ref dr, .ref li, .ref ru, .ref ba, .int 1000, .int 0, .int 0, .int 0, .int 0, .int 0, .int 0])), (li, .inr (6, [.ref so, .ref va, .int 0, .int 0])), (so, .inl (cC, 40, .inl (fun _ => 0))), (va, .inl (cD, 40, .inl (fun _ => 0)))] sz) [(h0, .inr (12, [.ref ma, .ref rn, .ref ef, .ref ck, .ref tr, .int 0, .int 0, .int 0, .int 0, .long 0])), (ma, .inr (7, [.ref fi, .ref se, .ref ce, .ref pr, .ref di, .ref dr, .ref li, .ref ru, .ref ba, .int 1000, .int 0, .int 0, .int 0, .int 0, .int 0, .int 0])), (li, .inr (6, [.ref so, .ref va, .int 1, .int 0])), (so, .inl (cC, 40, .inl f1)), (va, .inl (cD, 40, .inl f2))] [(cC, .int), (cD, .int)] t) (va_A [(h0, .inr (12, [.ref ma, .ref rn, .ref ef, .ref ck, .ref tr, .int 0, .int 0, .int 0, .int 0, .long 0])), (ma, .inr (7, [.ref fi, .ref se, .ref ce, .ref pr, .ref di, .ref dr, .ref li, .ref ru, .ref ba, .int 1000, .int 0, .int 0, .int 0, .int 0, .int 0, .int 0])), (li, .inr (6, [.ref so, .ref va, .int 0, .int 0])), (so, .inl (cC, 40, .inl (fun _ => 0))), (va, .inl (cD, 40, .inl (fun _ => 0)))] sz)) (vx_X (fun (_ : Unit) => True) (fun E _ _ => E = "java/lang/IllegalArgumentException" ∧ (pNo 0 c9 ∧ pNo 1 c9)) (va_A [(h0, .inr (12, [.ref ma, .ref rn, .ref ef, .ref ck, .ref tr, .int 0, .int 0, .int 0, .int 0, .long 0])), (ma, .inr (7, [.ref fi, .ref se, .ref ce, .ref pr, .ref di, .ref dr, .ref li, .ref ru, .ref ba, .int 1000, .int 0, .int 0, .int 0, .int 0, .int 0, .int 0])), (li, .inr (6, [.ref so, .ref va, .int 0, .int 0])), (so, .inl (cC, 40, .inl (fun _ => 0))), (va, .inl (cD, 40, .inl (fun _ => 0)))] sz)) 1 6 (va_A [(h0, .inr (12, [.ref ma, .ref rn, .ref ef, .ref ck, .ref tr, .int 0, .int 0, .int 0, .int 0, .long 0])), (ma, .inr (7, [.ref fi, .ref se, .ref ce, .ref pr, .ref di, .ref dr, .ref li, .ref ru, .ref ba, .int 1000, .int 0, .int 0, .int 0, .int 0, .int 0, .int 0])), (li, .inr (6, [.ref so, .ref va, .int 0, .int 0])), (so, .inl (cC, 40, .inl (fun _ => 0))), (va, .inl (cD, 40, .inl (fun _ => 0)))] sz) := by
  refine vx_ofW (cc := cX11_word) (maxL := 2) (ret := (some .int)) (by decide) rfl ?_
  intro p e s m args below meth c s₁ B hml ht9 hv
  obtain ⟨rfl, hsz, hP, hK, hD0, hE⟩ := hv
  have hx := B.exec
  have hb := B.bytes
  have hr := B.returns
  have hts0 := atoms_spec (ws := ws_ yX11_word cX11_word 2 (some .int)) B.pre
  have hts := fun (w : Cond) (h : w ∈ pw) => hts0 w (List.mem_cons_of_mem _ h)
  have hown : s.vm.findClass RX11 = some m.cls := findClass_of_methodNamed B.named
  have hlocks := B.notSynchronized
  subst hsz
  have hD := hD0.self (sz := s.heap.size)
  generalize hAe : va_A [(h0, .inr (12, [.ref ma, .ref rn, .ref ef, .ref ck, .ref tr, .int 0, .int 0, .int 0, .int 0, .long 0])), (ma, .inr (7, [.ref fi, .ref se, .ref ce, .ref pr, .ref di, .ref dr, .ref li, .ref ru, .ref ba, .int 1000, .int 0, .int 0, .int 0, .int 0, .int 0, .int 0])), (li, .inr (6, [.ref so, .ref va, .int 0, .int 0])), (so, .inl (cC, 40, .inl (fun _ => 0))), (va, .inl (cD, 40, .inl (fun _ => 0)))] s.heap.size = A at hD hE ⊢
  have hA : ∀ q : Nat, s.heap.size ≤ q → A q := fun q h => by rw [← hAe]; exact Or.inr h
  have hS : va_S A s.heap s.heap [] := va_S.rf
  have hN := hE.1
  have hP : va_P (dC, dI) pcl [(h0, .inr (12, [.ref ma, .ref rn, .ref ef, .ref ck, .ref tr, .int 0, .int 0, .int 0, .int 0, .long 0])), (ma, .inr (7, [.ref fi, .ref se, .ref ce, .ref pr, .ref di, .ref dr, .ref li, .ref ru, .ref ba, .int 1000, .int 0, .int 0, .int 0, .int 0, .int 0, .int 0])), (li, .inr (6, [.ref so, .ref va, .int 0, .int 0])), (so, .inl (cC, 40, .inl (fun _ => 0))), (va, .inl (cD, 40, .inl (fun _ => 0)))] s.heap := hP
  have hl := lv_entry ([.ref h0, .int c9]) (n := 2) (Nat.le_of_ble_eq_true rfl)
  rw [lg_entry_eq]
  generalize (lg_sl ([.ref h0, .int c9]) ++ List.replicate (2 - (lg_sl ([.ref h0, .int c9])).length) Slot.unset).toArray = ls at hl ⊢
  have hl : lv_has ls 2 [(0, .ref h0), (1, .int c9)] := hl
  obtain ⟨H, hH0⟩ : ∃ H, H = s.heap := ⟨_, rfl⟩
  rw [← hH0] at hP ⊢
  have hS : va_S A s.heap H [] := by rw [hH0]; exact hS
  refine va_ldcS hx hb hown (hE.2.2.2.2.2.2.2.1 0 _ rfl) dX11_word_0 ?_
  refine lv_iload_n hx hb dX11_word_2 rfl (lv_at hl 1 rfl) ?_
  have hPc := hP.sub (ws' := []) [] rfl
  have hDc := hD.sub (ws' := []) [] (by decide) rfl
  have hKc := hK.sub (tys' := []) [] rfl
  have hFc := va_free (wc := []) hD hS hA [] rfl
  refine va_calli (va_runV (As := [.int c9]) (rest := []) ⟨hx, hb, hml, hown, hts⟩ (c_J0_indexOf_0f7a4 l dC dI z 0 c9 H.size (by decide)) (cwV 1 hts (ws_goodV e136 e137 e140 e138 e139) rfl rfl rfl ⟨rfl, by decide +kernel, by decide +kernel, by decide +kernel⟩ ⟨Nat.le_of_ble_eq_true rfl, Nat.le_of_ble_eq_true rfl⟩) ⟨pPre_blind, p_recv hE.2.2.2.2.2.2.1 (by decide) hS, fun U hU hW => ⟨rfl, pPre_at hPc hKc hDc hE hS hFc U hU hW⟩⟩ rfl rfl hl.1 rfl (lv_room (Nat.le_of_ble_eq_true rfl)) dX11_word_3 ⟨Nat.le_of_ble_eq_true rfl, Nat.le_of_ble_eq_true rfl⟩) hS (fun q _ h => hFc q h) hFc (fun r1 u2 t H1 locs ht hvm hw hB hz1 hk1 hS => ?_)
  obtain ⟨hP1, hK1, hD1⟩ := hB
  rw [ht] at hP1
  have hK1 := va_K.moved hvm.symm hK1
  obtain ⟨hP, hD⟩ := va_join (wr := [(h0, .inr (12, [.ref ma, .ref rn, .ref ef, .ref ck, .ref tr, .int 0, .int 0, .int 0, .int 0, .long 0])), (ma, .inr (7, [.ref fi, .ref se, .ref ce, .ref pr, .ref di, .ref dr, .ref li, .ref ru, .ref ba, .int 1000, .int 0, .int 0, .int 0, .int 0, .int 0, .int 0])), (li, .inr (6, [.ref so, .ref va, .int 0, .int 0])), (so, .inl (cC, 40, .inl (fun _ => 0))), (va, .inl (cD, 40, .inl (fun _ => 0)))]) (w1 := []) hP hD [] [0, 1, 2, 3, 4] rfl rfl (by decide) (by decide) hk1 hFc hP1 hD1
  have hK := hK.app hK1
  generalize H1 = H at hP hS ⊢
  have hP : va_P (dC, dI) pcl [(h0, .inr (12, [.ref ma, .ref rn, .ref ef, .ref ck, .ref tr, .int 0, .int 0, .int 0, .int 0, .long 0])), (ma, .inr (7, [.ref fi, .ref se, .ref ce, .ref pr, .ref di, .ref dr, .ref li, .ref ru, .ref ba, .int 1000, .int 0, .int 0, .int 0, .int 0, .int 0, .int 0])), (li, .inr (6, [.ref so, .ref va, .int 0, .int 0])), (so, .inl (cC, 40, .inl (fun _ => 0))), (va, .inl (cD, 40, .inl (fun _ => 0)))] H := hP
  have hD : va_D A [(h0, .inr (12, [.ref ma, .ref rn, .ref ef, .ref ck, .ref tr, .int 0, .int 0, .int 0, .int 0, .long 0])), (ma, .inr (7, [.ref fi, .ref se, .ref ce, .ref pr, .ref di, .ref dr, .ref li, .ref ru, .ref ba, .int 1000, .int 0, .int 0, .int 0, .int 0, .int 0, .int 0])), (li, .inr (6, [.ref so, .ref va, .int 0, .int 0])), (so, .inl (cC, 40, .inl (fun _ => 0))), (va, .inl (cD, 40, .inl (fun _ => 0)))] := hD
  have hK : va_K (dC, dI) pcl [(cC, .int), (cD, .int)] s := hK
  have hwr1 := hw
  refine lv_if_ge (tgt := 28) hx hb dX11_word_6 (by decide) (fun k3 => ?_) (fun k3 => ?_)
  · refine lv_aload_n hx hb dX11_word_28 rfl (lv_at hl 0 rfl) ?_
    refine va_get (D := (dC, dI)) (ci := 12) (v := .ref ma) (C := RX11) (T := TX11) (N := 10) hx hb hts pinX11 hown hK hP 0 rfl rfl 0 (by decide) (hts _ e120) (fun _ h9 => h9) rfl dX11_word_29 ?_
    refine va_getN (D := (dC, dI)) (ci := 7) (v := .ref li) (C := RX6) (T := TX6) (N := 16) hx hb hts pinX6 hown hK hP 1 rfl rfl 6 (by decide) (va_Nw.use rfl (hN _ n16)) (fun _ h9 => h9) rfl dX11_word_32 ?_
    have hPc := hP.sub (ws' := [(li, .inr (6, [.ref so, .ref va, .int 0, .int 0]))]) [2] rfl
    have hDc := hD.sub (ws' := [(li, .inr (6, [.ref so, .ref va, .int 0, .int 0]))]) [2] (by decide) rfl
    have hKc := hK.sub (tys' := []) [] rfl
    have hFc := va_free (wc := [(li, .inr (6, [.ref so, .ref va, .int 0, .int 0]))]) hD hS hA [2] rfl
    refine va_calli (va_runVN (As := []) (rest := []) ⟨hx, hb, hml, hown, hts⟩ (c_X5_isFull l dC dI z li so va H.size) ⟨va_cnB 0 hts (ws_good e144) rfl rfl rfl (hN _ n17) (hts _ e83) ⟨by decide +kernel, by decide +kernel, by decide +kernel⟩ ⟨Nat.le_of_ble_eq_true rfl, Nat.le_of_ble_eq_true rfl⟩, (hts _ e143), (hts _ e145)⟩ ⟨pPre_blind, va_recv hKc hPc (ci := 6) (q0 := 0) rfl rfl, fun U hU hW => ⟨rfl, pPre_at hPc hKc hDc hE hS hFc U hU hW⟩⟩ rfl rfl hl.1 rfl (lv_room (Nat.le_of_ble_eq_true rfl)) dX11_word_35 ⟨Nat.le_of_ble_eq_true rfl, Nat.le_of_ble_eq_true rfl⟩) hS (fun q _ h => hFc q h) hFc (fun r4 u5 t H1 locs ht hvm hw hB hz1 hk1 hS => ?_)
    obtain ⟨hP1, hK1, hD1⟩ := hB
    rw [ht] at hP1
    have hK1 := va_K.moved hvm.symm hK1
    obtain ⟨hP, hD⟩ := va_join (wr := [(h0, .inr (12, [.ref ma, .ref rn, .ref ef, .ref ck, .ref tr, .int 0, .int 0, .int 0, .int 0, .long 0])), (ma, .inr (7, [.ref fi, .ref se, .ref ce, .ref pr, .ref di, .ref dr, .ref li, .ref ru, .ref ba, .int 1000, .int 0, .int 0, .int 0, .int 0, .int 0, .int 0])), (so, .inl (cC, 40, .inl (fun _ => 0))), (va, .inl (cD, 40, .inl (fun _ => 0)))]) (w1 := [(li, .inr (6, [.ref so, .ref va, .int 0, .int 0]))]) hP hD [2] [0, 1, 3, 4] rfl rfl (by decide) (by decide) hk1 hFc hP1 hD1
    have hK := hK.app hK1
    generalize H1 = H at hP hS ⊢
    have hP : va_P (dC, dI) pcl [(h0, .inr (12, [.ref ma, .ref rn, .ref ef, .ref ck, .ref tr, .int 0, .int 0, .int 0, .int 0, .long 0])), (ma, .inr (7, [.ref fi, .ref se, .ref ce, .ref pr, .ref di, .ref dr, .ref li, .ref ru, .ref ba, .int 1000, .int 0, .int 0, .int 0, .int 0, .int 0, .int 0])), (so, .inl (cC, 40, .inl (fun _ => 0))), (va, .inl (cD, 40, .inl (fun _ => 0))), (li, .inr (6, [.ref so, .ref va, .int 0, .int 0]))] H := hP
    have hD : va_D A [(h0, .inr (12, [.ref ma, .ref rn, .ref ef, .ref ck, .ref tr, .int 0, .int 0, .int 0, .int 0, .long 0])), (ma, .inr (7, [.ref fi, .ref se, .ref ce, .ref pr, .ref di, .ref dr, .ref li, .ref ru, .ref ba, .int 1000, .int 0, .int 0, .int 0, .int 0, .int 0, .int 0])), (so, .inl (cC, 40, .inl (fun _ => 0))), (va, .inl (cD, 40, .inl (fun _ => 0))), (li, .inr (6, [.ref so, .ref va, .int 0, .int 0]))] := hD
    have hK : va_K (dC, dI) pcl [(cC, .int), (cD, .int)] s := hK
    subst hw
    refine lv_if_eq (tgt := 51) hx hb dX11_word_38 (by decide) (fun _ => ?_) (fun h9 => absurd (by decide) h9)
    refine lv_aload_n hx hb dX11_word_51 rfl (lv_at hl 0 rfl) ?_
    refine va_get (D := (dC, dI)) (ci := 12) (v := .ref ma) (C := RX11) (T := TX11) (N := 10) hx hb hts pinX11 hown hK hP 0 rfl rfl 0 (by decide) (hts _ e120) (fun _ h9 => h9) rfl dX11_word_52 ?_
    refine va_getN (D := (dC, dI)) (ci := 7) (v := .ref li) (C := RX6) (T := TX6) (N := 16) hx hb hts pinX6 hown hK hP 1 rfl rfl 6 (by decide) (va_Nw.use rfl (hN _ n16)) (fun _ h9 => h9) rfl dX11_word_55 ?_
    refine lv_iconst (v := 1) hx hb dX11_word_58 (by decide) ?_
    refine lv_iload_n hx hb dX11_word_59 rfl (lv_at hl 1 rfl) ?_
    have hPc := hP.sub (ws' := [(li, .inr (6, [.ref so, .ref va, .int 0, .int 0])), (so, .inl (cC, 40, .inl (fun _ => 0))), (va, .inl (cD, 40, .inl (fun _ => 0)))]) [4, 2, 3] rfl
    have hDc := hD.sub (ws' := [(li, .inr (6, [.ref so, .ref va, .int 0, .int 0])), (so, .inl (cC, 40, .inl (fun _ => 0))), (va, .inl (cD, 40, .inl (fun _ => 0)))]) [4, 2, 3] (by decide) rfl
    have hKc := hK.sub (tys' := [(cC, .int), (cD, .int)]) [0, 1] rfl
    have hFc := va_free (wc := [(li, .inr (6, [.ref so, .ref va, .int 0, .int 0])), (so, .inl (cC, 40, .inl (fun _ => 0))), (va, .inl (cD, 40, .inl (fun _ => 0)))]) hD hS hA [4, 2, 3] rfl
    refine va_calli (va_runVN (As := [.int 1, .int c9]) (rest := []) ⟨hx, hb, hml, hown, hts⟩ (c_X5_add l dC dI z li so va cC cD 1 c9 H.size) ⟨va_cnB 2 hts (ws_good e149) rfl rfl rfl (hN _ n18) (hts _ e83) ⟨by decide +kernel, by decide +kernel, by decide +kernel⟩ ⟨Nat.le_of_ble_eq_true rfl, Nat.le_of_ble_eq_true rfl⟩, (hts _ e148), (hts _ e150)⟩ ⟨pPre_blind, va_recv hKc hPc (ci := 6) (q0 := 0) rfl rfl, fun U hU hW => ⟨rfl, pPre_at hPc hKc hDc hE hS hFc U hU hW⟩⟩ rfl rfl hl.1 rfl (lv_room (Nat.le_of_ble_eq_true rfl)) dX11_word_60 ⟨Nat.le_of_ble_eq_true rfl, Nat.le_of_ble_eq_true rfl⟩) hS (fun q _ h => hFc q h) hFc (fun r6 u9 t H1 locs ht hvm hw hB hz1 hk1 hS => ?_)
    obtain ⟨y7, y8, hP1, hK1, hD1⟩ := hB
    rw [ht] at hP1
    have hK1 := va_K.moved hvm.symm hK1
    obtain ⟨hP, hD⟩ := va_join (wr := [(h0, .inr (12, [.ref ma, .ref rn, .ref ef, .ref ck, .ref tr, .int 0, .int 0, .int 0, .int 0, .long 0])), (ma, .inr (7, [.ref fi, .ref se, .ref ce, .ref pr, .ref di, .ref dr, .ref li, .ref ru, .ref ba, .int 1000, .int 0, .int 0, .int 0, .int 0, .int 0, .int 0]))]) (w1 := [(li, .inr (6, [.ref so, .ref va, .int 1, .int 0])), (so, .inl (cC, 40, .inl y7)), (va, .inl (cD, 40, .inl y8))]) hP hD [4, 2, 3] [0, 1] rfl rfl (by decide) (by decide) hk1 hFc hP1 hD1
    have hK := hK.app hK1
    generalize H1 = H at hP hS ⊢
    have hP : va_P (dC, dI) pcl [(h0, .inr (12, [.ref ma, .ref rn, .ref ef, .ref ck, .ref tr, .int 0, .int 0, .int 0, .int 0, .long 0])), (ma, .inr (7, [.ref fi, .ref se, .ref ce, .ref pr, .ref di, .ref dr, .ref li, .ref ru, .ref ba, .int 1000, .int 0, .int 0, .int 0, .int 0, .int 0, .int 0])), (li, .inr (6, [.ref so, .ref va, .int 1, .int 0])), (so, .inl (cC, 40, .inl y7)), (va, .inl (cD, 40, .inl y8))] H := hP
    have hD : va_D A [(h0, .inr (12, [.ref ma, .ref rn, .ref ef, .ref ck, .ref tr, .int 0, .int 0, .int 0, .int 0, .long 0])), (ma, .inr (7, [.ref fi, .ref se, .ref ce, .ref pr, .ref di, .ref dr, .ref li, .ref ru, .ref ba, .int 1000, .int 0, .int 0, .int 0, .int 0, .int 0, .int 0])), (li, .inr (6, [.ref so, .ref va, .int 1, .int 0])), (so, .inl (cC, 40, .inl y7)), (va, .inl (cD, 40, .inl y8))] := hD
    have hK : va_K (dC, dI) pcl [(cC, .int), (cD, .int), (cC, .int), (cD, .int)] s := hK
    have hK := hK.sub (tys' := [(cC, .int), (cD, .int)]) [0, 1] rfl
    subst hw
    have hP9 := hP.sub (ws' := [(h0, .inr (12, [.ref ma, .ref rn, .ref ef, .ref ck, .ref tr, .int 0, .int 0, .int 0, .int 0, .long 0])), (ma, .inr (7, [.ref fi, .ref se, .ref ce, .ref pr, .ref di, .ref dr, .ref li, .ref ru, .ref ba, .int 1000, .int 0, .int 0, .int 0, .int 0, .int 0, .int 0])), (li, .inr (6, [.ref so, .ref va, .int 1, .int 0])), (so, .inl (cC, 40, .inl y7)), (va, .inl (cD, 40, .inl y8))]) [0, 1, 2, 3, 4] rfl
    have hD9 := hD.sub (ws' := [(h0, .inr (12, [.ref ma, .ref rn, .ref ef, .ref ck, .ref tr, .int 0, .int 0, .int 0, .int 0, .long 0])), (ma, .inr (7, [.ref fi, .ref se, .ref ce, .ref pr, .ref di, .ref dr, .ref li, .ref ru, .ref ba, .int 1000, .int 0, .int 0, .int 0, .int 0, .int 0, .int 0])), (li, .inr (6, [.ref so, .ref va, .int 1, .int 0])), (so, .inl (cC, 40, .inl y7)), (va, .inl (cD, 40, .inl y8))]) [0, 1, 2, 3, 4] (by decide) rfl
    have hK9 := hK.sub (tys' := [(cC, .int), (cD, .int)]) [0, 1] rfl
    refine W.widen (k := 1) (n := 6) (Nat.le_of_ble_eq_true rfl) (Nat.le_of_ble_eq_true rfl) ?_
    refine vx_ret ?_
    exact W.iret (v := 1) hx hb hr (fun t ht hW => ⟨⟨1, (), rfl, ⟨rfl, fun h => Int32.not_lt.mpr k3 (hwr1.mpr h.1)⟩, y7, y8, by rw [ht]; exact hP9, va_K.moved hW.alike hK9, hD9⟩, hS.F ht⟩) hS.2.2 dX11_word_63
  · refine va_ldcS hx hb hown (hE.2.2.2.2.2.2.2.1 1 _ rfl) dX11_word_9 ?_
    refine lv_iload_n hx hb dX11_word_11 rfl (lv_at hl 1 rfl) ?_
    have hPc := hP.sub (ws' := []) [] rfl
    have hDc := hD.sub (ws' := []) [] (by decide) rfl
    have hKc := hK.sub (tys' := []) [] rfl
    have hFc := va_free (wc := []) hD hS hA [] rfl
    refine va_calli (va_runV (As := [.int c9]) (rest := []) ⟨hx, hb, hml, hown, hts⟩ (c_J0_indexOf_0f7a4 l dC dI z 1 c9 H.size (by decide)) (cwV 1 hts (ws_goodV e136 e137 e140 e138 e139) rfl rfl rfl ⟨rfl, by decide +kernel, by decide +kernel, by decide +kernel⟩ ⟨Nat.le_of_ble_eq_true rfl, Nat.le_of_ble_eq_true rfl⟩) ⟨pPre_blind, p_recv hE.2.2.2.2.2.2.1 (by decide) hS, fun U hU hW => ⟨rfl, pPre_at hPc hKc hDc hE hS hFc U hU hW⟩⟩ rfl rfl hl.1 rfl (lv_room (Nat.le_of_ble_eq_true rfl)) dX11_word_12 ⟨Nat.le_of_ble_eq_true rfl, Nat.le_of_ble_eq_true rfl⟩) hS (fun q _ h => hFc q h) hFc (fun r10 u11 t H1 locs ht hvm hw hB hz1 hk1 hS => ?_)
    obtain ⟨hP1, hK1, hD1⟩ := hB
    rw [ht] at hP1
    have hK1 := va_K.moved hvm.symm hK1
    obtain ⟨hP, hD⟩ := va_join (wr := [(h0, .inr (12, [.ref ma, .ref rn, .ref ef, .ref ck, .ref tr, .int 0, .int 0, .int 0, .int 0, .long 0])), (ma, .inr (7, [.ref fi, .ref se, .ref ce, .ref pr, .ref di, .ref dr, .ref li, .ref ru, .ref ba, .int 1000, .int 0, .int 0, .int 0, .int 0, .int 0, .int 0])), (li, .inr (6, [.ref so, .ref va, .int 0, .int 0])), (so, .inl (cC, 40, .inl (fun _ => 0))), (va, .inl (cD, 40, .inl (fun _ => 0)))]) (w1 := []) hP hD [] [0, 1, 2, 3, 4] rfl rfl (by decide) (by decide) hk1 hFc hP1 hD1
    have hK := hK.app hK1
    generalize H1 = H at hP hS ⊢
    have hP : va_P (dC, dI) pcl [(h0, .inr (12, [.ref ma, .ref rn, .ref ef, .ref ck, .ref tr, .int 0, .int 0, .int 0, .int 0, .long 0])), (ma, .inr (7, [.ref fi, .ref se, .ref ce, .ref pr, .ref di, .ref dr, .ref li, .ref ru, .ref ba, .int 1000, .int 0, .int 0, .int 0, .int 0, .int 0, .int 0])), (li, .inr (6, [.ref so, .ref va, .int 0, .int 0])), (so, .inl (cC, 40, .inl (fun _ => 0))), (va, .inl (cD, 40, .inl (fun _ => 0)))] H := hP
    have hD : va_D A [(h0, .inr (12, [.ref ma, .ref rn, .ref ef, .ref ck, .ref tr, .int 0, .int 0, .int 0, .int 0, .long 0])), (ma, .inr (7, [.ref fi, .ref se, .ref ce, .ref pr, .ref di, .ref dr, .ref li, .ref ru, .ref ba, .int 1000, .int 0, .int 0, .int 0, .int 0, .int 0, .int 0])), (li, .inr (6, [.ref so, .ref va, .int 0, .int 0])), (so, .inl (cC, 40, .inl (fun _ => 0))), (va, .inl (cD, 40, .inl (fun _ => 0)))] := hD
    have hK : va_K (dC, dI) pcl [(cC, .int), (cD, .int)] s := hK
    have hwr10 := hw
    refine lv_if_ge (tgt := 28) hx hb dX11_word_15 (by decide) (fun k12 => ?_) (fun k12 => ?_)
    · refine lv_aload_n hx hb dX11_word_28 rfl (lv_at hl 0 rfl) ?_
      refine va_get (D := (dC, dI)) (ci := 12) (v := .ref ma) (C := RX11) (T := TX11) (N := 10) hx hb hts pinX11 hown hK hP 0 rfl rfl 0 (by decide) (hts _ e120) (fun _ h9 => h9) rfl dX11_word_29 ?_
      refine va_getN (D := (dC, dI)) (ci := 7) (v := .ref li) (C := RX6) (T := TX6) (N := 16) hx hb hts pinX6 hown hK hP 1 rfl rfl 6 (by decide) (va_Nw.use rfl (hN _ n16)) (fun _ h9 => h9) rfl dX11_word_32 ?_
      have hPc := hP.sub (ws' := [(li, .inr (6, [.ref so, .ref va, .int 0, .int 0]))]) [2] rfl
      have hDc := hD.sub (ws' := [(li, .inr (6, [.ref so, .ref va, .int 0, .int 0]))]) [2] (by decide) rfl
      have hKc := hK.sub (tys' := []) [] rfl
      have hFc := va_free (wc := [(li, .inr (6, [.ref so, .ref va, .int 0, .int 0]))]) hD hS hA [2] rfl
      refine va_calli (va_runVN (As := []) (rest := []) ⟨hx, hb, hml, hown, hts⟩ (c_X5_isFull l dC dI z li so va H.size) ⟨va_cnB 0 hts (ws_good e144) rfl rfl rfl (hN _ n17) (hts _ e83) ⟨by decide +kernel, by decide +kernel, by decide +kernel⟩ ⟨Nat.le_of_ble_eq_true rfl, Nat.le_of_ble_eq_true rfl⟩, (hts _ e143), (hts _ e145)⟩ ⟨pPre_blind, va_recv hKc hPc (ci := 6) (q0 := 0) rfl rfl, fun U hU hW => ⟨rfl, pPre_at hPc hKc hDc hE hS hFc U hU hW⟩⟩ rfl rfl hl.1 rfl (lv_room (Nat.le_of_ble_eq_true rfl)) dX11_word_35 ⟨Nat.le_of_ble_eq_true rfl, Nat.le_of_ble_eq_true rfl⟩) hS (fun q _ h => hFc q h) hFc (fun r13 u14 t H1 locs ht hvm hw hB hz1 hk1 hS => ?_)
      obtain ⟨hP1, hK1, hD1⟩ := hB
      rw [ht] at hP1
      have hK1 := va_K.moved hvm.symm hK1
      obtain ⟨hP, hD⟩ := va_join (wr := [(h0, .inr (12, [.ref ma, .ref rn, .ref ef, .ref ck, .ref tr, .int 0, .int 0, .int 0, .int 0, .long 0])), (ma, .inr (7, [.ref fi, .ref se, .ref ce, .ref pr, .ref di, .ref dr, .ref li, .ref ru, .ref ba, .int 1000, .int 0, .int 0, .int 0, .int 0, .int 0, .int 0])), (so, .inl (cC, 40, .inl (fun _ => 0))), (va, .inl (cD, 40, .inl (fun _ => 0)))]) (w1 := [(li, .inr (6, [.ref so, .ref va, .int 0, .int 0]))]) hP hD [2] [0, 1, 3, 4] rfl rfl (by decide) (by decide) hk1 hFc hP1 hD1
      have hK := hK.app hK1
      generalize H1 = H at hP hS ⊢
      have hP : va_P (dC, dI) pcl [(h0, .inr (12, [.ref ma, .ref rn, .ref ef, .ref ck, .ref tr, .int 0, .int 0, .int 0, .int 0, .long 0])), (ma, .inr (7, [.ref fi, .ref se, .ref ce, .ref pr, .ref di, .ref dr, .ref li, .ref ru, .ref ba, .int 1000, .int 0, .int 0, .int 0, .int 0, .int 0, .int 0])), (so, .inl (cC, 40, .inl (fun _ => 0))), (va, .inl (cD, 40, .inl (fun _ => 0))), (li, .inr (6, [.ref so, .ref va, .int 0, .int 0]))] H := hP
      have hD : va_D A [(h0, .inr (12, [.ref ma, .ref rn, .ref ef, .ref ck, .ref tr, .int 0, .int 0, .int 0, .int 0, .long 0])), (ma, .inr (7, [.ref fi, .ref se, .ref ce, .ref pr, .ref di, .ref dr, .ref li, .ref ru, .ref ba, .int 1000, .int 0, .int 0, .int 0, .int 0, .int 0, .int 0])), (so, .inl (cC, 40, .inl (fun _ => 0))), (va, .inl (cD, 40, .inl (fun _ => 0))), (li, .inr (6, [.ref so, .ref va, .int 0, .int 0]))] := hD
      have hK : va_K (dC, dI) pcl [(cC, .int), (cD, .int)] s := hK
      subst hw
      refine lv_if_eq (tgt := 51) hx hb dX11_word_38 (by decide) (fun _ => ?_) (fun h9 => absurd (by decide) h9)
      refine lv_aload_n hx hb dX11_word_51 rfl (lv_at hl 0 rfl) ?_
      refine va_get (D := (dC, dI)) (ci := 12) (v := .ref ma) (C := RX11) (T := TX11) (N := 10) hx hb hts pinX11 hown hK hP 0 rfl rfl 0 (by decide) (hts _ e120) (fun _ h9 => h9) rfl dX11_word_52 ?_
      refine va_getN (D := (dC, dI)) (ci := 7) (v := .ref li) (C := RX6) (T := TX6) (N := 16) hx hb hts pinX6 hown hK hP 1 rfl rfl 6 (by decide) (va_Nw.use rfl (hN _ n16)) (fun _ h9 => h9) rfl dX11_word_55 ?_
      refine lv_iconst (v := 1) hx hb dX11_word_58 (by decide) ?_
      refine lv_iload_n hx hb dX11_word_59 rfl (lv_at hl 1 rfl) ?_
      have hPc := hP.sub (ws' := [(li, .inr (6, [.ref so, .ref va, .int 0, .int 0])), (so, .inl (cC, 40, .inl (fun _ => 0))), (va, .inl (cD, 40, .inl (fun _ => 0)))]) [4, 2, 3] rfl
      have hDc := hD.sub (ws' := [(li, .inr (6, [.ref so, .ref va, .int 0, .int 0])), (so, .inl (cC, 40, .inl (fun _ => 0))), (va, .inl (cD, 40, .inl (fun _ => 0)))]) [4, 2, 3] (by decide) rfl
      have hKc := hK.sub (tys' := [(cC, .int), (cD, .int)]) [0, 1] rfl
      have hFc := va_free (wc := [(li, .inr (6, [.ref so, .ref va, .int 0, .int 0])), (so, .inl (cC, 40, .inl (fun _ => 0))), (va, .inl (cD, 40, .inl (fun _ => 0)))]) hD hS hA [4, 2, 3] rfl
      refine va_calli (va_runVN (As := [.int 1, .int c9]) (rest := []) ⟨hx, hb, hml, hown, hts⟩ (c_X5_add l dC dI z li so va cC cD 1 c9 H.size) ⟨va_cnB 2 hts (ws_good e149) rfl rfl rfl (hN _ n18) (hts _ e83) ⟨by decide +kernel, by decide +kernel, by decide +kernel⟩ ⟨Nat.le_of_ble_eq_true rfl, Nat.le_of_ble_eq_true rfl⟩, (hts _ e148), (hts _ e150)⟩ ⟨pPre_blind, va_recv hKc hPc (ci := 6) (q0 := 0) rfl rfl, fun U hU hW => ⟨rfl, pPre_at hPc hKc hDc hE hS hFc U hU hW⟩⟩ rfl rfl hl.1 rfl (lv_room (Nat.le_of_ble_eq_true rfl)) dX11_word_60 ⟨Nat.le_of_ble_eq_true rfl, Nat.le_of_ble_eq_true rfl⟩) hS (fun q _ h => hFc q h) hFc (fun r15 u18 t H1 locs ht hvm hw hB hz1 hk1 hS => ?_)
      obtain ⟨y16, y17, hP1, hK1, hD1⟩ := hB
      rw [ht] at hP1
      have hK1 := va_K.moved hvm.symm hK1
      obtain ⟨hP, hD⟩ := va_join (wr := [(h0, .inr (12, [.ref ma, .ref rn, .ref ef, .ref ck, .ref tr, .int 0, .int 0, .int 0, .int 0, .long 0])), (ma, .inr (7, [.ref fi, .ref se, .ref ce, .ref pr, .ref di, .ref dr, .ref li, .ref ru, .ref ba, .int 1000, .int 0, .int 0, .int 0, .int 0, .int 0, .int 0]))]) (w1 := [(li, .inr (6, [.ref so, .ref va, .int 1, .int 0])), (so, .inl (cC, 40, .inl y16)), (va, .inl (cD, 40, .inl y17))]) hP hD [4, 2, 3] [0, 1] rfl rfl (by decide) (by decide) hk1 hFc hP1 hD1
      have hK := hK.app hK1
      generalize H1 = H at hP hS ⊢
      have hP : va_P (dC, dI) pcl [(h0, .inr (12, [.ref ma, .ref rn, .ref ef, .ref ck, .ref tr, .int 0, .int 0, .int 0, .int 0, .long 0])), (ma, .inr (7, [.ref fi, .ref se, .ref ce, .ref pr, .ref di, .ref dr, .ref li, .ref ru, .ref ba, .int 1000, .int 0, .int 0, .int 0, .int 0, .int 0, .int 0])), (li, .inr (6, [.ref so, .ref va, .int 1, .int 0])), (so, .inl (cC, 40, .inl y16)), (va, .inl (cD, 40, .inl y17))] H := hP
      have hD : va_D A [(h0, .inr (12, [.ref ma, .ref rn, .ref ef, .ref ck, .ref tr, .int 0, .int 0, .int 0, .int 0, .long 0])), (ma, .inr (7, [.ref fi, .ref se, .ref ce, .ref pr, .ref di, .ref dr, .ref li, .ref ru, .ref ba, .int 1000, .int 0, .int 0, .int 0, .int 0, .int 0, .int 0])), (li, .inr (6, [.ref so, .ref va, .int 1, .int 0])), (so, .inl (cC, 40, .inl y16)), (va, .inl (cD, 40, .inl y17))] := hD
      have hK : va_K (dC, dI) pcl [(cC, .int), (cD, .int), (cC, .int), (cD, .int)] s := hK
      have hK := hK.sub (tys' := [(cC, .int), (cD, .int)]) [0, 1] rfl
      subst hw
      have hP9 := hP.sub (ws' := [(h0, .inr (12, [.ref ma, .ref rn, .ref ef, .ref ck, .ref tr, .int 0, .int 0, .int 0, .int 0, .long 0])), (ma, .inr (7, [.ref fi, .ref se, .ref ce, .ref pr, .ref di, .ref dr, .ref li, .ref ru, .ref ba, .int 1000, .int 0, .int 0, .int 0, .int 0, .int 0, .int 0])), (li, .inr (6, [.ref so, .ref va, .int 1, .int 0])), (so, .inl (cC, 40, .inl y16)), (va, .inl (cD, 40, .inl y17))]) [0, 1, 2, 3, 4] rfl
      have hD9 := hD.sub (ws' := [(h0, .inr (12, [.ref ma, .ref rn, .ref ef, .ref ck, .ref tr, .int 0, .int 0, .int 0, .int 0, .long 0])), (ma, .inr (7, [.ref fi, .ref se, .ref ce, .ref pr, .ref di, .ref dr, .ref li, .ref ru, .ref ba, .int 1000, .int 0, .int 0, .int 0, .int 0, .int 0, .int 0])), (li, .inr (6, [.ref so, .ref va, .int 1, .int 0])), (so, .inl (cC, 40, .inl y16)), (va, .inl (cD, 40, .inl y17))]) [0, 1, 2, 3, 4] (by decide) rfl
      have hK9 := hK.sub (tys' := [(cC, .int), (cD, .int)]) [0, 1] rfl
      refine W.widen (k := 1) (n := 6) (Nat.le_of_ble_eq_true rfl) (Nat.le_of_ble_eq_true rfl) ?_
      refine vx_ret ?_
      exact W.iret (v := 1) hx hb hr (fun t ht hW => ⟨⟨1, (), rfl, ⟨rfl, fun h => Int32.not_lt.mpr k12 (hwr10.mpr h.2)⟩, y16, y17, by rw [ht]; exact hP9, va_K.moved hW.alike hK9, hD9⟩, hS.F ht⟩) hS.2.2 dX11_word_63
    · obtain ⟨sa, hstr⟩ := hE.2.2.2.2.2.2.2.2.1 (RX11, 63, "there is no such core word") (List.mem_of_getElem? (i := 0) rfl)
      exact vx_throwS hx hb hfl (own := RX11) (cls := "java/lang/IllegalArgumentException") (text := "there is no such core word") (names := xnames) hown (by decide +kernel) (by decide +kernel) (hts _ e141) (hts _ e142) hstr (xat0 hts hN) xgood0 hE.2.1 hE.2.2.1 hS (hl.1.trans hml.symm) dX11_word_18 dX11_word_21 dX11_word_22 dX11_word_24 dX11_word_27 (fun x9 h9 => (ht9 x9 h9).elim) (Nat.le_of_ble_eq_true rfl) (Nat.le_of_ble_eq_true rfl) (Nat.le_of_ble_eq_true rfl) (Nat.le_of_ble_eq_true rfl) hlocks (fun t _ h1 h2 => ⟨(), trivial, ⟨rfl, ⟨hwr1.mp (Int32.not_le.mp k3), hwr10.mp (Int32.not_le.mp k12)⟩⟩, p_FX hS h1 h2⟩) hS.2.2 (Nat.le_of_ble_eq_true rfl) (Nat.le_of_ble_eq_true rfl)
set_option maxHeartbeats 4000000 in
set_option maxRecDepth 100000 in
theorem c_X17_word (l : Launch) (dC : Nat → ClassId) (dI : Nat → Nat → Nat) (z : pG) (h0 : Nat) (l1 : Nat) (l2 : Nat) (l3 : Nat) (l4 : Nat) (l5 : Nat) (l6 : Nat) (l7 : Nat) (l8 : Nat) (l9 : Nat) (ce : Nat) (y1 : Nat) (y2 : Nat) (y3 : Nat) (y4 : Nat) (y5 : Nat) (c9 : Int32) (sz : Nat) : Met l yX17_word (ws_ yX17_word cX17_word 2 (some .int)) ({ frames := 6, cells := 2, slots := 12, locals := 123 }) (va_Pc [.ref h0, .int c9] (pPre z dC dI [(h0, .inr (14, [.ref l1, .ref l2, .ref l3, .ref l4, .ref l5, .ref l6, .ref l7, .ref l8, .ref l9, .ref ce, .null, .int 0, .int 0, .int 0, .int 0, .int 0, .int 0, .int 0, .int 0, .int 0, .int 0, .int 0, .int 0, .long 0, .ref y1, .ref y2, .ref y3, .ref y4, .ref y5, .int 0, .int 0])), (l1, .inr (0, [.int 0, .ref z.1, .int 0]))] [] sz)) (va_Qi (fun (r : Int32) (u : Int32) => (r = 1 ∧ u = 0 ∧ ¬ (pNo 0 c9 ∧ pNo 1 c9)) ∨ (r = 0 ∧ u = 1 ∧ pNo 0 c9 ∧ pNo 1 c9)) (fun u t => pPost dC dI (va_A [(h0, .inr (14, [.ref l1, .ref l2, .ref l3, .ref l4, .ref l5, .ref l6, .ref l7, .ref l8, .ref l9, .ref ce, .null, .int 0, .int 0, .int 0, .int 0, .int 0, .int 0, .int 0, .int 0, .int 0, .int 0, .int 0, .int 0, .long 0, .ref y1, .ref y2, .ref y3, .ref y4, .ref y5, .int 0, .int 0])), (l1, .inr (0, [.int 0, .ref z.1, .int 0]))] sz) [(h0, .inr (14, [.ref l1, .ref l2, .ref l3, .ref l4, .ref l5, .ref l6, .ref l7, .ref l8, .ref l9, .ref ce, .null, .int 0, .int 0, .int u, .int 0, .int 0, .int 0, .int 0, .int 0, .int 0, .int 0, .int 0, .int 0, .long 0, .ref y1, .ref y2, .ref y3, .ref y4, .ref y5, .int 0, .int 0]))] [] t) (va_A [(h0, .inr (14, [.ref l1, .ref l2, .ref l3, .ref l4, .ref l5, .ref l6, .ref l7, .ref l8, .ref l9, .ref ce, .null, .int 0, .int 0, .int 0, .int 0, .int 0, .int 0, .int 0, .int 0, .int 0, .int 0, .int 0, .int 0, .long 0, .ref y1, .ref y2, .ref y3, .ref y4, .ref y5, .int 0, .int 0])), (l1, .inr (0, [.int 0, .ref z.1, .int 0]))] sz)) 2 12 (va_A [(h0, .inr (14, [.ref l1, .ref l2, .ref l3, .ref l4, .ref l5, .ref l6, .ref l7, .ref l8, .ref l9, .ref ce, .null, .int 0, .int 0, .int 0, .int 0, .int 0, .int 0, .int 0, .int 0, .int 0, .int 0, .int 0, .int 0, .long 0, .ref y1, .ref y2, .ref y3, .ref y4, .ref y5, .int 0, .int 0])), (l1, .inr (0, [.int 0, .ref z.1, .int 0]))] sz) := by
  refine Met.ofW (cc := cX17_word) (maxL := 2) (ret := (some .int)) (by decide) rfl ?_
  intro p e s m args below meth c s₁ B hml hv
  obtain ⟨rfl, hsz, hP, hK, hD0, hE⟩ := hv
  have hx := B.exec
  have hb := B.bytes
  have hr := B.returns
  have hts0 := atoms_spec (ws := ws_ yX17_word cX17_word 2 (some .int)) B.pre
  have hts := fun (w : Cond) (h : w ∈ pw) => hts0 w (List.mem_cons_of_mem _ h)
  have hown : s.vm.findClass RX17 = some m.cls := findClass_of_methodNamed B.named
  have hlocks := B.notSynchronized
  subst hsz
  have hD := hD0.self (sz := s.heap.size)
  generalize hAe : va_A [(h0, .inr (14, [.ref l1, .ref l2, .ref l3, .ref l4, .ref l5, .ref l6, .ref l7, .ref l8, .ref l9, .ref ce, .null, .int 0, .int 0, .int 0, .int 0, .int 0, .int 0, .int 0, .int 0, .int 0, .int 0, .int 0, .int 0, .long 0, .ref y1, .ref y2, .ref y3, .ref y4, .ref y5, .int 0, .int 0])), (l1, .inr (0, [.int 0, .ref z.1, .int 0]))] s.heap.size = A at hD hE ⊢
  have hA : ∀ q : Nat, s.heap.size ≤ q → A q := fun q h => by rw [← hAe]; exact Or.inr h
  have hS : va_S A s.heap s.heap [] := va_S.rf
  have hN := hE.1
  have hP : va_P (dC, dI) pcl [(h0, .inr (14, [.ref l1, .ref l2, .ref l3, .ref l4, .ref l5, .ref l6, .ref l7, .ref l8, .ref l9, .ref ce, .null, .int 0, .int 0, .int 0, .int 0, .int 0, .int 0, .int 0, .int 0, .int 0, .int 0, .int 0, .int 0, .long 0, .ref y1, .ref y2, .ref y3, .ref y4, .ref y5, .int 0, .int 0])), (l1, .inr (0, [.int 0, .ref z.1, .int 0]))] s.heap := hP
  have hl := lv_entry ([.ref h0, .int c9]) (n := 2) (Nat.le_of_ble_eq_true rfl)
  rw [lg_entry_eq]
  generalize (lg_sl ([.ref h0, .int c9]) ++ List.replicate (2 - (lg_sl ([.ref h0, .int c9])).length) Slot.unset).toArray = ls at hl ⊢
  have hl : lv_has ls 2 [(0, .ref h0), (1, .int c9)] := hl
  obtain ⟨H, hH0⟩ : ∃ H, H = s.heap := ⟨_, rfl⟩
  rw [← hH0] at hP ⊢
  have hS : va_S A s.heap H [] := by rw [hH0]; exact hS
  refine p_ldcSW hx hb hown (hE.2.2.2.2.2.2.2.1 2 _ rfl) dX17_word_0 ?_
  refine lv_iload_n hx hb dX17_word_3 rfl (lv_at hl 1 rfl) ?_
  have hPc := hP.sub (ws' := []) [] rfl
  have hDc := hD.sub (ws' := []) [] (by decide) rfl
  have hKc := hK.sub (tys' := []) [] rfl
  have hFc := va_free (wc := []) hD hS hA [] rfl
  refine va_calli (va_runV (As := [.int c9]) (rest := []) ⟨hx, hb, hml, hown, hts⟩ (c_J0_indexOf_0f7a4 l dC dI z 0 c9 H.size (by decide)) (cwV 1 hts (ws_goodV e233 e137 e140 e138 e139) rfl rfl rfl ⟨rfl, by decide +kernel, by decide +kernel, by decide +kernel⟩ ⟨Nat.le_of_ble_eq_true rfl, Nat.le_of_ble_eq_true rfl⟩) ⟨pPre_blind, p_recv hE.2.2.2.2.2.2.1 (by decide) hS, fun U hU hW => ⟨rfl, pPre_at hPc hKc hDc hE hS hFc U hU hW⟩⟩ rfl rfl hl.1 rfl (lv_room (Nat.le_of_ble_eq_true rfl)) dX17_word_4 ⟨Nat.le_of_ble_eq_true rfl, Nat.le_of_ble_eq_true rfl⟩) hS (fun q _ h => hFc q h) hFc (fun r1 u2 t H1 locs ht hvm hw hB hz1 hk1 hS => ?_)
  obtain ⟨hP1, hK1, hD1⟩ := hB
  rw [ht] at hP1
  have hK1 := va_K.moved hvm.symm hK1
  obtain ⟨hP, hD⟩ := va_join (wr := [(h0, .inr (14, [.ref l1, .ref l2, .ref l3, .ref l4, .ref l5, .ref l6, .ref l7, .ref l8, .ref l9, .ref ce, .null, .int 0, .int 0, .int 0, .int 0, .int 0, .int 0, .int 0, .int 0, .int 0, .int 0, .int 0, .int 0, .long 0, .ref y1, .ref y2, .ref y3, .ref y4, .ref y5, .int 0, .int 0])), (l1, .inr (0, [.int 0, .ref z.1, .int 0]))]) (w1 := []) hP hD [] [0, 1] rfl rfl (by decide) (by decide) hk1 hFc hP1 hD1
  have hK := hK.app hK1
  generalize H1 = H at hP hS ⊢
  have hP : va_P (dC, dI) pcl [(h0, .inr (14, [.ref l1, .ref l2, .ref l3, .ref l4, .ref l5, .ref l6, .ref l7, .ref l8, .ref l9, .ref ce, .null, .int 0, .int 0, .int 0, .int 0, .int 0, .int 0, .int 0, .int 0, .int 0, .int 0, .int 0, .int 0, .long 0, .ref y1, .ref y2, .ref y3, .ref y4, .ref y5, .int 0, .int 0])), (l1, .inr (0, [.int 0, .ref z.1, .int 0]))] H := hP
  have hD : va_D A [(h0, .inr (14, [.ref l1, .ref l2, .ref l3, .ref l4, .ref l5, .ref l6, .ref l7, .ref l8, .ref l9, .ref ce, .null, .int 0, .int 0, .int 0, .int 0, .int 0, .int 0, .int 0, .int 0, .int 0, .int 0, .int 0, .int 0, .long 0, .ref y1, .ref y2, .ref y3, .ref y4, .ref y5, .int 0, .int 0])), (l1, .inr (0, [.int 0, .ref z.1, .int 0]))] := hD
  have hK : va_K (dC, dI) pcl [] s := hK
  have hwr1 := hw
  refine lv_if_ge (tgt := 28) hx hb dX17_word_7 (by decide) (fun k3 => ?_) (fun k3 => ?_)
  · refine lv_aload_n hx hb dX17_word_28 rfl (lv_at hl 0 rfl) ?_
    refine lv_bipush (v := 119) hx hb dX17_word_29 (by decide) ?_
    refine lv_iload_n hx hb dX17_word_31 rfl (lv_at hl 1 rfl) ?_
    have hPc := hP.sub (ws' := [(h0, .inr (14, [.ref l1, .ref l2, .ref l3, .ref l4, .ref l5, .ref l6, .ref l7, .ref l8, .ref l9, .ref ce, .null, .int 0, .int 0, .int 0, .int 0, .int 0, .int 0, .int 0, .int 0, .int 0, .int 0, .int 0, .int 0, .long 0, .ref y1, .ref y2, .ref y3, .ref y4, .ref y5, .int 0, .int 0])), (l1, .inr (0, [.int 0, .ref z.1, .int 0]))]) [0, 1] rfl
    have hDc := hD.sub (ws' := [(h0, .inr (14, [.ref l1, .ref l2, .ref l3, .ref l4, .ref l5, .ref l6, .ref l7, .ref l8, .ref l9, .ref ce, .null, .int 0, .int 0, .int 0, .int 0, .int 0, .int 0, .int 0, .int 0, .int 0, .int 0, .int 0, .int 0, .long 0, .ref y1, .ref y2, .ref y3, .ref y4, .ref y5, .int 0, .int 0])), (l1, .inr (0, [.int 0, .ref z.1, .int 0]))]) [0, 1] (by decide) rfl
    have hKc := hK.sub (tys' := []) [] rfl
    have hFc := va_free (wc := [(h0, .inr (14, [.ref l1, .ref l2, .ref l3, .ref l4, .ref l5, .ref l6, .ref l7, .ref l8, .ref l9, .ref ce, .null, .int 0, .int 0, .int 0, .int 0, .int 0, .int 0, .int 0, .int 0, .int 0, .int 0, .int 0, .int 0, .long 0, .ref y1, .ref y2, .ref y3, .ref y4, .ref y5, .int 0, .int 0])), (l1, .inr (0, [.int 0, .ref z.1, .int 0]))]) hD hS hA [0, 1] rfl
    refine va_calli (va_runV (As := [.int 119, .int c9]) (rest := []) ⟨hx, hb, hml, hown, hts⟩ (c_X17_puts_119 l dC dI z h0 l1 l2 l3 l4 l5 l6 l7 l8 l9 ce y1 y2 y3 y4 y5 c9 H.size) (cwV 2 hts (ws_goodV e234 e235 e237 e212 e236) rfl rfl rfl ⟨rfl, by decide +kernel, by decide +kernel, by decide +kernel⟩ ⟨Nat.le_of_ble_eq_true rfl, Nat.le_of_ble_eq_true rfl⟩) ⟨pPre_blind, va_recv hKc hPc (ci := 14) (q0 := 0) rfl rfl, fun U hU hW => ⟨rfl, pPre_at hPc hKc hDc hE hS hFc U hU hW⟩⟩ rfl rfl hl.1 rfl (lv_room (Nat.le_of_ble_eq_true rfl)) dX17_word_32 ⟨Nat.le_of_ble_eq_true rfl, Nat.le_of_ble_eq_true rfl⟩) hS (fun q _ h => hFc q h) hFc (fun r4 u5 t H1 locs ht hvm hw hB hz1 hk1 hS => ?_)
    obtain ⟨hP1, hK1, hD1⟩ := hB
    rw [ht] at hP1
    have hK1 := va_K.moved hvm.symm hK1
    obtain ⟨hP, hD⟩ := va_join (wr := []) (w1 := [(h0, .inr (14, [.ref l1, .ref l2, .ref l3, .ref l4, .ref l5, .ref l6, .ref l7, .ref l8, .ref l9, .ref ce, .null, .int 0, .int 0, .int 0, .int 0, .int 0, .int 0, .int 0, .int 0, .int 0, .int 0, .int 0, .int 0, .long 0, .ref y1, .ref y2, .ref y3, .ref y4, .ref y5, .int 0, .int 0]))]) hP hD [0, 1] [] rfl rfl (by decide) (by decide) hk1 hFc hP1 hD1
    have hK := hK.app hK1
    generalize H1 = H at hP hS ⊢
    have hP : va_P (dC, dI) pcl [(h0, .inr (14, [.ref l1, .ref l2, .ref l3, .ref l4, .ref l5, .ref l6, .ref l7, .ref l8, .ref l9, .ref ce, .null, .int 0, .int 0, .int 0, .int 0, .int 0, .int 0, .int 0, .int 0, .int 0, .int 0, .int 0, .int 0, .long 0, .ref y1, .ref y2, .ref y3, .ref y4, .ref y5, .int 0, .int 0]))] H := hP
    have hD : va_D A [(h0, .inr (14, [.ref l1, .ref l2, .ref l3, .ref l4, .ref l5, .ref l6, .ref l7, .ref l8, .ref l9, .ref ce, .null, .int 0, .int 0, .int 0, .int 0, .int 0, .int 0, .int 0, .int 0, .int 0, .int 0, .int 0, .int 0, .long 0, .ref y1, .ref y2, .ref y3, .ref y4, .ref y5, .int 0, .int 0]))] := hD
    have hK : va_K (dC, dI) pcl [] s := hK
    refine W.widen (k := 2) (n := 12) (Nat.le_of_ble_eq_true rfl) (Nat.le_of_ble_eq_true rfl) ?_
    subst hw
    have hP9 := hP.sub (ws' := [(h0, .inr (14, [.ref l1, .ref l2, .ref l3, .ref l4, .ref l5, .ref l6, .ref l7, .ref l8, .ref l9, .ref ce, .null, .int 0, .int 0, .int 0, .int 0, .int 0, .int 0, .int 0, .int 0, .int 0, .int 0, .int 0, .int 0, .long 0, .ref y1, .ref y2, .ref y3, .ref y4, .ref y5, .int 0, .int 0]))]) [0] rfl
    have hD9 := hD.sub (ws' := [(h0, .inr (14, [.ref l1, .ref l2, .ref l3, .ref l4, .ref l5, .ref l6, .ref l7, .ref l8, .ref l9, .ref ce, .null, .int 0, .int 0, .int 0, .int 0, .int 0, .int 0, .int 0, .int 0, .int 0, .int 0, .int 0, .int 0, .long 0, .ref y1, .ref y2, .ref y3, .ref y4, .ref y5, .int 0, .int 0]))]) [0] (by decide) rfl
    have hK9 := hK.sub (tys' := []) [] rfl
    refine W.widen (k := 2) (n := 12) (Nat.le_of_ble_eq_true rfl) (Nat.le_of_ble_eq_true rfl) ?_
    exact W.iret (v := 1) hx hb hr (fun t ht hW => ⟨⟨1, 0, rfl, (Or.inl ⟨rfl, rfl, fun h => Int32.not_lt.mpr k3 (hwr1.mpr h.1)⟩), by rw [ht]; exact hP9, va_K.moved hW.alike hK9, hD9⟩, hS.F ht⟩) hS.2.2 dX17_word_35
  · refine p_ldcSW hx hb hown (hE.2.2.2.2.2.2.2.1 3 _ rfl) dX17_word_10 ?_
    refine lv_iload_n hx hb dX17_word_13 rfl (lv_at hl 1 rfl) ?_
    have hPc := hP.sub (ws' := []) [] rfl
    have hDc := hD.sub (ws' := []) [] (by decide) rfl
    have hKc := hK.sub (tys' := []) [] rfl
    have hFc := va_free (wc := []) hD hS hA [] rfl
    refine va_calli (va_runV (As := [.int c9]) (rest := []) ⟨hx, hb, hml, hown, hts⟩ (c_J0_indexOf_0f7a4 l dC dI z 2 c9 H.size (by decide)) (cwV 1 hts (ws_goodV e233 e137 e140 e138 e139) rfl rfl rfl ⟨rfl, by decide +kernel, by decide +kernel, by decide +kernel⟩ ⟨Nat.le_of_ble_eq_true rfl, Nat.le_of_ble_eq_true rfl⟩) ⟨pPre_blind, p_recv hE.2.2.2.2.2.2.1 (by decide) hS, fun U hU hW => ⟨rfl, pPre_at hPc hKc hDc hE hS hFc U hU hW⟩⟩ rfl rfl hl.1 rfl (lv_room (Nat.le_of_ble_eq_true rfl)) dX17_word_14 ⟨Nat.le_of_ble_eq_true rfl, Nat.le_of_ble_eq_true rfl⟩) hS (fun q _ h => hFc q h) hFc (fun r6 u7 t H1 locs ht hvm hw hB hz1 hk1 hS => ?_)
    obtain ⟨hP1, hK1, hD1⟩ := hB
    rw [ht] at hP1
    have hK1 := va_K.moved hvm.symm hK1
    obtain ⟨hP, hD⟩ := va_join (wr := [(h0, .inr (14, [.ref l1, .ref l2, .ref l3, .ref l4, .ref l5, .ref l6, .ref l7, .ref l8, .ref l9, .ref ce, .null, .int 0, .int 0, .int 0, .int 0, .int 0, .int 0, .int 0, .int 0, .int 0, .int 0, .int 0, .int 0, .long 0, .ref y1, .ref y2, .ref y3, .ref y4, .ref y5, .int 0, .int 0])), (l1, .inr (0, [.int 0, .ref z.1, .int 0]))]) (w1 := []) hP hD [] [0, 1] rfl rfl (by decide) (by decide) hk1 hFc hP1 hD1
    have hK := hK.app hK1
    generalize H1 = H at hP hS ⊢
    have hP : va_P (dC, dI) pcl [(h0, .inr (14, [.ref l1, .ref l2, .ref l3, .ref l4, .ref l5, .ref l6, .ref l7, .ref l8, .ref l9, .ref ce, .null, .int 0, .int 0, .int 0, .int 0, .int 0, .int 0, .int 0, .int 0, .int 0, .int 0, .int 0, .int 0, .long 0, .ref y1, .ref y2, .ref y3, .ref y4, .ref y5, .int 0, .int 0])), (l1, .inr (0, [.int 0, .ref z.1, .int 0]))] H := hP
    have hD : va_D A [(h0, .inr (14, [.ref l1, .ref l2, .ref l3, .ref l4, .ref l5, .ref l6, .ref l7, .ref l8, .ref l9, .ref ce, .null, .int 0, .int 0, .int 0, .int 0, .int 0, .int 0, .int 0, .int 0, .int 0, .int 0, .int 0, .int 0, .long 0, .ref y1, .ref y2, .ref y3, .ref y4, .ref y5, .int 0, .int 0])), (l1, .inr (0, [.int 0, .ref z.1, .int 0]))] := hD
    have hK : va_K (dC, dI) pcl [] s := hK
    have hwr6 := hw
    refine lv_if_ge (tgt := 28) hx hb dX17_word_17 (by decide) (fun k8 => ?_) (fun k8 => ?_)
    · refine lv_aload_n hx hb dX17_word_28 rfl (lv_at hl 0 rfl) ?_
      refine lv_bipush (v := 119) hx hb dX17_word_29 (by decide) ?_
      refine lv_iload_n hx hb dX17_word_31 rfl (lv_at hl 1 rfl) ?_
      have hPc := hP.sub (ws' := [(h0, .inr (14, [.ref l1, .ref l2, .ref l3, .ref l4, .ref l5, .ref l6, .ref l7, .ref l8, .ref l9, .ref ce, .null, .int 0, .int 0, .int 0, .int 0, .int 0, .int 0, .int 0, .int 0, .int 0, .int 0, .int 0, .int 0, .long 0, .ref y1, .ref y2, .ref y3, .ref y4, .ref y5, .int 0, .int 0])), (l1, .inr (0, [.int 0, .ref z.1, .int 0]))]) [0, 1] rfl
      have hDc := hD.sub (ws' := [(h0, .inr (14, [.ref l1, .ref l2, .ref l3, .ref l4, .ref l5, .ref l6, .ref l7, .ref l8, .ref l9, .ref ce, .null, .int 0, .int 0, .int 0, .int 0, .int 0, .int 0, .int 0, .int 0, .int 0, .int 0, .int 0, .int 0, .long 0, .ref y1, .ref y2, .ref y3, .ref y4, .ref y5, .int 0, .int 0])), (l1, .inr (0, [.int 0, .ref z.1, .int 0]))]) [0, 1] (by decide) rfl
      have hKc := hK.sub (tys' := []) [] rfl
      have hFc := va_free (wc := [(h0, .inr (14, [.ref l1, .ref l2, .ref l3, .ref l4, .ref l5, .ref l6, .ref l7, .ref l8, .ref l9, .ref ce, .null, .int 0, .int 0, .int 0, .int 0, .int 0, .int 0, .int 0, .int 0, .int 0, .int 0, .int 0, .int 0, .long 0, .ref y1, .ref y2, .ref y3, .ref y4, .ref y5, .int 0, .int 0])), (l1, .inr (0, [.int 0, .ref z.1, .int 0]))]) hD hS hA [0, 1] rfl
      refine va_calli (va_runV (As := [.int 119, .int c9]) (rest := []) ⟨hx, hb, hml, hown, hts⟩ (c_X17_puts_119 l dC dI z h0 l1 l2 l3 l4 l5 l6 l7 l8 l9 ce y1 y2 y3 y4 y5 c9 H.size) (cwV 2 hts (ws_goodV e234 e235 e237 e212 e236) rfl rfl rfl ⟨rfl, by decide +kernel, by decide +kernel, by decide +kernel⟩ ⟨Nat.le_of_ble_eq_true rfl, Nat.le_of_ble_eq_true rfl⟩) ⟨pPre_blind, va_recv hKc hPc (ci := 14) (q0 := 0) rfl rfl, fun U hU hW => ⟨rfl, pPre_at hPc hKc hDc hE hS hFc U hU hW⟩⟩ rfl rfl hl.1 rfl (lv_room (Nat.le_of_ble_eq_true rfl)) dX17_word_32 ⟨Nat.le_of_ble_eq_true rfl, Nat.le_of_ble_eq_true rfl⟩) hS (fun q _ h => hFc q h) hFc (fun r9 u10 t H1 locs ht hvm hw hB hz1 hk1 hS => ?_)
      obtain ⟨hP1, hK1, hD1⟩ := hB
      rw [ht] at hP1
      have hK1 := va_K.moved hvm.symm hK1
      obtain ⟨hP, hD⟩ := va_join (wr := []) (w1 := [(h0, .inr (14, [.ref l1, .ref l2, .ref l3, .ref l4, .ref l5, .ref l6, .ref l7, .ref l8, .ref l9, .ref ce, .null, .int 0, .int 0, .int 0, .int 0, .int 0, .int 0, .int 0, .int 0, .int 0, .int 0, .int 0, .int 0, .long 0, .ref y1, .ref y2, .ref y3, .ref y4, .ref y5, .int 0, .int 0]))]) hP hD [0, 1] [] rfl rfl (by decide) (by decide) hk1 hFc hP1 hD1
      have hK := hK.app hK1
      generalize H1 = H at hP hS ⊢
      have hP : va_P (dC, dI) pcl [(h0, .inr (14, [.ref l1, .ref l2, .ref l3, .ref l4, .ref l5, .ref l6, .ref l7, .ref l8, .ref l9, .ref ce, .null, .int 0, .int 0, .int 0, .int 0, .int 0, .int 0, .int 0, .int 0, .int 0, .int 0, .int 0, .int 0, .long 0, .ref y1, .ref y2, .ref y3, .ref y4, .ref y5, .int 0, .int 0]))] H := hP
      have hD : va_D A [(h0, .inr (14, [.ref l1, .ref l2, .ref l3, .ref l4, .ref l5, .ref l6, .ref l7, .ref l8, .ref l9, .ref ce, .null, .int 0, .int 0, .int 0, .int 0, .int 0, .int 0, .int 0, .int 0, .int 0, .int 0, .int 0, .int 0, .long 0, .ref y1, .ref y2, .ref y3, .ref y4, .ref y5, .int 0, .int 0]))] := hD
      have hK : va_K (dC, dI) pcl [] s := hK
      refine W.widen (k := 2) (n := 12) (Nat.le_of_ble_eq_true rfl) (Nat.le_of_ble_eq_true rfl) ?_
      subst hw
      have hP9 := hP.sub (ws' := [(h0, .inr (14, [.ref l1, .ref l2, .ref l3, .ref l4, .ref l5, .ref l6, .ref l7, .ref l8, .ref l9, .ref ce, .null, .int 0, .int 0, .int 0, .int 0, .int 0, .int 0, .int 0, .int 0, .int 0, .int 0, .int 0, .int 0, .long 0, .ref y1, .ref y2, .ref y3, .ref y4, .ref y5, .int 0, .int 0]))]) [0] rfl
      have hD9 := hD.sub (ws' := [(h0, .inr (14, [.ref l1, .ref l2, .ref l3, .ref l4, .ref l5, .ref l6, .ref l7, .ref l8, .ref l9, .ref ce, .null, .int 0, .int 0, .int 0, .int 0, .int 0, .int 0, .int 0, .int 0, .int 0, .int 0, .int 0, .int 0, .long 0, .ref y1, .ref y2, .ref y3, .ref y4, .ref y5, .int 0, .int 0]))]) [0] (by decide) rfl
      have hK9 := hK.sub (tys' := []) [] rfl
      refine W.widen (k := 2) (n := 12) (Nat.le_of_ble_eq_true rfl) (Nat.le_of_ble_eq_true rfl) ?_
      exact W.iret (v := 1) hx hb hr (fun t ht hW => ⟨⟨1, 0, rfl, (Or.inl ⟨rfl, rfl, fun h => Int32.not_lt.mpr k8 (hwr6.mpr ((pNo_same _).mp h.2))⟩), by rw [ht]; exact hP9, va_K.moved hW.alike hK9, hD9⟩, hS.F ht⟩) hS.2.2 dX17_word_35
    · refine lv_aload_n hx hb dX17_word_20 rfl (lv_at hl 0 rfl) ?_
      refine lv_iconst (v := 1) hx hb dX17_word_21 (by decide) ?_
      have hPc := hP.sub (ws' := [(h0, .inr (14, [.ref l1, .ref l2, .ref l3, .ref l4, .ref l5, .ref l6, .ref l7, .ref l8, .ref l9, .ref ce, .null, .int 0, .int 0, .int 0, .int 0, .int 0, .int 0, .int 0, .int 0, .int 0, .int 0, .int 0, .int 0, .long 0, .ref y1, .ref y2, .ref y3, .ref y4, .ref y5, .int 0, .int 0]))]) [0] rfl
      have hDc := hD.sub (ws' := [(h0, .inr (14, [.ref l1, .ref l2, .ref l3, .ref l4, .ref l5, .ref l6, .ref l7, .ref l8, .ref l9, .ref ce, .null, .int 0, .int 0, .int 0, .int 0, .int 0, .int 0, .int 0, .int 0, .int 0, .int 0, .int 0, .int 0, .long 0, .ref y1, .ref y2, .ref y3, .ref y4, .ref y5, .int 0, .int 0]))]) [0] (by decide) rfl
      have hKc := hK.sub (tys' := []) [] rfl
      have hFc := va_free (wc := [(h0, .inr (14, [.ref l1, .ref l2, .ref l3, .ref l4, .ref l5, .ref l6, .ref l7, .ref l8, .ref l9, .ref ce, .null, .int 0, .int 0, .int 0, .int 0, .int 0, .int 0, .int 0, .int 0, .int 0, .int 0, .int 0, .int 0, .long 0, .ref y1, .ref y2, .ref y3, .ref y4, .ref y5, .int 0, .int 0]))]) hD hS hA [0] rfl
      refine va_calli (va_runV (As := [.int 1]) (rest := []) ⟨hx, hb, hml, hown, hts⟩ (c_X17_fails l dC dI z h0 l1 l2 l3 l4 l5 l6 l7 l8 l9 ce y1 y2 y3 y4 y5 1 H.size) (cwV 1 hts (ws_goodV e215 e216 e218 e212 e217) rfl rfl rfl ⟨rfl, by decide +kernel, by decide +kernel, by decide +kernel⟩ ⟨Nat.le_of_ble_eq_true rfl, Nat.le_of_ble_eq_true rfl⟩) ⟨pPre_blind, va_recv hKc hPc (ci := 14) (q0 := 0) rfl rfl, fun U hU hW => ⟨rfl, pPre_at hPc hKc hDc hE hS hFc U hU hW⟩⟩ rfl rfl hl.1 rfl (lv_room (Nat.le_of_ble_eq_true rfl)) dX17_word_22 ⟨Nat.le_of_ble_eq_true rfl, Nat.le_of_ble_eq_true rfl⟩) hS (fun q _ h => hFc q h) hFc (fun r11 u12 t H1 locs ht hvm hw hB hz1 hk1 hS => ?_)
      obtain ⟨hP1, hK1, hD1⟩ := hB
      rw [ht] at hP1
      have hK1 := va_K.moved hvm.symm hK1
      obtain ⟨hP, hD⟩ := va_join (wr := [(l1, .inr (0, [.int 0, .ref z.1, .int 0]))]) (w1 := [(h0, .inr (14, [.ref l1, .ref l2, .ref l3, .ref l4, .ref l5, .ref l6, .ref l7, .ref l8, .ref l9, .ref ce, .null, .int 0, .int 0, .int 1, .int 0, .int 0, .int 0, .int 0, .int 0, .int 0, .int 0, .int 0, .int 0, .long 0, .ref y1, .ref y2, .ref y3, .ref y4, .ref y5, .int 0, .int 0]))]) hP hD [0] [1] rfl rfl (by decide) (by decide) hk1 hFc hP1 hD1
      have hK := hK.app hK1
      generalize H1 = H at hP hS ⊢
      have hP : va_P (dC, dI) pcl [(l1, .inr (0, [.int 0, .ref z.1, .int 0])), (h0, .inr (14, [.ref l1, .ref l2, .ref l3, .ref l4, .ref l5, .ref l6, .ref l7, .ref l8, .ref l9, .ref ce, .null, .int 0, .int 0, .int 1, .int 0, .int 0, .int 0, .int 0, .int 0, .int 0, .int 0, .int 0, .int 0, .long 0, .ref y1, .ref y2, .ref y3, .ref y4, .ref y5, .int 0, .int 0]))] H := hP
      have hD : va_D A [(l1, .inr (0, [.int 0, .ref z.1, .int 0])), (h0, .inr (14, [.ref l1, .ref l2, .ref l3, .ref l4, .ref l5, .ref l6, .ref l7, .ref l8, .ref l9, .ref ce, .null, .int 0, .int 0, .int 1, .int 0, .int 0, .int 0, .int 0, .int 0, .int 0, .int 0, .int 0, .int 0, .long 0, .ref y1, .ref y2, .ref y3, .ref y4, .ref y5, .int 0, .int 0]))] := hD
      have hK : va_K (dC, dI) pcl [] s := hK
      subst hw
      refine lv_goto (tgt := 35) hx hb dX17_word_25 (by decide) ?_
      have hP9 := hP.sub (ws' := [(h0, .inr (14, [.ref l1, .ref l2, .ref l3, .ref l4, .ref l5, .ref l6, .ref l7, .ref l8, .ref l9, .ref ce, .null, .int 0, .int 0, .int 1, .int 0, .int 0, .int 0, .int 0, .int 0, .int 0, .int 0, .int 0, .int 0, .long 0, .ref y1, .ref y2, .ref y3, .ref y4, .ref y5, .int 0, .int 0]))]) [1] rfl
      have hD9 := hD.sub (ws' := [(h0, .inr (14, [.ref l1, .ref l2, .ref l3, .ref l4, .ref l5, .ref l6, .ref l7, .ref l8, .ref l9, .ref ce, .null, .int 0, .int 0, .int 1, .int 0, .int 0, .int 0, .int 0, .int 0, .int 0, .int 0, .int 0, .int 0, .long 0, .ref y1, .ref y2, .ref y3, .ref y4, .ref y5, .int 0, .int 0]))]) [1] (by decide) rfl
      have hK9 := hK.sub (tys' := []) [] rfl
      refine W.widen (k := 2) (n := 12) (Nat.le_of_ble_eq_true rfl) (Nat.le_of_ble_eq_true rfl) ?_
      exact W.iret (v := 0) hx hb hr (fun t ht hW => ⟨⟨0, 1, rfl, (Or.inr (⟨rfl, rfl, ⟨hwr1.mp (Int32.not_le.mp k3), (pNo_same _).mpr (hwr6.mp (Int32.not_le.mp k8))⟩⟩)), by rw [ht]; exact hP9, va_K.moved hW.alike hK9, hD9⟩, hS.F ht⟩) hS.2.2 dX17_word_35
