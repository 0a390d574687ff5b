set_option maxHeartbeats 4000000 in
set_option maxRecDepth 100000 in
theorem c_L_word (l : Launch) (hfl : l.stackTraces = false) (dC : Nat → ClassId) (dI : Nat → Nat → Nat) (z : pG) (h0 : Nat) (ma : Nat) (rn : Nat) (ef : Nat) (ck : Nat) (tr : Nat) (fi : Nat) (se : Nat) (ce : Nat) (pr : Nat) (di : Nat) (dr : Nat) (li : Nat) (ru : Nat) (ba : Nat) (so : Nat) (va : Nat) (cC : ClassId) (cD : ClassId) (c9 : Int32) (o9 : Nat) (cO : ClassId) (f0 : Nat → Int64) (sz : Nat) : Met l yL_word (wsW_ yL_word cL_word 4 (some .int) [(0, 9, 12, 13), (0, 9, 15, 15)]) ({ frames := 7, cells := 1, slots := 6, locals := 112 }) (va_Pc [.ref h0, .int c9, .ref o9] (pPre z dC dI [(h0, .inr (12, [.ref ma, .ref rn, .ref ef, .ref ck, .ref tr, .int 0, .int 0, .int 0, .int 0, .long 0])), (ma, .inr (7, [.ref fi, .ref se, .ref ce, .ref pr, .ref di, .ref dr, .ref li, .ref ru, .ref ba, .int 1000, .int 0, .int 0, .int 0, .int 0, .int 0, .int 0])), (li, .inr (6, [.ref so, .ref va, .int 0, .int 0])), (so, .inl (cC, 40, .inl (fun _ => 0))), (va, .inl (cD, 40, .inl (fun _ => 0))), (o9, .inl (cO, 1, .inr (.inl f0)))] [(cC, .int), (cD, .int), (cO, .long)] sz)) (va_Qi (fun (r : Int32) (u : Nat → Int64) => (r = 1 ∧ pNo 0 c9 ∧ pNo 1 c9) ∨ (r = 0 ∧ u 0 = 1 ∧ ¬ (pNo 0 c9 ∧ pNo 1 c9))) (fun u t => pPost dC dI (va_A [(h0, .inr (12, [.ref ma, .ref rn, .ref ef, .ref ck, .ref tr, .int 0, .int 0, .int 0, .int 0, .long 0])), (ma, .inr (7, [.ref fi, .ref se, .ref ce, .ref pr, .ref di, .ref dr, .ref li, .ref ru, .ref ba, .int 1000, .int 0, .int 0, .int 0, .int 0, .int 0, .int 0])), (li, .inr (6, [.ref so, .ref va, .int 0, .int 0])), (so, .inl (cC, 40, .inl (fun _ => 0))), (va, .inl (cD, 40, .inl (fun _ => 0))), (o9, .inl (cO, 1, .inr (.inl f0)))] sz) [(o9, .inl (cO, 1, .inr (.inl u)))] [(cO, .long)] t) (va_A [(h0, .inr (12, [.ref ma, .ref rn, .ref ef, .ref ck, .ref tr, .int 0, .int 0, .int 0, .int 0, .long 0])), (ma, .inr (7, [.ref fi, .ref se, .ref ce, .ref pr, .ref di, .ref dr, .ref li, .ref ru, .ref ba, .int 1000, .int 0, .int 0, .int 0, .int 0, .int 0, .int 0])), (li, .inr (6, [.ref so, .ref va, .int 0, .int 0])), (so, .inl (cC, 40, .inl (fun _ => 0))), (va, .inl (cD, 40, .inl (fun _ => 0))), (o9, .inl (cO, 1, .inr (.inl f0)))] sz)) 1 6 (va_A [(h0, .inr (12, [.ref ma, .ref rn, .ref ef, .ref ck, .ref tr, .int 0, .int 0, .int 0, .int 0, .long 0])), (ma, .inr (7, [.ref fi, .ref se, .ref ce, .ref pr, .ref di, .ref dr, .ref li, .ref ru, .ref ba, .int 1000, .int 0, .int 0, .int 0, .int 0, .int 0, .int 0])), (li, .inr (6, [.ref so, .ref va, .int 0, .int 0])), (so, .inl (cC, 40, .inl (fun _ => 0))), (va, .inl (cD, 40, .inl (fun _ => 0))), (o9, .inl (cO, 1, .inr (.inl f0)))] sz) := by
  refine va_MetW (cc := cL_word) (maxL := 4) (ret := (some .int)) (hh := [(0, 9, 12, 13), (0, 9, 15, 15)]) (by decide) rfl ?_
  intro p e s m args below meth c s₁ B hml hv
  obtain ⟨rfl, hsz, hP, hK, hD0, hE⟩ := hv
  have hx := B.exec
  have hb := B.bytes
  have hr := B.returns
  have hts0 := atoms_spec (ws := wsW_ yL_word cL_word 4 (some .int) [(0, 9, 12, 13), (0, 9, 15, 15)]) B.pre
  have htb := vx_table (x := yL_word) B (hts0 _ List.mem_cons_self)
  have hts := fun (w : Cond) (h : w ∈ pw) => hts0 w (List.mem_cons_of_mem _ h)
  have hown : s.vm.findClass RL = some m.cls := findClass_of_methodNamed B.named
  have hlocks := B.notSynchronized
  subst hsz
  have hD := hD0.self (sz := s.heap.size)
  generalize hAe : va_A [(h0, .inr (12, [.ref ma, .ref rn, .ref ef, .ref ck, .ref tr, .int 0, .int 0, .int 0, .int 0, .long 0])), (ma, .inr (7, [.ref fi, .ref se, .ref ce, .ref pr, .ref di, .ref dr, .ref li, .ref ru, .ref ba, .int 1000, .int 0, .int 0, .int 0, .int 0, .int 0, .int 0])), (li, .inr (6, [.ref so, .ref va, .int 0, .int 0])), (so, .inl (cC, 40, .inl (fun _ => 0))), (va, .inl (cD, 40, .inl (fun _ => 0))), (o9, .inl (cO, 1, .inr (.inl f0)))] s.heap.size = A at hD hE ⊢
  have hA : ∀ q : Nat, s.heap.size ≤ q → A q := fun q h => by rw [← hAe]; exact Or.inr h
  have hS : va_S A s.heap s.heap [] := va_S.rf
  have hN := hE.1
  have hP : va_P (dC, dI) pcl [(h0, .inr (12, [.ref ma, .ref rn, .ref ef, .ref ck, .ref tr, .int 0, .int 0, .int 0, .int 0, .long 0])), (ma, .inr (7, [.ref fi, .ref se, .ref ce, .ref pr, .ref di, .ref dr, .ref li, .ref ru, .ref ba, .int 1000, .int 0, .int 0, .int 0, .int 0, .int 0, .int 0])), (li, .inr (6, [.ref so, .ref va, .int 0, .int 0])), (so, .inl (cC, 40, .inl (fun _ => 0))), (va, .inl (cD, 40, .inl (fun _ => 0))), (o9, .inl (cO, 1, .inr (.inl f0)))] s.heap := hP
  have hl := lv_entry ([.ref h0, .int c9, .ref o9]) (n := 4) (Nat.le_of_ble_eq_true rfl)
  rw [lg_entry_eq]
  generalize (lg_sl ([.ref h0, .int c9, .ref o9]) ++ List.replicate (4 - (lg_sl ([.ref h0, .int c9, .ref o9])).length) Slot.unset).toArray = ls at hl ⊢
  have hl : lv_has ls 4 [(0, .ref h0), (1, .int c9), (2, .ref o9)] := hl
  obtain ⟨H, hH0⟩ : ∃ H, H = s.heap := ⟨_, rfl⟩
  rw [← hH0] at hP ⊢
  have hS : va_S A s.heap H [] := by rw [hH0]; exact hS
  refine lv_aload_n hx hb dL_word_0 rfl (lv_at hl 2 rfl) ?_
  refine lv_iconst (v := 0) hx hb dL_word_1 (by decide) ?_
  refine lv_aload_n hx hb dL_word_2 rfl (lv_at hl 0 rfl) ?_
  refine lv_iload_n hx hb dL_word_3 rfl (lv_at hl 1 rfl) ?_
  have hPc := hP.sub (ws' := [(h0, .inr (12, [.ref ma, .ref rn, .ref ef, .ref ck, .ref tr, .int 0, .int 0, .int 0, .int 0, .long 0])), (ma, .inr (7, [.ref fi, .ref se, .ref ce, .ref pr, .ref di, .ref dr, .ref li, .ref ru, .ref ba, .int 1000, .int 0, .int 0, .int 0, .int 0, .int 0, .int 0])), (li, .inr (6, [.ref so, .ref va, .int 0, .int 0])), (so, .inl (cC, 40, .inl (fun _ => 0))), (va, .inl (cD, 40, .inl (fun _ => 0)))]) [0, 1, 2, 3, 4] rfl
  have hDc := hD.sub (ws' := [(h0, .inr (12, [.ref ma, .ref rn, .ref ef, .ref ck, .ref tr, .int 0, .int 0, .int 0, .int 0, .long 0])), (ma, .inr (7, [.ref fi, .ref se, .ref ce, .ref pr, .ref di, .ref dr, .ref li, .ref ru, .ref ba, .int 1000, .int 0, .int 0, .int 0, .int 0, .int 0, .int 0])), (li, .inr (6, [.ref so, .ref va, .int 0, .int 0])), (so, .inl (cC, 40, .inl (fun _ => 0))), (va, .inl (cD, 40, .inl (fun _ => 0)))]) [0, 1, 2, 3, 4] (by decide) rfl
  have hKc := hK.sub (tys' := [(cC, .int), (cD, .int)]) [0, 1] rfl
  have hFc := va_free (wc := [(h0, .inr (12, [.ref ma, .ref rn, .ref ef, .ref ck, .ref tr, .int 0, .int 0, .int 0, .int 0, .long 0])), (ma, .inr (7, [.ref fi, .ref se, .ref ce, .ref pr, .ref di, .ref dr, .ref li, .ref ru, .ref ba, .int 1000, .int 0, .int 0, .int 0, .int 0, .int 0, .int 0])), (li, .inr (6, [.ref so, .ref va, .int 0, .int 0])), (so, .inl (cC, 40, .inl (fun _ => 0))), (va, .inl (cD, 40, .inl (fun _ => 0)))]) hD hS hA [0, 1, 2, 3, 4] rfl
  refine vx_calli (vx_runV (As := [.int c9]) (rest := [.int 0, .ref o9]) ⟨hx, hb, hml, hown, hts⟩ (c_X11_word l hfl dC dI z h0 ma rn ef ck tr fi se ce pr di dr li ru ba so va cC cD c9 H.size) (cwV 1 hts (ws_goodV e268 e269 e272 e270 e271) rfl rfl rfl ⟨rfl, by decide +kernel, by decide +kernel, by decide +kernel⟩ ⟨Nat.le_of_ble_eq_true rfl, Nat.le_of_ble_eq_true rfl⟩) ⟨pPre_blind, va_recv hKc hPc (ci := 12) (q0 := 0) rfl rfl, fun U hU hW => ⟨rfl, pPre_at hPc hKc hDc hE hS hFc U hU hW⟩⟩ rfl rfl hl.1 rfl (lv_room (Nat.le_of_ble_eq_true rfl)) dL_word_4 ⟨Nat.le_of_ble_eq_true rfl, Nat.le_of_ble_eq_true rfl⟩) hS (fun q _ h => hFc q h) hFc (fun q _ h => hFc q h) (fun E ce q9 u9 t H1 locs ht hvm hp9 hX hz1 hk1 hS hce hcv hcl => ?_) (fun r1 u4 t H1 locs ht hvm hw hB hz1 hk1 hS => ?_)
  · rcases hX with ⟨rfl, p5⟩
    refine vx_catch hown [] ({ startPc := 0, endPc := 9, handlerPc := 12, catchType := 13 } : ExceptionTableEntry) [({ startPc := 0, endPc := 9, handlerPc := 15, catchType := 15 } : ExceptionTableEntry)] (htb.trans rfl) (fun z9 h9 => absurd h9 List.not_mem_nil) (by decide) (by decide) (hts _ e647) (va_Nw.use rfl (hN _ n46)) hce hcv hcl ?_
    obtain ⟨hP, hD⟩ := va_join (wr := [(o9, .inl (cO, 1, .inr (.inl f0)))]) (w1 := []) hP hD [0, 1, 2, 3, 4] [5] rfl rfl (by decide) (by decide) hk1 hFc p_P0 p_D0
    generalize H1 = H at hP hS ⊢
    have hP : va_P (dC, dI) pcl [(o9, .inl (cO, 1, .inr (.inl f0)))] H := hP
    have hD : va_D A [(o9, .inl (cO, 1, .inr (.inl f0)))] := hD
    refine W.widen (k := 1) (n := 6) (Nat.le_of_ble_eq_true rfl) (Nat.le_of_ble_eq_true rfl) ?_
    refine lv_astore_n (lv' := [(3, .ref q9), (0, .ref h0), (1, .int c9), (2, .ref o9)]) hx hb dL_word_12 rfl hl (by decide) rfl (fun ls hl => ?_)
    refine lv_iconst (v := 1) hx hb dL_word_13 (by decide) ?_
    have hP9 := hP.sub (ws' := [(o9, .inl (cO, 1, .inr (.inl f0)))]) [0] rfl
    have hD9 := hD.sub (ws' := [(o9, .inl (cO, 1, .inr (.inl f0)))]) [0] (by decide) rfl
    have hK9 := hK.sub (tys' := [(cO, .long)]) [2] rfl
    refine W.widen (k := 1) (n := 6) (Nat.le_of_ble_eq_true rfl) (Nat.le_of_ble_eq_true rfl) ?_
    exact W.iret (v := 1) hx hb hr (fun t ht hW => ⟨⟨1, f0, rfl, (Or.inl ⟨rfl, p5⟩), by rw [ht]; exact hP9, va_K.moved hW.alike hK9, hD9⟩, hS.F ht⟩) hS.2.2 dL_word_14
  · obtain ⟨y2, y3, hP1, hK1, hD1⟩ := hB
    rw [ht] at hP1
    have hK1 := va_K.moved hvm.symm hK1
    obtain ⟨hP, hD⟩ := va_join (wr := [(o9, .inl (cO, 1, .inr (.inl f0)))]) (w1 := [(h0, .inr (12, [.ref ma, .ref rn, .ref ef, .ref ck, .ref tr, .int 0, .int 0, .int 0, .int 0, .long 0])), (ma, .inr (7, [.ref fi, .ref se, .ref ce, .ref pr, .ref di, .ref dr, .ref li, .ref ru, .ref ba, .int 1000, .int 0, .int 0, .int 0, .int 0, .int 0, .int 0])), (li, .inr (6, [.ref so, .ref va, .int 1, .int 0])), (so, .inl (cC, 40, .inl y2)), (va, .inl (cD, 40, .inl y3))]) hP hD [0, 1, 2, 3, 4] [5] rfl rfl (by decide) (by decide) hk1 hFc hP1 hD1
    have hK := hK.app hK1
    generalize H1 = H at hP hS ⊢
    have hP : va_P (dC, dI) pcl [(o9, .inl (cO, 1, .inr (.inl f0))), (h0, .inr (12, [.ref ma, .ref rn, .ref ef, .ref ck, .ref tr, .int 0, .int 0, .int 0, .int 0, .long 0])), (ma, .inr (7, [.ref fi, .ref se, .ref ce, .ref pr, .ref di, .ref dr, .ref li, .ref ru, .ref ba, .int 1000, .int 0, .int 0, .int 0, .int 0, .int 0, .int 0])), (li, .inr (6, [.ref so, .ref va, .int 1, .int 0])), (so, .inl (cC, 40, .inl y2)), (va, .inl (cD, 40, .inl y3))] H := hP
    have hD : va_D A [(o9, .inl (cO, 1, .inr (.inl f0))), (h0, .inr (12, [.ref ma, .ref rn, .ref ef, .ref ck, .ref tr, .int 0, .int 0, .int 0, .int 0, .long 0])), (ma, .inr (7, [.ref fi, .ref se, .ref ce, .ref pr, .ref di, .ref dr, .ref li, .ref ru, .ref ba, .int 1000, .int 0, .int 0, .int 0, .int 0, .int 0, .int 0])), (li, .inr (6, [.ref so, .ref va, .int 1, .int 0])), (so, .inl (cC, 40, .inl y2)), (va, .inl (cD, 40, .inl y3))] := hD
    have hK : va_K (dC, dI) pcl [(cC, .int), (cD, .int), (cO, .long), (cC, .int), (cD, .int)] s := hK
    have hK := hK.sub (tys' := [(cC, .int), (cD, .int), (cO, .long)]) [0, 1, 2] rfl
    refine W.widen (k := 1) (n := 6) (Nat.le_of_ble_eq_true rfl) (Nat.le_of_ble_eq_true rfl) ?_
    rcases hw with ⟨rfl, p6⟩
    refine lv_i2l (v := 1) hx hb dL_word_7 (by decide) ?_
    refine va_last hx hb hK hP hD hS 0 2 rfl rfl (by unfold vp_in; decide) dL_word_8 (fun H locs hP hD hS => ?_)
    obtain ⟨f7, ef7⟩ : ∃ f9, f9 = vp_updL f0 (0 : Int32).toNatClampNeg 1 := ⟨_, rfl⟩
    rw [← ef7] at hP hD
    have hP : va_P (dC, dI) pcl [(o9, .inl (cO, 1, .inr (.inl f7))), (h0, .inr (12, [.ref ma, .ref rn, .ref ef, .ref ck, .ref tr, .int 0, .int 0, .int 0, .int 0, .long 0])), (ma, .inr (7, [.ref fi, .ref se, .ref ce, .ref pr, .ref di, .ref dr, .ref li, .ref ru, .ref ba, .int 1000, .int 0, .int 0, .int 0, .int 0, .int 0, .int 0])), (li, .inr (6, [.ref so, .ref va, .int 1, .int 0])), (so, .inl (cC, 40, .inl y2)), (va, .inl (cD, 40, .inl y3))] H := hP
    have hD : va_D A [(o9, .inl (cO, 1, .inr (.inl f7))), (h0, .inr (12, [.ref ma, .ref rn, .ref ef, .ref ck, .ref tr, .int 0, .int 0, .int 0, .int 0, .long 0])), (ma, .inr (7, [.ref fi, .ref se, .ref ce, .ref pr, .ref di, .ref dr, .ref li, .ref ru, .ref ba, .int 1000, .int 0, .int 0, .int 0, .int 0, .int 0, .int 0])), (li, .inr (6, [.ref so, .ref va, .int 1, .int 0])), (so, .inl (cC, 40, .inl y2)), (va, .inl (cD, 40, .inl y3))] := hD
    refine lv_goto (tgt := 18) hx hb dL_word_9 (by decide) ?_
    refine lv_iconst (v := 0) hx hb dL_word_18 (by decide) ?_
    have hP9 := hP.sub (ws' := [(o9, .inl (cO, 1, .inr (.inl f7)))]) [0] rfl
    have hD9 := hD.sub (ws' := [(o9, .inl (cO, 1, .inr (.inl f7)))]) [0] (by decide) rfl
    have hK9 := hK.sub (tys' := [(cO, .long)]) [2] rfl
    refine W.widen (k := 1) (n := 6) (Nat.le_of_ble_eq_true rfl) (Nat.le_of_ble_eq_true rfl) ?_
    exact W.iret (v := 0) hx hb hr (fun t ht hW => ⟨⟨0, f7, rfl, (Or.inr (⟨rfl, by rw [ef7]; rfl, p6⟩)), by rw [ht]; exact hP9, va_K.moved hW.alike hK9, hD9⟩, hS.F ht⟩) hS.2.2 dL_word_19
set_option maxHeartbeats 4000000 in
set_option maxRecDepth 100000 in
theorem c_L_name (l : Launch) (hfl : l.stackTraces = false) (dC : Nat → ClassId) (dI : Nat → Nat → Nat) (z : pG) (h0 : Nat) (ma : Nat) (rn : Nat) (ef : Nat) (ck : Nat) (tr : Nat) (fi : Nat) (se : Nat) (ce : Nat) (pr : Nat) (di : Nat) (dr : Nat) (li : Nat) (ru : Nat) (ba : Nat) (so : Nat) (va : Nat) (cC : ClassId) (cD : ClassId) (n : Int32) (o9 : Nat) (cO : ClassId) (f0 : Nat → Int64) (sz : Nat) : Met l yL_name (wsW_ yL_name cL_name 4 (some .int) [(0, 9, 12, 13), (0, 9, 15, 15)]) ({ frames := 7, cells := 1, slots := 6, locals := 103 }) (va_Pc [.ref h0, .int n, .ref o9] (pPre z dC dI [(h0, .inr (12, [.ref ma, .ref rn, .ref ef, .ref ck, .ref tr, .int 0, .int 0, .int 0, .int 0, .long 0])), (ma, .inr (7, [.ref fi, .ref se, .ref ce, .ref pr, .ref di, .ref dr, .ref li, .ref ru, .ref ba, .int 1000, .int 0, .int 0, .int 0, .int 0, .int 0, .int 0])), (li, .inr (6, [.ref so, .ref va, .int 0, .int 0])), (so, .inl (cC, 40, .inl (fun _ => 0))), (va, .inl (cD, 40, .inl (fun _ => 0))), (o9, .inl (cO, 1, .inr (.inl f0)))] [(cC, .int), (cD, .int), (cO, .long)] sz)) (va_Qi (fun (r : Int32) (u : Nat → Int64) => (r = 1 ∧ (n < 0 ∨ ¬ n < 16)) ∨ (r = 0 ∧ u 0 = 1 ∧ ¬ n < 0 ∧ n < 16)) (fun u t => pPost dC dI (va_A [(h0, .inr (12, [.ref ma, .ref rn, .ref ef, .ref ck, .ref tr, .int 0, .int 0, .int 0, .int 0, .long 0])), (ma, .inr (7, [.ref fi, .ref se, .ref ce, .ref pr, .ref di, .ref dr, .ref li, .ref ru, .ref ba, .int 1000, .int 0, .int 0, .int 0, .int 0, .int 0, .int 0])), (li, .inr (6, [.ref so, .ref va, .int 0, .int 0])), (so, .inl (cC, 40, .inl (fun _ => 0))), (va, .inl (cD, 40, .inl (fun _ => 0))), (o9, .inl (cO, 1, .inr (.inl f0)))] sz) [(o9, .inl (cO, 1, .inr (.inl u)))] [(cO, .long)] t) (va_A [(h0, .inr (12, [.ref ma, .ref rn, .ref ef, .ref ck, .ref tr, .int 0, .int 0, .int 0, .int 0, .long 0])), (ma, .inr (7, [.ref fi, .ref se, .ref ce, .ref pr, .ref di, .ref dr, .ref li, .ref ru, .ref ba, .int 1000, .int 0, .int 0, .int 0, .int 0, .int 0, .int 0])), (li, .inr (6, [.ref so, .ref va, .int 0, .int 0])), (so, .inl (cC, 40, .inl (fun _ => 0))), (va, .inl (cD, 40, .inl (fun _ => 0))), (o9, .inl (cO, 1, .inr (.inl f0)))] sz)) 1 6 (va_A [(h0, .inr (12, [.ref ma, .ref rn, .ref ef, .ref ck, .ref tr, .int 0, .int 0, .int 0, .int 0, .long 0])), (ma, .inr (7, [.ref fi, .ref se, .ref ce, .ref pr, .ref di, .ref dr, .ref li, .ref ru, .ref ba, .int 1000, .int 0, .int 0, .int 0, .int 0, .int 0, .int 0])), (li, .inr (6, [.ref so, .ref va, .int 0, .int 0])), (so, .inl (cC, 40, .inl (fun _ => 0))), (va, .inl (cD, 40, .inl (fun _ => 0))), (o9, .inl (cO, 1, .inr (.inl f0)))] sz) := by
  refine va_MetW (cc := cL_name) (maxL := 4) (ret := (some .int)) (hh := [(0, 9, 12, 13), (0, 9, 15, 15)]) (by decide) rfl ?_
  intro p e s m args below meth c s₁ B hml hv
  obtain ⟨rfl, hsz, hP, hK, hD0, hE⟩ := hv
  have hx := B.exec
  have hb := B.bytes
  have hr := B.returns
  have hts0 := atoms_spec (ws := wsW_ yL_name cL_name 4 (some .int) [(0, 9, 12, 13), (0, 9, 15, 15)]) B.pre
  have htb := vx_table (x := yL_name) B (hts0 _ List.mem_cons_self)
  have hts := fun (w : Cond) (h : w ∈ pw) => hts0 w (List.mem_cons_of_mem _ h)
  have hown : s.vm.findClass RL = some m.cls := findClass_of_methodNamed B.named
  have hlocks := B.notSynchronized
  subst hsz
  have hD := hD0.self (sz := s.heap.size)
  generalize hAe : va_A [(h0, .inr (12, [.ref ma, .ref rn, .ref ef, .ref ck, .ref tr, .int 0, .int 0, .int 0, .int 0, .long 0])), (ma, .inr (7, [.ref fi, .ref se, .ref ce, .ref pr, .ref di, .ref dr, .ref li, .ref ru, .ref ba, .int 1000, .int 0, .int 0, .int 0, .int 0, .int 0, .int 0])), (li, .inr (6, [.ref so, .ref va, .int 0, .int 0])), (so, .inl (cC, 40, .inl (fun _ => 0))), (va, .inl (cD, 40, .inl (fun _ => 0))), (o9, .inl (cO, 1, .inr (.inl f0)))] s.heap.size = A at hD hE ⊢
  have hA : ∀ q : Nat, s.heap.size ≤ q → A q := fun q h => by rw [← hAe]; exact Or.inr h
  have hS : va_S A s.heap s.heap [] := va_S.rf
  have hN := hE.1
  have hP : va_P (dC, dI) pcl [(h0, .inr (12, [.ref ma, .ref rn, .ref ef, .ref ck, .ref tr, .int 0, .int 0, .int 0, .int 0, .long 0])), (ma, .inr (7, [.ref fi, .ref se, .ref ce, .ref pr, .ref di, .ref dr, .ref li, .ref ru, .ref ba, .int 1000, .int 0, .int 0, .int 0, .int 0, .int 0, .int 0])), (li, .inr (6, [.ref so, .ref va, .int 0, .int 0])), (so, .inl (cC, 40, .inl (fun _ => 0))), (va, .inl (cD, 40, .inl (fun _ => 0))), (o9, .inl (cO, 1, .inr (.inl f0)))] s.heap := hP
  have hl := lv_entry ([.ref h0, .int n, .ref o9]) (n := 4) (Nat.le_of_ble_eq_true rfl)
  rw [lg_entry_eq]
  generalize (lg_sl ([.ref h0, .int n, .ref o9]) ++ List.replicate (4 - (lg_sl ([.ref h0, .int n, .ref o9])).length) Slot.unset).toArray = ls at hl ⊢
  have hl : lv_has ls 4 [(0, .ref h0), (1, .int n), (2, .ref o9)] := hl
  obtain ⟨H, hH0⟩ : ∃ H, H = s.heap := ⟨_, rfl⟩
  rw [← hH0] at hP ⊢
  have hS : va_S A s.heap H [] := by rw [hH0]; exact hS
  refine lv_aload_n hx hb dL_name_0 rfl (lv_at hl 2 rfl) ?_
  refine lv_iconst (v := 0) hx hb dL_name_1 (by decide) ?_
  refine lv_aload_n hx hb dL_name_2 rfl (lv_at hl 0 rfl) ?_
  refine lv_iload_n hx hb dL_name_3 rfl (lv_at hl 1 rfl) ?_
  have hPc := hP.sub (ws' := [(h0, .inr (12, [.ref ma, .ref rn, .ref ef, .ref ck, .ref tr, .int 0, .int 0, .int 0, .int 0, .long 0])), (ma, .inr (7, [.ref fi, .ref se, .ref ce, .ref pr, .ref di, .ref dr, .ref li, .ref ru, .ref ba, .int 1000, .int 0, .int 0, .int 0, .int 0, .int 0, .int 0])), (li, .inr (6, [.ref so, .ref va, .int 0, .int 0])), (so, .inl (cC, 40, .inl (fun _ => 0))), (va, .inl (cD, 40, .inl (fun _ => 0)))]) [0, 1, 2, 3, 4] rfl
  have hDc := hD.sub (ws' := [(h0, .inr (12, [.ref ma, .ref rn, .ref ef, .ref ck, .ref tr, .int 0, .int 0, .int 0, .int 0, .long 0])), (ma, .inr (7, [.ref fi, .ref se, .ref ce, .ref pr, .ref di, .ref dr, .ref li, .ref ru, .ref ba, .int 1000, .int 0, .int 0, .int 0, .int 0, .int 0, .int 0])), (li, .inr (6, [.ref so, .ref va, .int 0, .int 0])), (so, .inl (cC, 40, .inl (fun _ => 0))), (va, .inl (cD, 40, .inl (fun _ => 0)))]) [0, 1, 2, 3, 4] (by decide) rfl
  have hKc := hK.sub (tys' := [(cC, .int), (cD, .int)]) [0, 1] rfl
  have hFc := va_free (wc := [(h0, .inr (12, [.ref ma, .ref rn, .ref ef, .ref ck, .ref tr, .int 0, .int 0, .int 0, .int 0, .long 0])), (ma, .inr (7, [.ref fi, .ref se, .ref ce, .ref pr, .ref di, .ref dr, .ref li, .ref ru, .ref ba, .int 1000, .int 0, .int 0, .int 0, .int 0, .int 0, .int 0])), (li, .inr (6, [.ref so, .ref va, .int 0, .int 0])), (so, .inl (cC, 40, .inl (fun _ => 0))), (va, .inl (cD, 40, .inl (fun _ => 0)))]) hD hS hA [0, 1, 2, 3, 4] rfl
  refine vx_calli (vx_runV (As := [.int n]) (rest := [.int 0, .ref o9]) ⟨hx, hb, hml, hown, hts⟩ (c_X11_name l hfl dC dI z h0 ma rn ef ck tr fi se ce pr di dr li ru ba so va cC cD n H.size) (cwV 1 hts (ws_goodV e273 e274 e276 e270 e275) rfl rfl rfl ⟨rfl, by decide +kernel, by decide +kernel, by decide +kernel⟩ ⟨Nat.le_of_ble_eq_true rfl, Nat.le_of_ble_eq_true rfl⟩) ⟨pPre_blind, va_recv hKc hPc (ci := 12) (q0 := 0) rfl rfl, fun U hU hW => ⟨rfl, pPre_at hPc hKc hDc hE hS hFc U hU hW⟩⟩ rfl rfl hl.1 rfl (lv_room (Nat.le_of_ble_eq_true rfl)) dL_name_4 ⟨Nat.le_of_ble_eq_true rfl, Nat.le_of_ble_eq_true rfl⟩) hS (fun q _ h => hFc q h) hFc (fun q _ h => hFc q h) (fun E ce q9 u9 t H1 locs ht hvm hp9 hX hz1 hk1 hS hce hcv hcl => ?_) (fun r1 u4 t H1 locs ht hvm hw hB hz1 hk1 hS => ?_)
  · rcases hX with ⟨rfl, p5⟩
    refine vx_catch hown [] ({ startPc := 0, endPc := 9, handlerPc := 12, catchType := 13 } : ExceptionTableEntry) [({ startPc := 0, endPc := 9, handlerPc := 15, catchType := 15 } : ExceptionTableEntry)] (htb.trans rfl) (fun z9 h9 => absurd h9 List.not_mem_nil) (by decide) (by decide) (hts _ e647) (va_Nw.use rfl (hN _ n46)) hce hcv hcl ?_
    obtain ⟨hP, hD⟩ := va_join (wr := [(o9, .inl (cO, 1, .inr (.inl f0)))]) (w1 := []) hP hD [0, 1, 2, 3, 4] [5] rfl rfl (by decide) (by decide) hk1 hFc p_P0 p_D0
    generalize H1 = H at hP hS ⊢
    have hP : va_P (dC, dI) pcl [(o9, .inl (cO, 1, .inr (.inl f0)))] H := hP
    have hD : va_D A [(o9, .inl (cO, 1, .inr (.inl f0)))] := hD
    refine W.widen (k := 1) (n := 6) (Nat.le_of_ble_eq_true rfl) (Nat.le_of_ble_eq_true rfl) ?_
    refine lv_astore_n (lv' := [(3, .ref q9), (0, .ref h0), (1, .int n), (2, .ref o9)]) hx hb dL_name_12 rfl hl (by decide) rfl (fun ls hl => ?_)
    refine lv_iconst (v := 1) hx hb dL_name_13 (by decide) ?_
    have hP9 := hP.sub (ws' := [(o9, .inl (cO, 1, .inr (.inl f0)))]) [0] rfl
    have hD9 := hD.sub (ws' := [(o9, .inl (cO, 1, .inr (.inl f0)))]) [0] (by decide) rfl
    have hK9 := hK.sub (tys' := [(cO, .long)]) [2] rfl
    refine W.widen (k := 1) (n := 6) (Nat.le_of_ble_eq_true rfl) (Nat.le_of_ble_eq_true rfl) ?_
    exact W.iret (v := 1) hx hb hr (fun t ht hW => ⟨⟨1, f0, rfl, (Or.inl ⟨rfl, p5⟩), by rw [ht]; exact hP9, va_K.moved hW.alike hK9, hD9⟩, hS.F ht⟩) hS.2.2 dL_name_14
  · obtain ⟨y2, y3, hP1, hK1, hD1⟩ := hB
    rw [ht] at hP1
    have hK1 := va_K.moved hvm.symm hK1
    obtain ⟨hP, hD⟩ := va_join (wr := [(o9, .inl (cO, 1, .inr (.inl f0)))]) (w1 := [(h0, .inr (12, [.ref ma, .ref rn, .ref ef, .ref ck, .ref tr, .int 0, .int 0, .int 0, .int 0, .long 0])), (ma, .inr (7, [.ref fi, .ref se, .ref ce, .ref pr, .ref di, .ref dr, .ref li, .ref ru, .ref ba, .int 1000, .int 0, .int 0, .int 0, .int 0, .int 0, .int 0])), (li, .inr (6, [.ref so, .ref va, .int 1, .int 0])), (so, .inl (cC, 40, .inl y2)), (va, .inl (cD, 40, .inl y3))]) hP hD [0, 1, 2, 3, 4] [5] rfl rfl (by decide) (by decide) hk1 hFc hP1 hD1
    have hK := hK.app hK1
    generalize H1 = H at hP hS ⊢
    have hP : va_P (dC, dI) pcl [(o9, .inl (cO, 1, .inr (.inl f0))), (h0, .inr (12, [.ref ma, .ref rn, .ref ef, .ref ck, .ref tr, .int 0, .int 0, .int 0, .int 0, .long 0])), (ma, .inr (7, [.ref fi, .ref se, .ref ce, .ref pr, .ref di, .ref dr, .ref li, .ref ru, .ref ba, .int 1000, .int 0, .int 0, .int 0, .int 0, .int 0, .int 0])), (li, .inr (6, [.ref so, .ref va, .int 1, .int 0])), (so, .inl (cC, 40, .inl y2)), (va, .inl (cD, 40, .inl y3))] H := hP
    have hD : va_D A [(o9, .inl (cO, 1, .inr (.inl f0))), (h0, .inr (12, [.ref ma, .ref rn, .ref ef, .ref ck, .ref tr, .int 0, .int 0, .int 0, .int 0, .long 0])), (ma, .inr (7, [.ref fi, .ref se, .ref ce, .ref pr, .ref di, .ref dr, .ref li, .ref ru, .ref ba, .int 1000, .int 0, .int 0, .int 0, .int 0, .int 0, .int 0])), (li, .inr (6, [.ref so, .ref va, .int 1, .int 0])), (so, .inl (cC, 40, .inl y2)), (va, .inl (cD, 40, .inl y3))] := hD
    have hK : va_K (dC, dI) pcl [(cC, .int), (cD, .int), (cO, .long), (cC, .int), (cD, .int)] s := hK
    have hK := hK.sub (tys' := [(cC, .int), (cD, .int), (cO, .long)]) [0, 1, 2] rfl
    refine W.widen (k := 1) (n := 6) (Nat.le_of_ble_eq_true rfl) (Nat.le_of_ble_eq_true rfl) ?_
    rcases hw with ⟨rfl, p6⟩
    refine lv_i2l (v := 1) hx hb dL_name_7 (by decide) ?_
    refine va_last hx hb hK hP hD hS 0 2 rfl rfl (by unfold vp_in; decide) dL_name_8 (fun H locs hP hD hS => ?_)
    obtain ⟨f7, ef7⟩ : ∃ f9, f9 = vp_updL f0 (0 : Int32).toNatClampNeg 1 := ⟨_, rfl⟩
    rw [← ef7] at hP hD
    have hP : va_P (dC, dI) pcl [(o9, .inl (cO, 1, .inr (.inl f7))), (h0, .inr (12, [.ref ma, .ref rn, .ref ef, .ref ck, .ref tr, .int 0, .int 0, .int 0, .int 0, .long 0])), (ma, .inr (7, [.ref fi, .ref se, .ref ce, .ref pr, .ref di, .ref dr, .ref li, .ref ru, .ref ba, .int 1000, .int 0, .int 0, .int 0, .int 0, .int 0, .int 0])), (li, .inr (6, [.ref so, .ref va, .int 1, .int 0])), (so, .inl (cC, 40, .inl y2)), (va, .inl (cD, 40, .inl y3))] H := hP
    have hD : va_D A [(o9, .inl (cO, 1, .inr (.inl f7))), (h0, .inr (12, [.ref ma, .ref rn, .ref ef, .ref ck, .ref tr, .int 0, .int 0, .int 0, .int 0, .long 0])), (ma, .inr (7, [.ref fi, .ref se, .ref ce, .ref pr, .ref di, .ref dr, .ref li, .ref ru, .ref ba, .int 1000, .int 0, .int 0, .int 0, .int 0, .int 0, .int 0])), (li, .inr (6, [.ref so, .ref va, .int 1, .int 0])), (so, .inl (cC, 40, .inl y2)), (va, .inl (cD, 40, .inl y3))] := hD
    refine lv_goto (tgt := 18) hx hb dL_name_9 (by decide) ?_
    refine lv_iconst (v := 0) hx hb dL_name_18 (by decide) ?_
    have hP9 := hP.sub (ws' := [(o9, .inl (cO, 1, .inr (.inl f7)))]) [0] rfl
    have hD9 := hD.sub (ws' := [(o9, .inl (cO, 1, .inr (.inl f7)))]) [0] (by decide) rfl
    have hK9 := hK.sub (tys' := [(cO, .long)]) [2] rfl
    refine W.widen (k := 1) (n := 6) (Nat.le_of_ble_eq_true rfl) (Nat.le_of_ble_eq_true rfl) ?_
    exact W.iret (v := 0) hx hb hr (fun t ht hW => ⟨⟨0, f7, rfl, (Or.inr (⟨rfl, by rw [ef7]; rfl, p6⟩)), by rw [ht]; exact hP9, va_K.moved hW.alike hK9, hD9⟩, hS.F ht⟩) hS.2.2 dL_name_19
set_option maxHeartbeats 4000000 in
set_option maxRecDepth 100000 in
theorem c_L_number (l : Launch) (hfl : l.stackTraces = false) (dC : Nat → ClassId) (dI : Nat → Nat → Nat) (z : pG) (h0 : Nat) (ma : Nat) (rn : Nat) (ef : Nat) (ck : Nat) (tr : Nat) (fi : Nat) (se : Nat) (ce : Nat) (pr : Nat) (di : Nat) (dr : Nat) (li : Nat) (ru : Nat) (ba : Nat) (so : Nat) (va : Nat) (cC : ClassId) (cD : ClassId) (n : Int32) (o9 : Nat) (cO : ClassId) (f0 : Nat → Int64) (sz : Nat) : Met l yL_number (wsW_ yL_number cL_number 4 (some .int) [(0, 9, 12, 15)]) ({ frames := 2, cells := 0, slots := 0, locals := 43 }) (va_Pc [.ref h0, .int n, .ref o9] (pPre z dC dI [(h0, .inr (12, [.ref ma, .ref rn, .ref ef, .ref ck, .ref tr, .int 0, .int 0, .int 0, .int 0, .long 0])), (ma, .inr (7, [.ref fi, .ref se, .ref ce, .ref pr, .ref di, .ref dr, .ref li, .ref ru, .ref ba, .int 1000, .int 0, .int 0, .int 0, .int 0, .int 0, .int 0])), (li, .inr (6, [.ref so, .ref va, .int 0, .int 0])), (so, .inl (cC, 40, .inl (fun _ => 0))), (va, .inl (cD, 40, .inl (fun _ => 0))), (o9, .inl (cO, 1, .inr (.inl f0)))] [(cC, .int), (cD, .int), (cO, .long)] sz)) (va_Qi (fun (r : Int32) (u : Nat → Int64) => (r = 0 ∧ u 0 = 1)) (fun u t => pPost dC dI (va_A [(h0, .inr (12, [.ref ma, .ref rn, .ref ef, .ref ck, .ref tr, .int 0, .int 0, .int 0, .int 0, .long 0])), (ma, .inr (7, [.ref fi, .ref se, .ref ce, .ref pr, .ref di, .ref dr, .ref li, .ref ru, .ref ba, .int 1000, .int 0, .int 0, .int 0, .int 0, .int 0, .int 0])), (li, .inr (6, [.ref so, .ref va, .int 0, .int 0])), (so, .inl (cC, 40, .inl (fun _ => 0))), (va, .inl (cD, 40, .inl (fun _ => 0))), (o9, .inl (cO, 1, .inr (.inl f0)))] sz) [(o9, .inl (cO, 1, .inr (.inl u)))] [(cO, .long)] t) (va_A [(h0, .inr (12, [.ref ma, .ref rn, .ref ef, .ref ck, .ref tr, .int 0, .int 0, .int 0, .int 0, .long 0])), (ma, .inr (7, [.ref fi, .ref se, .ref ce, .ref pr, .ref di, .ref dr, .ref li, .ref ru, .ref ba, .int 1000, .int 0, .int 0, .int 0, .int 0, .int 0, .int 0])), (li, .inr (6, [.ref so, .ref va, .int 0, .int 0])), (so, .inl (cC, 40, .inl (fun _ => 0))), (va, .inl (cD, 40, .inl (fun _ => 0))), (o9, .inl (cO, 1, .inr (.inl f0)))] sz)) 0 0 (va_A [(h0, .inr (12, [.ref ma, .ref rn, .ref ef, .ref ck, .ref tr, .int 0, .int 0, .int 0, .int 0, .long 0])), (ma, .inr (7, [.ref fi, .ref se, .ref ce, .ref pr, .ref di, .ref dr, .ref li, .ref ru, .ref ba, .int 1000, .int 0, .int 0, .int 0, .int 0, .int 0, .int 0])), (li, .inr (6, [.ref so, .ref va, .int 0, .int 0])), (so, .inl (cC, 40, .inl (fun _ => 0))), (va, .inl (cD, 40, .inl (fun _ => 0))), (o9, .inl (cO, 1, .inr (.inl f0)))] sz) := by
  refine va_MetW (cc := cL_number) (maxL := 4) (ret := (some .int)) (hh := [(0, 9, 12, 15)]) (by decide) rfl ?_
  intro p e s m args below meth c s₁ B hml hv
  obtain ⟨rfl, hsz, hP, hK, hD0, hE⟩ := hv
  have hx := B.exec
  have hb := B.bytes
  have hr := B.returns
  have hts0 := atoms_spec (ws := wsW_ yL_number cL_number 4 (some .int) [(0, 9, 12, 15)]) B.pre
  have htb := vx_table (x := yL_number) B (hts0 _ List.mem_cons_self)
  have hts := fun (w : Cond) (h : w ∈ pw) => hts0 w (List.mem_cons_of_mem _ h)
  have hown : s.vm.findClass RL = some m.cls := findClass_of_methodNamed B.named
  have hlocks := B.notSynchronized
  subst hsz
  have hD := hD0.self (sz := s.heap.size)
  generalize hAe : va_A [(h0, .inr (12, [.ref ma, .ref rn, .ref ef, .ref ck, .ref tr, .int 0, .int 0, .int 0, .int 0, .long 0])), (ma, .inr (7, [.ref fi, .ref se, .ref ce, .ref pr, .ref di, .ref dr, .ref li, .ref ru, .ref ba, .int 1000, .int 0, .int 0, .int 0, .int 0, .int 0, .int 0])), (li, .inr (6, [.ref so, .ref va, .int 0, .int 0])), (so, .inl (cC, 40, .inl (fun _ => 0))), (va, .inl (cD, 40, .inl (fun _ => 0))), (o9, .inl (cO, 1, .inr (.inl f0)))] s.heap.size = A at hD hE ⊢
  have hA : ∀ q : Nat, s.heap.size ≤ q → A q := fun q h => by rw [← hAe]; exact Or.inr h
  have hS : va_S A s.heap s.heap [] := va_S.rf
  have hN := hE.1
  have hP : va_P (dC, dI) pcl [(h0, .inr (12, [.ref ma, .ref rn, .ref ef, .ref ck, .ref tr, .int 0, .int 0, .int 0, .int 0, .long 0])), (ma, .inr (7, [.ref fi, .ref se, .ref ce, .ref pr, .ref di, .ref dr, .ref li, .ref ru, .ref ba, .int 1000, .int 0, .int 0, .int 0, .int 0, .int 0, .int 0])), (li, .inr (6, [.ref so, .ref va, .int 0, .int 0])), (so, .inl (cC, 40, .inl (fun _ => 0))), (va, .inl (cD, 40, .inl (fun _ => 0))), (o9, .inl (cO, 1, .inr (.inl f0)))] s.heap := hP
  have hl := lv_entry ([.ref h0, .int n, .ref o9]) (n := 4) (Nat.le_of_ble_eq_true rfl)
  rw [lg_entry_eq]
  generalize (lg_sl ([.ref h0, .int n, .ref o9]) ++ List.replicate (4 - (lg_sl ([.ref h0, .int n, .ref o9])).length) Slot.unset).toArray = ls at hl ⊢
  have hl : lv_has ls 4 [(0, .ref h0), (1, .int n), (2, .ref o9)] := hl
  obtain ⟨H, hH0⟩ : ∃ H, H = s.heap := ⟨_, rfl⟩
  rw [← hH0] at hP ⊢
  have hS : va_S A s.heap H [] := by rw [hH0]; exact hS
  refine lv_aload_n hx hb dL_number_0 rfl (lv_at hl 2 rfl) ?_
  refine lv_iconst (v := 0) hx hb dL_number_1 (by decide) ?_
  refine lv_aload_n hx hb dL_number_2 rfl (lv_at hl 0 rfl) ?_
  refine lv_iload_n hx hb dL_number_3 rfl (lv_at hl 1 rfl) ?_
  have hPc := hP.sub (ws' := [(h0, .inr (12, [.ref ma, .ref rn, .ref ef, .ref ck, .ref tr, .int 0, .int 0, .int 0, .int 0, .long 0])), (ma, .inr (7, [.ref fi, .ref se, .ref ce, .ref pr, .ref di, .ref dr, .ref li, .ref ru, .ref ba, .int 1000, .int 0, .int 0, .int 0, .int 0, .int 0, .int 0])), (li, .inr (6, [.ref so, .ref va, .int 0, .int 0])), (so, .inl (cC, 40, .inl (fun _ => 0))), (va, .inl (cD, 40, .inl (fun _ => 0)))]) [0, 1, 2, 3, 4] rfl
  have hDc := hD.sub (ws' := [(h0, .inr (12, [.ref ma, .ref rn, .ref ef, .ref ck, .ref tr, .int 0, .int 0, .int 0, .int 0, .long 0])), (ma, .inr (7, [.ref fi, .ref se, .ref ce, .ref pr, .ref di, .ref dr, .ref li, .ref ru, .ref ba, .int 1000, .int 0, .int 0, .int 0, .int 0, .int 0, .int 0])), (li, .inr (6, [.ref so, .ref va, .int 0, .int 0])), (so, .inl (cC, 40, .inl (fun _ => 0))), (va, .inl (cD, 40, .inl (fun _ => 0)))]) [0, 1, 2, 3, 4] (by decide) rfl
  have hKc := hK.sub (tys' := [(cC, .int), (cD, .int)]) [0, 1] rfl
  have hFc := va_free (wc := [(h0, .inr (12, [.ref ma, .ref rn, .ref ef, .ref ck, .ref tr, .int 0, .int 0, .int 0, .int 0, .long 0])), (ma, .inr (7, [.ref fi, .ref se, .ref ce, .ref pr, .ref di, .ref dr, .ref li, .ref ru, .ref ba, .int 1000, .int 0, .int 0, .int 0, .int 0, .int 0, .int 0])), (li, .inr (6, [.ref so, .ref va, .int 0, .int 0])), (so, .inl (cC, 40, .inl (fun _ => 0))), (va, .inl (cD, 40, .inl (fun _ => 0)))]) hD hS hA [0, 1, 2, 3, 4] rfl
  refine va_calli (va_runV (As := [.int n]) (rest := [.int 0, .ref o9]) ⟨hx, hb, hml, hown, hts⟩ (c_X11_number l dC dI z h0 ma rn ef ck tr fi se ce pr di dr li ru ba so va cC cD n H.size) (cwV 1 hts (ws_goodV e277 e278 e280 e270 e279) rfl rfl rfl ⟨rfl, by decide +kernel, by decide +kernel, by decide +kernel⟩ ⟨Nat.le_of_ble_eq_true rfl, Nat.le_of_ble_eq_true rfl⟩) ⟨pPre_blind, va_recv hKc hPc (ci := 12) (q0 := 0) rfl rfl, fun U hU hW => ⟨rfl, pPre_at hPc hKc hDc hE hS hFc U hU hW⟩⟩ rfl rfl hl.1 rfl (lv_room (Nat.le_of_ble_eq_true rfl)) dL_number_4 ⟨Nat.le_of_ble_eq_true rfl, Nat.le_of_ble_eq_true rfl⟩) hS (fun q _ h => hFc q h) hFc (fun r1 u4 t H1 locs ht hvm hw hB hz1 hk1 hS => ?_)
  obtain ⟨y2, y3, hP1, hK1, hD1⟩ := hB
  rw [ht] at hP1
  have hK1 := va_K.moved hvm.symm hK1
  obtain ⟨hP, hD⟩ := va_join (wr := [(o9, .inl (cO, 1, .inr (.inl f0)))]) (w1 := [(h0, .inr (12, [.ref ma, .ref rn, .ref ef, .ref ck, .ref tr, .int 0, .int 0, .int 0, .int 0, .long 0])), (ma, .inr (7, [.ref fi, .ref se, .ref ce, .ref pr, .ref di, .ref dr, .ref li, .ref ru, .ref ba, .int 1000, .int 0, .int 0, .int 0, .int 0, .int 0, .int 0])), (li, .inr (6, [.ref so, .ref va, .int 1, .int 0])), (so, .inl (cC, 40, .inl y2)), (va, .inl (cD, 40, .inl y3))]) hP hD [0, 1, 2, 3, 4] [5] rfl rfl (by decide) (by decide) hk1 hFc hP1 hD1
  have hK := hK.app hK1
  generalize H1 = H at hP hS ⊢
  have hP : va_P (dC, dI) pcl [(o9, .inl (cO, 1, .inr (.inl f0))), (h0, .inr (12, [.ref ma, .ref rn, .ref ef, .ref ck, .ref tr, .int 0, .int 0, .int 0, .int 0, .long 0])), (ma, .inr (7, [.ref fi, .ref se, .ref ce, .ref pr, .ref di, .ref dr, .ref li, .ref ru, .ref ba, .int 1000, .int 0, .int 0, .int 0, .int 0, .int 0, .int 0])), (li, .inr (6, [.ref so, .ref va, .int 1, .int 0])), (so, .inl (cC, 40, .inl y2)), (va, .inl (cD, 40, .inl y3))] H := hP
  have hD : va_D A [(o9, .inl (cO, 1, .inr (.inl f0))), (h0, .inr (12, [.ref ma, .ref rn, .ref ef, .ref ck, .ref tr, .int 0, .int 0, .int 0, .int 0, .long 0])), (ma, .inr (7, [.ref fi, .ref se, .ref ce, .ref pr, .ref di, .ref dr, .ref li, .ref ru, .ref ba, .int 1000, .int 0, .int 0, .int 0, .int 0, .int 0, .int 0])), (li, .inr (6, [.ref so, .ref va, .int 1, .int 0])), (so, .inl (cC, 40, .inl y2)), (va, .inl (cD, 40, .inl y3))] := hD
  have hK : va_K (dC, dI) pcl [(cC, .int), (cD, .int), (cO, .long), (cC, .int), (cD, .int)] s := hK
  have hK := hK.sub (tys' := [(cC, .int), (cD, .int), (cO, .long)]) [0, 1, 2] rfl
  subst hw
  refine lv_i2l (v := 1) hx hb dL_number_7 (by decide) ?_
  refine va_last hx hb hK hP hD hS 0 2 rfl rfl (by unfold vp_in; decide) dL_number_8 (fun H locs hP hD hS => ?_)
  obtain ⟨f5, ef5⟩ : ∃ f9, f9 = vp_updL f0 (0 : Int32).toNatClampNeg 1 := ⟨_, rfl⟩
  rw [← ef5] at hP hD
  have hP : va_P (dC, dI) pcl [(o9, .inl (cO, 1, .inr (.inl f5))), (h0, .inr (12, [.ref ma, .ref rn, .ref ef, .ref ck, .ref tr, .int 0, .int 0, .int 0, .int 0, .long 0])), (ma, .inr (7, [.ref fi, .ref se, .ref ce, .ref pr, .ref di, .ref dr, .ref li, .ref ru, .ref ba, .int 1000, .int 0, .int 0, .int 0, .int 0, .int 0, .int 0])), (li, .inr (6, [.ref so, .ref va, .int 1, .int 0])), (so, .inl (cC, 40, .inl y2)), (va, .inl (cD, 40, .inl y3))] H := hP
  have hD : va_D A [(o9, .inl (cO, 1, .inr (.inl f5))), (h0, .inr (12, [.ref ma, .ref rn, .ref ef, .ref ck, .ref tr, .int 0, .int 0, .int 0, .int 0, .long 0])), (ma, .inr (7, [.ref fi, .ref se, .ref ce, .ref pr, .ref di, .ref dr, .ref li, .ref ru, .ref ba, .int 1000, .int 0, .int 0, .int 0, .int 0, .int 0, .int 0])), (li, .inr (6, [.ref so, .ref va, .int 1, .int 0])), (so, .inl (cC, 40, .inl y2)), (va, .inl (cD, 40, .inl y3))] := hD
  refine lv_goto (tgt := 15) hx hb dL_number_9 (by decide) ?_
  refine lv_iconst (v := 0) hx hb dL_number_15 (by decide) ?_
  have hP9 := hP.sub (ws' := [(o9, .inl (cO, 1, .inr (.inl f5)))]) [0] rfl
  have hD9 := hD.sub (ws' := [(o9, .inl (cO, 1, .inr (.inl f5)))]) [0] (by decide) rfl
  have hK9 := hK.sub (tys' := [(cO, .long)]) [2] rfl
  refine W.widen (k := 0) (n := 0) (Nat.le_of_ble_eq_true rfl) (Nat.le_of_ble_eq_true rfl) ?_
  exact W.iret (v := 0) hx hb hr (fun t ht hW => ⟨⟨0, f5, rfl, ⟨rfl, by rw [ef5]; rfl⟩, by rw [ht]; exact hP9, va_K.moved hW.alike hK9, hD9⟩, hS.F ht⟩) hS.2.2 dL_number_16
set_option maxHeartbeats 4000000 in
set_option maxRecDepth 100000 in
theorem c_L_error (l : Launch) (hfl : l.stackTraces = false) (dC : Nat → ClassId) (dI : Nat → Nat → Nat) (z : pG) (h0 : Nat) (ma : Nat) (rn : Nat) (ef : Nat) (ck : Nat) (tr : Nat) (o9 : Nat) (cO : ClassId) (f0 : Nat → Int64) (sz : Nat) : Met l yL_error (wsW_ yL_error cL_error 3 (some .int) [(0, 8, 11, 28)]) ({ frames := 7, cells := 1, slots := 6, locals := 102 }) (va_Pc [.ref h0, .ref o9] (pPre z dC dI [(h0, .inr (12, [.ref ma, .ref rn, .ref ef, .ref ck, .ref tr, .int 0, .int 0, .int 0, .int 0, .long 0])), (o9, .inl (cO, 1, .inr (.inl f0)))] [(cO, .long)] sz)) (va_Qi (fun (r : Int32) (_ : Unit) => r = 1) (fun _ t => pPost dC dI (va_A [(h0, .inr (12, [.ref ma, .ref rn, .ref ef, .ref ck, .ref tr, .int 0, .int 0, .int 0, .int 0, .long 0])), (o9, .inl (cO, 1, .inr (.inl f0)))] sz) [] [] t) (va_A [(h0, .inr (12, [.ref ma, .ref rn, .ref ef, .ref ck, .ref tr, .int 0, .int 0, .int 0, .int 0, .long 0])), (o9, .inl (cO, 1, .inr (.inl f0)))] sz)) 1 6 (va_A [(h0, .inr (12, [.ref ma, .ref rn, .ref ef, .ref ck, .ref tr, .int 0, .int 0, .int 0, .int 0, .long 0])), (o9, .inl (cO, 1, .inr (.inl f0)))] sz) := by
  refine va_MetW (cc := cL_error) (maxL := 3) (ret := (some .int)) (hh := [(0, 8, 11, 28)]) (by decide) rfl ?_
  intro p e s m args below meth c s₁ B hml hv
  obtain ⟨rfl, hsz, hP, hK, hD0, hE⟩ := hv
  have hx := B.exec
  have hb := B.bytes
  have hr := B.returns
  have hts0 := atoms_spec (ws := wsW_ yL_error cL_error 3 (some .int) [(0, 8, 11, 28)]) B.pre
  have htb := vx_table (x := yL_error) B (hts0 _ List.mem_cons_self)
  have hts := fun (w : Cond) (h : w ∈ pw) => hts0 w (List.mem_cons_of_mem _ h)
  have hown : s.vm.findClass RL = some m.cls := findClass_of_methodNamed B.named
  have hlocks := B.notSynchronized
  subst hsz
  have hD := hD0.self (sz := s.heap.size)
  generalize hAe : va_A [(h0, .inr (12, [.ref ma, .ref rn, .ref ef, .ref ck, .ref tr, .int 0, .int 0, .int 0, .int 0, .long 0])), (o9, .inl (cO, 1, .inr (.inl f0)))] s.heap.size = A at hD hE ⊢
  have hA : ∀ q : Nat, s.heap.size ≤ q → A q := fun q h => by rw [← hAe]; exact Or.inr h
  have hS : va_S A s.heap s.heap [] := va_S.rf
  have hN := hE.1
  have hP : va_P (dC, dI) pcl [(h0, .inr (12, [.ref ma, .ref rn, .ref ef, .ref ck, .ref tr, .int 0, .int 0, .int 0, .int 0, .long 0])), (o9, .inl (cO, 1, .inr (.inl f0)))] s.heap := hP
  have hl := lv_entry ([.ref h0, .ref o9]) (n := 3) (Nat.le_of_ble_eq_true rfl)
  rw [lg_entry_eq]
  generalize (lg_sl ([.ref h0, .ref o9]) ++ List.replicate (3 - (lg_sl ([.ref h0, .ref o9])).length) Slot.unset).toArray = ls at hl ⊢
  have hl : lv_has ls 3 [(0, .ref h0), (1, .ref o9)] := hl
  obtain ⟨H, hH0⟩ : ∃ H, H = s.heap := ⟨_, rfl⟩
  rw [← hH0] at hP ⊢
  have hS : va_S A s.heap H [] := by rw [hH0]; exact hS
  refine lv_aload_n hx hb dL_error_0 rfl (lv_at hl 1 rfl) ?_
  refine lv_iconst (v := 0) hx hb dL_error_1 (by decide) ?_
  refine lv_aload_n hx hb dL_error_2 rfl (lv_at hl 0 rfl) ?_
  have hPc := hP.sub (ws' := [(h0, .inr (12, [.ref ma, .ref rn, .ref ef, .ref ck, .ref tr, .int 0, .int 0, .int 0, .int 0, .long 0]))]) [0] rfl
  have hDc := hD.sub (ws' := [(h0, .inr (12, [.ref ma, .ref rn, .ref ef, .ref ck, .ref tr, .int 0, .int 0, .int 0, .int 0, .long 0]))]) [0] (by decide) rfl
  have hKc := hK.sub (tys' := []) [] rfl
  have hFc := va_free (wc := [(h0, .inr (12, [.ref ma, .ref rn, .ref ef, .ref ck, .ref tr, .int 0, .int 0, .int 0, .int 0, .long 0]))]) hD hS hA [0] rfl
  refine vx_calli (vx_runV (As := []) (rest := [.int 0, .ref o9]) ⟨hx, hb, hml, hown, hts⟩ (c_X11_error l hfl dC dI z h0 ma rn ef ck tr H.size) (cwV 0 hts (ws_goodV e281 e282 e284 e270 e283) rfl rfl rfl ⟨rfl, by decide +kernel, by decide +kernel, by decide +kernel⟩ ⟨Nat.le_of_ble_eq_true rfl, Nat.le_of_ble_eq_true rfl⟩) ⟨pPre_blind, va_recv hKc hPc (ci := 12) (q0 := 0) rfl rfl, fun U hU hW => ⟨rfl, pPre_at hPc hKc hDc hE hS hFc U hU hW⟩⟩ rfl rfl hl.1 rfl (lv_room (Nat.le_of_ble_eq_true rfl)) dL_error_3 ⟨Nat.le_of_ble_eq_true rfl, Nat.le_of_ble_eq_true rfl⟩) hS (fun q _ h => hFc q h) hFc (fun q _ h => hFc q h) (fun E ce q9 u9 t H1 locs ht hvm hp9 hX hz1 hk1 hS hce hcv hcl => ?_) (fun _ _ _ _ _ _ _ h9 _ _ _ _ => h9.elim)
  rcases hX with rfl
  refine vx_catch hown [] ({ startPc := 0, endPc := 8, handlerPc := 11, catchType := 28 } : ExceptionTableEntry) [] (htb.trans rfl) (fun z9 h9 => absurd h9 List.not_mem_nil) (by decide) (by decide) (hts _ e649) (va_Nw.use rfl (hN _ n51)) hce hcv hcl ?_
  obtain ⟨hP, hD⟩ := va_join (wr := [(o9, .inl (cO, 1, .inr (.inl f0)))]) (w1 := []) hP hD [0] [1] rfl rfl (by decide) (by decide) hk1 hFc p_P0 p_D0
  generalize H1 = H at hP hS ⊢
  have hP : va_P (dC, dI) pcl [(o9, .inl (cO, 1, .inr (.inl f0)))] H := hP
  have hD : va_D A [(o9, .inl (cO, 1, .inr (.inl f0)))] := hD
  refine W.widen (k := 1) (n := 6) (Nat.le_of_ble_eq_true rfl) (Nat.le_of_ble_eq_true rfl) ?_
  refine lv_astore_n (lv' := [(2, .ref q9), (0, .ref h0), (1, .ref o9)]) hx hb dL_error_11 rfl hl (by decide) rfl (fun ls hl => ?_)
  refine lv_iconst (v := 1) hx hb dL_error_12 (by decide) ?_
  have hP9 := hP.sub (ws' := []) [] rfl
  have hD9 := hD.sub (ws' := []) [] (by decide) rfl
  have hK9 := hK.sub (tys' := []) [] rfl
  refine W.widen (k := 1) (n := 6) (Nat.le_of_ble_eq_true rfl) (Nat.le_of_ble_eq_true rfl) ?_
  exact W.iret (v := 1) hx hb hr (fun t ht hW => ⟨⟨1, (), rfl, rfl, by rw [ht]; exact hP9, va_K.moved hW.alike hK9, hD9⟩, hS.F ht⟩) hS.2.2 dL_error_13
set_option maxHeartbeats 4000000 in
set_option maxRecDepth 100000 in
theorem c_L_traceAt (l : Launch) (hfl : l.stackTraces = false) (dC : Nat → ClassId) (dI : Nat → Nat → Nat) (z : pG) (h0 : Nat) (ma : Nat) (rn : Nat) (ef : Nat) (ck : Nat) (tr : Nat) (n : Int32) (o9 : Nat) (cO : ClassId) (f0 : Nat → Int64) (sz : Nat) : Met l yL_traceAt (wsW_ yL_traceAt cL_traceAt 4 (some .int) [(0, 9, 12, 33)]) ({ frames := 7, cells := 1, slots := 6, locals := 103 }) (va_Pc [.ref h0, .int n, .ref o9] (pPre z dC dI [(h0, .inr (12, [.ref ma, .ref rn, .ref ef, .ref ck, .ref tr, .int 0, .int 0, .int 0, .int 0, .long 0])), (o9, .inl (cO, 1, .inr (.inl f0)))] [(cO, .long)] sz)) (va_Qi (fun (r : Int32) (_ : Unit) => r = 1) (fun _ t => pPost dC dI (va_A [(h0, .inr (12, [.ref ma, .ref rn, .ref ef, .ref ck, .ref tr, .int 0, .int 0, .int 0, .int 0, .long 0])), (o9, .inl (cO, 1, .inr (.inl f0)))] sz) [] [] t) (va_A [(h0, .inr (12, [.ref ma, .ref rn, .ref ef, .ref ck, .ref tr, .int 0, .int 0, .int 0, .int 0, .long 0])), (o9, .inl (cO, 1, .inr (.inl f0)))] sz)) 1 6 (va_A [(h0, .inr (12, [.ref ma, .ref rn, .ref ef, .ref ck, .ref tr, .int 0, .int 0, .int 0, .int 0, .long 0])), (o9, .inl (cO, 1, .inr (.inl f0)))] sz) := by
  refine va_MetW (cc := cL_traceAt) (maxL := 4) (ret := (some .int)) (hh := [(0, 9, 12, 33)]) (by decide) rfl ?_
  intro p e s m args below meth c s₁ B hml hv
  obtain ⟨rfl, hsz, hP, hK, hD0, hE⟩ := hv
  have hx := B.exec
  have hb := B.bytes
  have hr := B.returns
  have hts0 := atoms_spec (ws := wsW_ yL_traceAt cL_traceAt 4 (some .int) [(0, 9, 12, 33)]) B.pre
  have htb := vx_table (x := yL_traceAt) B (hts0 _ List.mem_cons_self)
  have hts := fun (w : Cond) (h : w ∈ pw) => hts0 w (List.mem_cons_of_mem _ h)
  have hown : s.vm.findClass RL = some m.cls := findClass_of_methodNamed B.named
  have hlocks := B.notSynchronized
  subst hsz
  have hD := hD0.self (sz := s.heap.size)
  generalize hAe : va_A [(h0, .inr (12, [.ref ma, .ref rn, .ref ef, .ref ck, .ref tr, .int 0, .int 0, .int 0, .int 0, .long 0])), (o9, .inl (cO, 1, .inr (.inl f0)))] s.heap.size = A at hD hE ⊢
  have hA : ∀ q : Nat, s.heap.size ≤ q → A q := fun q h => by rw [← hAe]; exact Or.inr h
  have hS : va_S A s.heap s.heap [] := va_S.rf
  have hN := hE.1
  have hP : va_P (dC, dI) pcl [(h0, .inr (12, [.ref ma, .ref rn, .ref ef, .ref ck, .ref tr, .int 0, .int 0, .int 0, .int 0, .long 0])), (o9, .inl (cO, 1, .inr (.inl f0)))] s.heap := hP
  have hl := lv_entry ([.ref h0, .int n, .ref o9]) (n := 4) (Nat.le_of_ble_eq_true rfl)
  rw [lg_entry_eq]
  generalize (lg_sl ([.ref h0, .int n, .ref o9]) ++ List.replicate (4 - (lg_sl ([.ref h0, .int n, .ref o9])).length) Slot.unset).toArray = ls at hl ⊢
  have hl : lv_has ls 4 [(0, .ref h0), (1, .int n), (2, .ref o9)] := hl
  obtain ⟨H, hH0⟩ : ∃ H, H = s.heap := ⟨_, rfl⟩
  rw [← hH0] at hP ⊢
  have hS : va_S A s.heap H [] := by rw [hH0]; exact hS
  refine lv_aload_n hx hb dL_traceAt_0 rfl (lv_at hl 2 rfl) ?_
  refine lv_iconst (v := 0) hx hb dL_traceAt_1 (by decide) ?_
  refine lv_aload_n hx hb dL_traceAt_2 rfl (lv_at hl 0 rfl) ?_
  refine lv_iload_n hx hb dL_traceAt_3 rfl (lv_at hl 1 rfl) ?_
  have hPc := hP.sub (ws' := [(h0, .inr (12, [.ref ma, .ref rn, .ref ef, .ref ck, .ref tr, .int 0, .int 0, .int 0, .int 0, .long 0]))]) [0] rfl
  have hDc := hD.sub (ws' := [(h0, .inr (12, [.ref ma, .ref rn, .ref ef, .ref ck, .ref tr, .int 0, .int 0, .int 0, .int 0, .long 0]))]) [0] (by decide) rfl
  have hKc := hK.sub (tys' := []) [] rfl
  have hFc := va_free (wc := [(h0, .inr (12, [.ref ma, .ref rn, .ref ef, .ref ck, .ref tr, .int 0, .int 0, .int 0, .int 0, .long 0]))]) hD hS hA [0] rfl
  refine vx_calli (vx_runV (As := [.int n]) (rest := [.int 0, .ref o9]) ⟨hx, hb, hml, hown, hts⟩ (c_X11_traceAt l hfl dC dI z h0 ma rn ef ck tr n H.size) (cwV 1 hts (ws_goodV e285 e286 e288 e270 e287) rfl rfl rfl ⟨rfl, by decide +kernel, by decide +kernel, by decide +kernel⟩ ⟨Nat.le_of_ble_eq_true rfl, Nat.le_of_ble_eq_true rfl⟩) ⟨pPre_blind, va_recv hKc hPc (ci := 12) (q0 := 0) rfl rfl, fun U hU hW => ⟨rfl, pPre_at hPc hKc hDc hE hS hFc U hU hW⟩⟩ rfl rfl hl.1 rfl (lv_room (Nat.le_of_ble_eq_true rfl)) dL_traceAt_4 ⟨Nat.le_of_ble_eq_true rfl, Nat.le_of_ble_eq_true rfl⟩) hS (fun q _ h => hFc q h) hFc (fun q _ h => hFc q h) (fun E ce q9 u9 t H1 locs ht hvm hp9 hX hz1 hk1 hS hce hcv hcl => ?_) (fun _ _ _ _ _ _ _ h9 _ _ _ _ => h9.elim)
  rcases hX with rfl
  refine vx_catch hown [] ({ startPc := 0, endPc := 9, handlerPc := 12, catchType := 33 } : ExceptionTableEntry) [] (htb.trans rfl) (fun z9 h9 => absurd h9 List.not_mem_nil) (by decide) (by decide) (hts _ e650) (va_Nw.use rfl (hN _ n48)) hce hcv hcl ?_
  obtain ⟨hP, hD⟩ := va_join (wr := [(o9, .inl (cO, 1, .inr (.inl f0)))]) (w1 := []) hP hD [0] [1] rfl rfl (by decide) (by decide) hk1 hFc p_P0 p_D0
  generalize H1 = H at hP hS ⊢
  have hP : va_P (dC, dI) pcl [(o9, .inl (cO, 1, .inr (.inl f0)))] H := hP
  have hD : va_D A [(o9, .inl (cO, 1, .inr (.inl f0)))] := hD
  refine W.widen (k := 1) (n := 6) (Nat.le_of_ble_eq_true rfl) (Nat.le_of_ble_eq_true rfl) ?_
  refine lv_astore_n (lv' := [(3, .ref q9), (0, .ref h0), (1, .int n), (2, .ref o9)]) hx hb dL_traceAt_12 rfl hl (by decide) rfl (fun ls hl => ?_)
  refine lv_iconst (v := 1) hx hb dL_traceAt_13 (by decide) ?_
  have hP9 := hP.sub (ws' := []) [] rfl
  have hD9 := hD.sub (ws' := []) [] (by decide) rfl
  have hK9 := hK.sub (tys' := []) [] rfl
  refine W.widen (k := 1) (n := 6) (Nat.le_of_ble_eq_true rfl) (Nat.le_of_ble_eq_true rfl) ?_
  exact W.iret (v := 1) hx hb hr (fun t ht hW => ⟨⟨1, (), rfl, rfl, by rw [ht]; exact hP9, va_K.moved hW.alike hK9, hD9⟩, hS.F ht⟩) hS.2.2 dL_traceAt_14
set_option maxHeartbeats 4000000 in
set_option maxRecDepth 100000 in
theorem c_L_at (l : Launch) (hfl : l.stackTraces = false) (dC : Nat → ClassId) (dI : Nat → Nat → Nat) (z : pG) (h0 : Nat) (ma : Nat) (rn : Nat) (ef : Nat) (ck : Nat) (tr : Nat) (fi : Nat) (se : Nat) (ce : Nat) (pr : Nat) (di : Nat) (dr : Nat) (li : Nat) (ru : Nat) (ba : Nat) (b1 : Nat) (b2 : Nat) (b3 : Nat) (n : Int32) (o9 : Nat) (cO : ClassId) (f0 : Nat → Int64) (sz : Nat) : Met l yL_at (wsW_ yL_at cL_at 4 (some .int) [(0, 9, 12, 33)]) ({ frames := 7, cells := 1, slots := 6, locals := 103 }) (va_Pc [.ref h0, .int n, .ref o9] (pPre z dC dI [(h0, .inr (12, [.ref ma, .ref rn, .ref ef, .ref ck, .ref tr, .int 0, .int 0, .int 0, .int 0, .long 0])), (ma, .inr (7, [.ref fi, .ref se, .ref ce, .ref pr, .ref di, .ref dr, .ref li, .ref ru, .ref ba, .int 1000, .int 0, .int 0, .int 0, .int 0, .int 0, .int 0])), (fi, .inr (11, [.ref b1, .ref b2, .ref b3, .int 0])), (o9, .inl (cO, 1, .inr (.inl f0)))] [(cO, .long)] sz)) (va_Qi (fun (r : Int32) (_ : Unit) => r = 1) (fun _ t => pPost dC dI (va_A [(h0, .inr (12, [.ref ma, .ref rn, .ref ef, .ref ck, .ref tr, .int 0, .int 0, .int 0, .int 0, .long 0])), (ma, .inr (7, [.ref fi, .ref se, .ref ce, .ref pr, .ref di, .ref dr, .ref li, .ref ru, .ref ba, .int 1000, .int 0, .int 0, .int 0, .int 0, .int 0, .int 0])), (fi, .inr (11, [.ref b1, .ref b2, .ref b3, .int 0])), (o9, .inl (cO, 1, .inr (.inl f0)))] sz) [] [] t) (va_A [(h0, .inr (12, [.ref ma, .ref rn, .ref ef, .ref ck, .ref tr, .int 0, .int 0, .int 0, .int 0, .long 0])), (ma, .inr (7, [.ref fi, .ref se, .ref ce, .ref pr, .ref di, .ref dr, .ref li, .ref ru, .ref ba, .int 1000, .int 0, .int 0, .int 0, .int 0, .int 0, .int 0])), (fi, .inr (11, [.ref b1, .ref b2, .ref b3, .int 0])), (o9, .inl (cO, 1, .inr (.inl f0)))] sz)) 1 6 (va_A [(h0, .inr (12, [.ref ma, .ref rn, .ref ef, .ref ck, .ref tr, .int 0, .int 0, .int 0, .int 0, .long 0])), (ma, .inr (7, [.ref fi, .ref se, .ref ce, .ref pr, .ref di, .ref dr, .ref li, .ref ru, .ref ba, .int 1000, .int 0, .int 0, .int 0, .int 0, .int 0, .int 0])), (fi, .inr (11, [.ref b1, .ref b2, .ref b3, .int 0])), (o9, .inl (cO, 1, .inr (.inl f0)))] sz) := by
  refine va_MetW (cc := cL_at) (maxL := 4) (ret := (some .int)) (hh := [(0, 9, 12, 33)]) (by decide) rfl ?_
  intro p e s m args below meth c s₁ B hml hv
  obtain ⟨rfl, hsz, hP, hK, hD0, hE⟩ := hv
  have hx := B.exec
  have hb := B.bytes
  have hr := B.returns
  have hts0 := atoms_spec (ws := wsW_ yL_at cL_at 4 (some .int) [(0, 9, 12, 33)]) B.pre
  have htb := vx_table (x := yL_at) B (hts0 _ List.mem_cons_self)
  have hts := fun (w : Cond) (h : w ∈ pw) => hts0 w (List.mem_cons_of_mem _ h)
  have hown : s.vm.findClass RL = some m.cls := findClass_of_methodNamed B.named
  have hlocks := B.notSynchronized
  subst hsz
  have hD := hD0.self (sz := s.heap.size)
  generalize hAe : va_A [(h0, .inr (12, [.ref ma, .ref rn, .ref ef, .ref ck, .ref tr, .int 0, .int 0, .int 0, .int 0, .long 0])), (ma, .inr (7, [.ref fi, .ref se, .ref ce, .ref pr, .ref di, .ref dr, .ref li, .ref ru, .ref ba, .int 1000, .int 0, .int 0, .int 0, .int 0, .int 0, .int 0])), (fi, .inr (11, [.ref b1, .ref b2, .ref b3, .int 0])), (o9, .inl (cO, 1, .inr (.inl f0)))] s.heap.size = A at hD hE ⊢
  have hA : ∀ q : Nat, s.heap.size ≤ q → A q := fun q h => by rw [← hAe]; exact Or.inr h
  have hS : va_S A s.heap s.heap [] := va_S.rf
  have hN := hE.1
  have hP : va_P (dC, dI) pcl [(h0, .inr (12, [.ref ma, .ref rn, .ref ef, .ref ck, .ref tr, .int 0, .int 0, .int 0, .int 0, .long 0])), (ma, .inr (7, [.ref fi, .ref se, .ref ce, .ref pr, .ref di, .ref dr, .ref li, .ref ru, .ref ba, .int 1000, .int 0, .int 0, .int 0, .int 0, .int 0, .int 0])), (fi, .inr (11, [.ref b1, .ref b2, .ref b3, .int 0])), (o9, .inl (cO, 1, .inr (.inl f0)))] s.heap := hP
  have hl := lv_entry ([.ref h0, .int n, .ref o9]) (n := 4) (Nat.le_of_ble_eq_true rfl)
  rw [lg_entry_eq]
  generalize (lg_sl ([.ref h0, .int n, .ref o9]) ++ List.replicate (4 - (lg_sl ([.ref h0, .int n, .ref o9])).length) Slot.unset).toArray = ls at hl ⊢
  have hl : lv_has ls 4 [(0, .ref h0), (1, .int n), (2, .ref o9)] := hl
  obtain ⟨H, hH0⟩ : ∃ H, H = s.heap := ⟨_, rfl⟩
  rw [← hH0] at hP ⊢
  have hS : va_S A s.heap H [] := by rw [hH0]; exact hS
  refine lv_aload_n hx hb dL_at_0 rfl (lv_at hl 2 rfl) ?_
  refine lv_iconst (v := 0) hx hb dL_at_1 (by decide) ?_
  refine lv_aload_n hx hb dL_at_2 rfl (lv_at hl 0 rfl) ?_
  refine lv_iload_n hx hb dL_at_3 rfl (lv_at hl 1 rfl) ?_
  have hPc := hP.sub (ws' := [(h0, .inr (12, [.ref ma, .ref rn, .ref ef, .ref ck, .ref tr, .int 0, .int 0, .int 0, .int 0, .long 0])), (ma, .inr (7, [.ref fi, .ref se, .ref ce, .ref pr, .ref di, .ref dr, .ref li, .ref ru, .ref ba, .int 1000, .int 0, .int 0, .int 0, .int 0, .int 0, .int 0])), (fi, .inr (11, [.ref b1, .ref b2, .ref b3, .int 0]))]) [0, 1, 2] rfl
  have hDc := hD.sub (ws' := [(h0, .inr (12, [.ref ma, .ref rn, .ref ef, .ref ck, .ref tr, .int 0, .int 0, .int 0, .int 0, .long 0])), (ma, .inr (7, [.ref fi, .ref se, .ref ce, .ref pr, .ref di, .ref dr, .ref li, .ref ru, .ref ba, .int 1000, .int 0, .int 0, .int 0, .int 0, .int 0, .int 0])), (fi, .inr (11, [.ref b1, .ref b2, .ref b3, .int 0]))]) [0, 1, 2] (by decide) rfl
  have hKc := hK.sub (tys' := []) [] rfl
  have hFc := va_free (wc := [(h0, .inr (12, [.ref ma, .ref rn, .ref ef, .ref ck, .ref tr, .int 0, .int 0, .int 0, .int 0, .long 0])), (ma, .inr (7, [.ref fi, .ref se, .ref ce, .ref pr, .ref di, .ref dr, .ref li, .ref ru, .ref ba, .int 1000, .int 0, .int 0, .int 0, .int 0, .int 0, .int 0])), (fi, .inr (11, [.ref b1, .ref b2, .ref b3, .int 0]))]) hD hS hA [0, 1, 2] rfl
  refine vx_calli (vx_runV (As := [.int n]) (rest := [.int 0, .ref o9]) ⟨hx, hb, hml, hown, hts⟩ (c_X11_at l hfl dC dI z h0 ma rn ef ck tr fi se ce pr di dr li ru ba b1 b2 b3 n H.size) (cwV 1 hts (ws_goodV e289 e290 e292 e270 e291) rfl rfl rfl ⟨rfl, by decide +kernel, by decide +kernel, by decide +kernel⟩ ⟨Nat.le_of_ble_eq_true rfl, Nat.le_of_ble_eq_true rfl⟩) ⟨pPre_blind, va_recv hKc hPc (ci := 12) (q0 := 0) rfl rfl, fun U hU hW => ⟨rfl, pPre_at hPc hKc hDc hE hS hFc U hU hW⟩⟩ rfl rfl hl.1 rfl (lv_room (Nat.le_of_ble_eq_true rfl)) dL_at_4 ⟨Nat.le_of_ble_eq_true rfl, Nat.le_of_ble_eq_true rfl⟩) hS (fun q _ h => hFc q h) hFc (fun q _ h => hFc q h) (fun E ce q9 u9 t H1 locs ht hvm hp9 hX hz1 hk1 hS hce hcv hcl => ?_) (fun _ _ _ _ _ _ _ h9 _ _ _ _ => h9.elim)
  rcases hX with rfl
  refine vx_catch hown [] ({ startPc := 0, endPc := 9, handlerPc := 12, catchType := 33 } : ExceptionTableEntry) [] (htb.trans rfl) (fun z9 h9 => absurd h9 List.not_mem_nil) (by decide) (by decide) (hts _ e650) (va_Nw.use rfl (hN _ n48)) hce hcv hcl ?_
  obtain ⟨hP, hD⟩ := va_join (wr := [(o9, .inl (cO, 1, .inr (.inl f0)))]) (w1 := []) hP hD [0, 1, 2] [3] rfl rfl (by decide) (by decide) hk1 hFc p_P0 p_D0
  generalize H1 = H at hP hS ⊢
  have hP : va_P (dC, dI) pcl [(o9, .inl (cO, 1, .inr (.inl f0)))] H := hP
  have hD : va_D A [(o9, .inl (cO, 1, .inr (.inl f0)))] := hD
  refine W.widen (k := 1) (n := 6) (Nat.le_of_ble_eq_true rfl) (Nat.le_of_ble_eq_true rfl) ?_
  refine lv_astore_n (lv' := [(3, .ref q9), (0, .ref h0), (1, .int n), (2, .ref o9)]) hx hb dL_at_12 rfl hl (by decide) rfl (fun ls hl => ?_)
  refine lv_iconst (v := 1) hx hb dL_at_13 (by decide) ?_
  have hP9 := hP.sub (ws' := []) [] rfl
  have hD9 := hD.sub (ws' := []) [] (by decide) rfl
  have hK9 := hK.sub (tys' := []) [] rfl
  refine W.widen (k := 1) (n := 6) (Nat.le_of_ble_eq_true rfl) (Nat.le_of_ble_eq_true rfl) ?_
  exact W.iret (v := 1) hx hb hr (fun t ht hW => ⟨⟨1, (), rfl, rfl, by rw [ht]; exact hP9, va_K.moved hW.alike hK9, hD9⟩, hS.F ht⟩) hS.2.2 dL_at_14
set_option maxHeartbeats 4000000 in
set_option maxRecDepth 100000 in
theorem c_L_cell (l : Launch) (hfl : l.stackTraces = false) (dC : Nat → ClassId) (dI : Nat → Nat → Nat) (z : pG) (h0 : Nat) (ma : Nat) (rn : Nat) (ef : Nat) (ck : Nat) (tr : Nat) (fi : Nat) (se : Nat) (ce : Nat) (pr : Nat) (di : Nat) (dr : Nat) (li : Nat) (ru : Nat) (ba : Nat) (cB : ClassId) (n : Int32) (o9 : Nat) (cO : ClassId) (f0 : Nat → Int64) (sz : Nat) : Met l yL_cell (wsW_ yL_cell cL_cell 4 (some .int) [(0, 9, 12, 33)]) ({ frames := 7, cells := 1, slots := 6, locals := 103 }) (va_Pc [.ref h0, .int n, .ref o9] (pPre z dC dI [(h0, .inr (12, [.ref ma, .ref rn, .ref ef, .ref ck, .ref tr, .int 0, .int 0, .int 0, .int 0, .long 0])), (ma, .inr (7, [.ref fi, .ref se, .ref ce, .ref pr, .ref di, .ref dr, .ref li, .ref ru, .ref ba, .int 1000, .int 0, .int 0, .int 0, .int 0, .int 0, .int 0])), (ce, .inl (cB, 100, .inl (fun _ => 0))), (o9, .inl (cO, 1, .inr (.inl f0)))] [(cB, .int), (cO, .long)] sz)) (va_Qi (fun (r : Int32) (u : Nat → Int64) => (r = 1 ∧ (n < 0 ∨ ¬ n < 100)) ∨ (r = 0 ∧ u 0 = 0 ∧ ¬ n < 0 ∧ n < 100)) (fun u t => pPost dC dI (va_A [(h0, .inr (12, [.ref ma, .ref rn, .ref ef, .ref ck, .ref tr, .int 0, .int 0, .int 0, .int 0, .long 0])), (ma, .inr (7, [.ref fi, .ref se, .ref ce, .ref pr, .ref di, .ref dr, .ref li, .ref ru, .ref ba, .int 1000, .int 0, .int 0, .int 0, .int 0, .int 0, .int 0])), (ce, .inl (cB, 100, .inl (fun _ => 0))), (o9, .inl (cO, 1, .inr (.inl f0)))] sz) [(o9, .inl (cO, 1, .inr (.inl u)))] [(cO, .long)] t) (va_A [(h0, .inr (12, [.ref ma, .ref rn, .ref ef, .ref ck, .ref tr, .int 0, .int 0, .int 0, .int 0, .long 0])), (ma, .inr (7, [.ref fi, .ref se, .ref ce, .ref pr, .ref di, .ref dr, .ref li, .ref ru, .ref ba, .int 1000, .int 0, .int 0, .int 0, .int 0, .int 0, .int 0])), (ce, .inl (cB, 100, .inl (fun _ => 0))), (o9, .inl (cO, 1, .inr (.inl f0)))] sz)) 1 6 (va_A [(h0, .inr (12, [.ref ma, .ref rn, .ref ef, .ref ck, .ref tr, .int 0, .int 0, .int 0, .int 0, .long 0])), (ma, .inr (7, [.ref fi, .ref se, .ref ce, .ref pr, .ref di, .ref dr, .ref li, .ref ru, .ref ba, .int 1000, .int 0, .int 0, .int 0, .int 0, .int 0, .int 0])), (ce, .inl (cB, 100, .inl (fun _ => 0))), (o9, .inl (cO, 1, .inr (.inl f0)))] sz) := by
  refine va_MetW (cc := cL_cell) (maxL := 4) (ret := (some .int)) (hh := [(0, 9, 12, 33)]) (by decide) rfl ?_
  intro p e s m args below meth c s₁ B hml hv
  obtain ⟨rfl, hsz, hP, hK, hD0, hE⟩ := hv
  have hx := B.exec
  have hb := B.bytes
  have hr := B.returns
  have hts0 := atoms_spec (ws := wsW_ yL_cell cL_cell 4 (some .int) [(0, 9, 12, 33)]) B.pre
  have htb := vx_table (x := yL_cell) B (hts0 _ List.mem_cons_self)
  have hts := fun (w : Cond) (h : w ∈ pw) => hts0 w (List.mem_cons_of_mem _ h)
  have hown : s.vm.findClass RL = some m.cls := findClass_of_methodNamed B.named
  have hlocks := B.notSynchronized
  subst hsz
  have hD := hD0.self (sz := s.heap.size)
  generalize hAe : va_A [(h0, .inr (12, [.ref ma, .ref rn, .ref ef, .ref ck, .ref tr, .int 0, .int 0, .int 0, .int 0, .long 0])), (ma, .inr (7, [.ref fi, .ref se, .ref ce, .ref pr, .ref di, .ref dr, .ref li, .ref ru, .ref ba, .int 1000, .int 0, .int 0, .int 0, .int 0, .int 0, .int 0])), (ce, .inl (cB, 100, .inl (fun _ => 0))), (o9, .inl (cO, 1, .inr (.inl f0)))] s.heap.size = A at hD hE ⊢
  have hA : ∀ q : Nat, s.heap.size ≤ q → A q := fun q h => by rw [← hAe]; exact Or.inr h
  have hS : va_S A s.heap s.heap [] := va_S.rf
  have hN := hE.1
  have hP : va_P (dC, dI) pcl [(h0, .inr (12, [.ref ma, .ref rn, .ref ef, .ref ck, .ref tr, .int 0, .int 0, .int 0, .int 0, .long 0])), (ma, .inr (7, [.ref fi, .ref se, .ref ce, .ref pr, .ref di, .ref dr, .ref li, .ref ru, .ref ba, .int 1000, .int 0, .int 0, .int 0, .int 0, .int 0, .int 0])), (ce, .inl (cB, 100, .inl (fun _ => 0))), (o9, .inl (cO, 1, .inr (.inl f0)))] s.heap := hP
  have hl := lv_entry ([.ref h0, .int n, .ref o9]) (n := 4) (Nat.le_of_ble_eq_true rfl)
  rw [lg_entry_eq]
  generalize (lg_sl ([.ref h0, .int n, .ref o9]) ++ List.replicate (4 - (lg_sl ([.ref h0, .int n, .ref o9])).length) Slot.unset).toArray = ls at hl ⊢
  have hl : lv_has ls 4 [(0, .ref h0), (1, .int n), (2, .ref o9)] := hl
  obtain ⟨H, hH0⟩ : ∃ H, H = s.heap := ⟨_, rfl⟩
  rw [← hH0] at hP ⊢
  have hS : va_S A s.heap H [] := by rw [hH0]; exact hS
  refine lv_aload_n hx hb dL_cell_0 rfl (lv_at hl 2 rfl) ?_
  refine lv_iconst (v := 0) hx hb dL_cell_1 (by decide) ?_
  refine lv_aload_n hx hb dL_cell_2 rfl (lv_at hl 0 rfl) ?_
  refine lv_iload_n hx hb dL_cell_3 rfl (lv_at hl 1 rfl) ?_
  have hPc := hP.sub (ws' := [(h0, .inr (12, [.ref ma, .ref rn, .ref ef, .ref ck, .ref tr, .int 0, .int 0, .int 0, .int 0, .long 0])), (ma, .inr (7, [.ref fi, .ref se, .ref ce, .ref pr, .ref di, .ref dr, .ref li, .ref ru, .ref ba, .int 1000, .int 0, .int 0, .int 0, .int 0, .int 0, .int 0])), (ce, .inl (cB, 100, .inl (fun _ => 0)))]) [0, 1, 2] rfl
  have hDc := hD.sub (ws' := [(h0, .inr (12, [.ref ma, .ref rn, .ref ef, .ref ck, .ref tr, .int 0, .int 0, .int 0, .int 0, .long 0])), (ma, .inr (7, [.ref fi, .ref se, .ref ce, .ref pr, .ref di, .ref dr, .ref li, .ref ru, .ref ba, .int 1000, .int 0, .int 0, .int 0, .int 0, .int 0, .int 0])), (ce, .inl (cB, 100, .inl (fun _ => 0)))]) [0, 1, 2] (by decide) rfl
  have hKc := hK.sub (tys' := [(cB, .int)]) [0] rfl
  have hFc := va_free (wc := [(h0, .inr (12, [.ref ma, .ref rn, .ref ef, .ref ck, .ref tr, .int 0, .int 0, .int 0, .int 0, .long 0])), (ma, .inr (7, [.ref fi, .ref se, .ref ce, .ref pr, .ref di, .ref dr, .ref li, .ref ru, .ref ba, .int 1000, .int 0, .int 0, .int 0, .int 0, .int 0, .int 0])), (ce, .inl (cB, 100, .inl (fun _ => 0)))]) hD hS hA [0, 1, 2] rfl
  refine vx_calli (vx_runV (As := [.int n]) (rest := [.int 0, .ref o9]) ⟨hx, hb, hml, hown, hts⟩ (c_X11_cell l hfl dC dI z h0 ma rn ef ck tr fi se ce pr di dr li ru ba cB n H.size) (cwV 1 hts (ws_goodV e293 e294 e296 e270 e295) rfl rfl rfl ⟨rfl, by decide +kernel, by decide +kernel, by decide +kernel⟩ ⟨Nat.le_of_ble_eq_true rfl, Nat.le_of_ble_eq_true rfl⟩) ⟨pPre_blind, va_recv hKc hPc (ci := 12) (q0 := 0) rfl rfl, fun U hU hW => ⟨rfl, pPre_at hPc hKc hDc hE hS hFc U hU hW⟩⟩ rfl rfl hl.1 rfl (lv_room (Nat.le_of_ble_eq_true rfl)) dL_cell_4 ⟨Nat.le_of_ble_eq_true rfl, Nat.le_of_ble_eq_true rfl⟩) hS (fun q _ h => hFc q h) hFc (fun q _ h => hFc q h) (fun E ce q9 u9 t H1 locs ht hvm hp9 hX hz1 hk1 hS hce hcv hcl => ?_) (fun r1 u2 t H1 locs ht hvm hw hB hz1 hk1 hS => ?_)
  · rcases hX with ⟨rfl, p3⟩
    refine vx_catch hown [] ({ startPc := 0, endPc := 9, handlerPc := 12, catchType := 33 } : ExceptionTableEntry) [] (htb.trans rfl) (fun z9 h9 => absurd h9 List.not_mem_nil) (by decide) (by decide) (hts _ e650) (va_Nw.use rfl (hN _ n48)) hce hcv hcl ?_
    obtain ⟨hP, hD⟩ := va_join (wr := [(o9, .inl (cO, 1, .inr (.inl f0)))]) (w1 := []) hP hD [0, 1, 2] [3] rfl rfl (by decide) (by decide) hk1 hFc p_P0 p_D0
    generalize H1 = H at hP hS ⊢
    have hP : va_P (dC, dI) pcl [(o9, .inl (cO, 1, .inr (.inl f0)))] H := hP
    have hD : va_D A [(o9, .inl (cO, 1, .inr (.inl f0)))] := hD
    refine W.widen (k := 1) (n := 6) (Nat.le_of_ble_eq_true rfl) (Nat.le_of_ble_eq_true rfl) ?_
    refine lv_astore_n (lv' := [(3, .ref q9), (0, .ref h0), (1, .int n), (2, .ref o9)]) hx hb dL_cell_12 rfl hl (by decide) rfl (fun ls hl => ?_)
    refine lv_iconst (v := 1) hx hb dL_cell_13 (by decide) ?_
    have hP9 := hP.sub (ws' := [(o9, .inl (cO, 1, .inr (.inl f0)))]) [0] rfl
    have hD9 := hD.sub (ws' := [(o9, .inl (cO, 1, .inr (.inl f0)))]) [0] (by decide) rfl
    have hK9 := hK.sub (tys' := [(cO, .long)]) [1] rfl
    refine W.widen (k := 1) (n := 6) (Nat.le_of_ble_eq_true rfl) (Nat.le_of_ble_eq_true rfl) ?_
    exact W.iret (v := 1) hx hb hr (fun t ht hW => ⟨⟨1, f0, rfl, (Or.inl ⟨rfl, p3⟩), by rw [ht]; exact hP9, va_K.moved hW.alike hK9, hD9⟩, hS.F ht⟩) hS.2.2 dL_cell_14
  · obtain ⟨hP1, hK1, hD1⟩ := hB
    rw [ht] at hP1
    have hK1 := va_K.moved hvm.symm hK1
    obtain ⟨hP, hD⟩ := va_join (wr := [(o9, .inl (cO, 1, .inr (.inl f0)))]) (w1 := [(h0, .inr (12, [.ref ma, .ref rn, .ref ef, .ref ck, .ref tr, .int 0, .int 0, .int 0, .int 0, .long 0])), (ma, .inr (7, [.ref fi, .ref se, .ref ce, .ref pr, .ref di, .ref dr, .ref li, .ref ru, .ref ba, .int 1000, .int 0, .int 0, .int 0, .int 0, .int 0, .int 0])), (ce, .inl (cB, 100, .inl (fun _ => 0)))]) hP hD [0, 1, 2] [3] rfl rfl (by decide) (by decide) hk1 hFc hP1 hD1
    have hK := hK.app hK1
    generalize H1 = H at hP hS ⊢
    have hP : va_P (dC, dI) pcl [(o9, .inl (cO, 1, .inr (.inl f0))), (h0, .inr (12, [.ref ma, .ref rn, .ref ef, .ref ck, .ref tr, .int 0, .int 0, .int 0, .int 0, .long 0])), (ma, .inr (7, [.ref fi, .ref se, .ref ce, .ref pr, .ref di, .ref dr, .ref li, .ref ru, .ref ba, .int 1000, .int 0, .int 0, .int 0, .int 0, .int 0, .int 0])), (ce, .inl (cB, 100, .inl (fun _ => 0)))] H := hP
    have hD : va_D A [(o9, .inl (cO, 1, .inr (.inl f0))), (h0, .inr (12, [.ref ma, .ref rn, .ref ef, .ref ck, .ref tr, .int 0, .int 0, .int 0, .int 0, .long 0])), (ma, .inr (7, [.ref fi, .ref se, .ref ce, .ref pr, .ref di, .ref dr, .ref li, .ref ru, .ref ba, .int 1000, .int 0, .int 0, .int 0, .int 0, .int 0, .int 0])), (ce, .inl (cB, 100, .inl (fun _ => 0)))] := hD
    have hK : va_K (dC, dI) pcl [(cB, .int), (cO, .long), (cB, .int)] s := hK
    have hK := hK.sub (tys' := [(cB, .int), (cO, .long)]) [0, 1] rfl
    refine W.widen (k := 1) (n := 6) (Nat.le_of_ble_eq_true rfl) (Nat.le_of_ble_eq_true rfl) ?_
    rcases hw with ⟨rfl, p4⟩
    refine lv_i2l (v := 0) hx hb dL_cell_7 (by decide) ?_
    refine va_last hx hb hK hP hD hS 0 1 rfl rfl (by unfold vp_in; decide) dL_cell_8 (fun H locs hP hD hS => ?_)
    obtain ⟨f5, ef5⟩ : ∃ f9, f9 = vp_updL f0 (0 : Int32).toNatClampNeg 0 := ⟨_, rfl⟩
    rw [← ef5] at hP hD
    have hP : va_P (dC, dI) pcl [(o9, .inl (cO, 1, .inr (.inl f5))), (h0, .inr (12, [.ref ma, .ref rn, .ref ef, .ref ck, .ref tr, .int 0, .int 0, .int 0, .int 0, .long 0])), (ma, .inr (7, [.ref fi, .ref se, .ref ce, .ref pr, .ref di, .ref dr, .ref li, .ref ru, .ref ba, .int 1000, .int 0, .int 0, .int 0, .int 0, .int 0, .int 0])), (ce, .inl (cB, 100, .inl (fun _ => 0)))] H := hP
    have hD : va_D A [(o9, .inl (cO, 1, .inr (.inl f5))), (h0, .inr (12, [.ref ma, .ref rn, .ref ef, .ref ck, .ref tr, .int 0, .int 0, .int 0, .int 0, .long 0])), (ma, .inr (7, [.ref fi, .ref se, .ref ce, .ref pr, .ref di, .ref dr, .ref li, .ref ru, .ref ba, .int 1000, .int 0, .int 0, .int 0, .int 0, .int 0, .int 0])), (ce, .inl (cB, 100, .inl (fun _ => 0)))] := hD
    refine lv_goto (tgt := 15) hx hb dL_cell_9 (by decide) ?_
    refine lv_iconst (v := 0) hx hb dL_cell_15 (by decide) ?_
    have hP9 := hP.sub (ws' := [(o9, .inl (cO, 1, .inr (.inl f5)))]) [0] rfl
    have hD9 := hD.sub (ws' := [(o9, .inl (cO, 1, .inr (.inl f5)))]) [0] (by decide) rfl
    have hK9 := hK.sub (tys' := [(cO, .long)]) [1] rfl
    refine W.widen (k := 1) (n := 6) (Nat.le_of_ble_eq_true rfl) (Nat.le_of_ble_eq_true rfl) ?_
    exact W.iret (v := 0) hx hb hr (fun t ht hW => ⟨⟨0, f5, rfl, (Or.inr (⟨rfl, by rw [ef5]; rfl, p4⟩)), by rw [ht]; exact hP9, va_K.moved hW.alike hK9, hD9⟩, hS.F ht⟩) hS.2.2 dL_cell_16
set_option maxHeartbeats 4000000 in
set_option maxRecDepth 100000 in
theorem c_L_outAt (l : Launch) (hfl : l.stackTraces = false) (dC : Nat → ClassId) (dI : Nat → Nat → Nat) (z : pG) (h0 : Nat) (ma : Nat) (rn : Nat) (ef : Nat) (ck : Nat) (tr : Nat) (fi : Nat) (se : Nat) (ce : Nat) (pr : Nat) (di : Nat) (dr : Nat) (li : Nat) (ru : Nat) (ba : Nat) (b7 : Nat) (n : Int32) (o9 : Nat) (cO : ClassId) (f0 : Nat → Int64) (sz : Nat) : Met l yL_outAt (wsW_ yL_outAt cL_outAt 4 (some .int) [(0, 9, 12, 33)]) ({ frames := 7, cells := 1, slots := 6, locals := 103 }) (va_Pc [.ref h0, .int n, .ref o9] (pPre z dC dI [(h0, .inr (12, [.ref ma, .ref rn, .ref ef, .ref ck, .ref tr, .int 0, .int 0, .int 0, .int 0, .long 0])), (ma, .inr (7, [.ref fi, .ref se, .ref ce, .ref pr, .ref di, .ref dr, .ref li, .ref ru, .ref ba, .int 1000, .int 0, .int 0, .int 0, .int 0, .int 0, .int 0])), (pr, .inr (8, [.ref b7, .int 0])), (o9, .inl (cO, 1, .inr (.inl f0)))] [(cO, .long)] sz)) (va_Qi (fun (r : Int32) (_ : Unit) => r = 1) (fun _ t => pPost dC dI (va_A [(h0, .inr (12, [.ref ma, .ref rn, .ref ef, .ref ck, .ref tr, .int 0, .int 0, .int 0, .int 0, .long 0])), (ma, .inr (7, [.ref fi, .ref se, .ref ce, .ref pr, .ref di, .ref dr, .ref li, .ref ru, .ref ba, .int 1000, .int 0, .int 0, .int 0, .int 0, .int 0, .int 0])), (pr, .inr (8, [.ref b7, .int 0])), (o9, .inl (cO, 1, .inr (.inl f0)))] sz) [] [] t) (va_A [(h0, .inr (12, [.ref ma, .ref rn, .ref ef, .ref ck, .ref tr, .int 0, .int 0, .int 0, .int 0, .long 0])), (ma, .inr (7, [.ref fi, .ref se, .ref ce, .ref pr, .ref di, .ref dr, .ref li, .ref ru, .ref ba, .int 1000, .int 0, .int 0, .int 0, .int 0, .int 0, .int 0])), (pr, .inr (8, [.ref b7, .int 0])), (o9, .inl (cO, 1, .inr (.inl f0)))] sz)) 1 6 (va_A [(h0, .inr (12, [.ref ma, .ref rn, .ref ef, .ref ck, .ref tr, .int 0, .int 0, .int 0, .int 0, .long 0])), (ma, .inr (7, [.ref fi, .ref se, .ref ce, .ref pr, .ref di, .ref dr, .ref li, .ref ru, .ref ba, .int 1000, .int 0, .int 0, .int 0, .int 0, .int 0, .int 0])), (pr, .inr (8, [.ref b7, .int 0])), (o9, .inl (cO, 1, .inr (.inl f0)))] sz) := by
  refine va_MetW (cc := cL_outAt) (maxL := 4) (ret := (some .int)) (hh := [(0, 9, 12, 33)]) (by decide) rfl ?_
  intro p e s m args below meth c s₁ B hml hv
  obtain ⟨rfl, hsz, hP, hK, hD0, hE⟩ := hv
  have hx := B.exec
  have hb := B.bytes
  have hr := B.returns
  have hts0 := atoms_spec (ws := wsW_ yL_outAt cL_outAt 4 (some .int) [(0, 9, 12, 33)]) B.pre
  have htb := vx_table (x := yL_outAt) B (hts0 _ List.mem_cons_self)
  have hts := fun (w : Cond) (h : w ∈ pw) => hts0 w (List.mem_cons_of_mem _ h)
  have hown : s.vm.findClass RL = some m.cls := findClass_of_methodNamed B.named
  have hlocks := B.notSynchronized
  subst hsz
  have hD := hD0.self (sz := s.heap.size)
  generalize hAe : va_A [(h0, .inr (12, [.ref ma, .ref rn, .ref ef, .ref ck, .ref tr, .int 0, .int 0, .int 0, .int 0, .long 0])), (ma, .inr (7, [.ref fi, .ref se, .ref ce, .ref pr, .ref di, .ref dr, .ref li, .ref ru, .ref ba, .int 1000, .int 0, .int 0, .int 0, .int 0, .int 0, .int 0])), (pr, .inr (8, [.ref b7, .int 0])), (o9, .inl (cO, 1, .inr (.inl f0)))] s.heap.size = A at hD hE ⊢
  have hA : ∀ q : Nat, s.heap.size ≤ q → A q := fun q h => by rw [← hAe]; exact Or.inr h
  have hS : va_S A s.heap s.heap [] := va_S.rf
  have hN := hE.1
  have hP : va_P (dC, dI) pcl [(h0, .inr (12, [.ref ma, .ref rn, .ref ef, .ref ck, .ref tr, .int 0, .int 0, .int 0, .int 0, .long 0])), (ma, .inr (7, [.ref fi, .ref se, .ref ce, .ref pr, .ref di, .ref dr, .ref li, .ref ru, .ref ba, .int 1000, .int 0, .int 0, .int 0, .int 0, .int 0, .int 0])), (pr, .inr (8, [.ref b7, .int 0])), (o9, .inl (cO, 1, .inr (.inl f0)))] s.heap := hP
  have hl := lv_entry ([.ref h0, .int n, .ref o9]) (n := 4) (Nat.le_of_ble_eq_true rfl)
  rw [lg_entry_eq]
  generalize (lg_sl ([.ref h0, .int n, .ref o9]) ++ List.replicate (4 - (lg_sl ([.ref h0, .int n, .ref o9])).length) Slot.unset).toArray = ls at hl ⊢
  have hl : lv_has ls 4 [(0, .ref h0), (1, .int n), (2, .ref o9)] := hl
  obtain ⟨H, hH0⟩ : ∃ H, H = s.heap := ⟨_, rfl⟩
  rw [← hH0] at hP ⊢
  have hS : va_S A s.heap H [] := by rw [hH0]; exact hS
  refine lv_aload_n hx hb dL_outAt_0 rfl (lv_at hl 2 rfl) ?_
  refine lv_iconst (v := 0) hx hb dL_outAt_1 (by decide) ?_
  refine lv_aload_n hx hb dL_outAt_2 rfl (lv_at hl 0 rfl) ?_
  refine lv_iload_n hx hb dL_outAt_3 rfl (lv_at hl 1 rfl) ?_
  have hPc := hP.sub (ws' := [(h0, .inr (12, [.ref ma, .ref rn, .ref ef, .ref ck, .ref tr, .int 0, .int 0, .int 0, .int 0, .long 0])), (ma, .inr (7, [.ref fi, .ref se, .ref ce, .ref pr, .ref di, .ref dr, .ref li, .ref ru, .ref ba, .int 1000, .int 0, .int 0, .int 0, .int 0, .int 0, .int 0])), (pr, .inr (8, [.ref b7, .int 0]))]) [0, 1, 2] rfl
  have hDc := hD.sub (ws' := [(h0, .inr (12, [.ref ma, .ref rn, .ref ef, .ref ck, .ref tr, .int 0, .int 0, .int 0, .int 0, .long 0])), (ma, .inr (7, [.ref fi, .ref se, .ref ce, .ref pr, .ref di, .ref dr, .ref li, .ref ru, .ref ba, .int 1000, .int 0, .int 0, .int 0, .int 0, .int 0, .int 0])), (pr, .inr (8, [.ref b7, .int 0]))]) [0, 1, 2] (by decide) rfl
  have hKc := hK.sub (tys' := []) [] rfl
  have hFc := va_free (wc := [(h0, .inr (12, [.ref ma, .ref rn, .ref ef, .ref ck, .ref tr, .int 0, .int 0, .int 0, .int 0, .long 0])), (ma, .inr (7, [.ref fi, .ref se, .ref ce, .ref pr, .ref di, .ref dr, .ref li, .ref ru, .ref ba, .int 1000, .int 0, .int 0, .int 0, .int 0, .int 0, .int 0])), (pr, .inr (8, [.ref b7, .int 0]))]) hD hS hA [0, 1, 2] rfl
  refine vx_calli (vx_runV (As := [.int n]) (rest := [.int 0, .ref o9]) ⟨hx, hb, hml, hown, hts⟩ (c_X11_outAt l hfl dC dI z h0 ma rn ef ck tr fi se ce pr di dr li ru ba b7 n H.size) (cwV 1 hts (ws_goodV e297 e298 e300 e270 e299) rfl rfl rfl ⟨rfl, by decide +kernel, by decide +kernel, by decide +kernel⟩ ⟨Nat.le_of_ble_eq_true rfl, Nat.le_of_ble_eq_true rfl⟩) ⟨pPre_blind, va_recv hKc hPc (ci := 12) (q0 := 0) rfl rfl, fun U hU hW => ⟨rfl, pPre_at hPc hKc hDc hE hS hFc U hU hW⟩⟩ rfl rfl hl.1 rfl (lv_room (Nat.le_of_ble_eq_true rfl)) dL_outAt_4 ⟨Nat.le_of_ble_eq_true rfl, Nat.le_of_ble_eq_true rfl⟩) hS (fun q _ h => hFc q h) hFc (fun q _ h => hFc q h) (fun E ce q9 u9 t H1 locs ht hvm hp9 hX hz1 hk1 hS hce hcv hcl => ?_) (fun _ _ _ _ _ _ _ h9 _ _ _ _ => h9.elim)
  rcases hX with rfl
  refine vx_catch hown [] ({ startPc := 0, endPc := 9, handlerPc := 12, catchType := 33 } : ExceptionTableEntry) [] (htb.trans rfl) (fun z9 h9 => absurd h9 List.not_mem_nil) (by decide) (by decide) (hts _ e650) (va_Nw.use rfl (hN _ n48)) hce hcv hcl ?_
  obtain ⟨hP, hD⟩ := va_join (wr := [(o9, .inl (cO, 1, .inr (.inl f0)))]) (w1 := []) hP hD [0, 1, 2] [3] rfl rfl (by decide) (by decide) hk1 hFc p_P0 p_D0
  generalize H1 = H at hP hS ⊢
  have hP : va_P (dC, dI) pcl [(o9, .inl (cO, 1, .inr (.inl f0)))] H := hP
  have hD : va_D A [(o9, .inl (cO, 1, .inr (.inl f0)))] := hD
  refine W.widen (k := 1) (n := 6) (Nat.le_of_ble_eq_true rfl) (Nat.le_of_ble_eq_true rfl) ?_
  refine lv_astore_n (lv' := [(3, .ref q9), (0, .ref h0), (1, .int n), (2, .ref o9)]) hx hb dL_outAt_12 rfl hl (by decide) rfl (fun ls hl => ?_)
  refine lv_iconst (v := 1) hx hb dL_outAt_13 (by decide) ?_
  have hP9 := hP.sub (ws' := []) [] rfl
  have hD9 := hD.sub (ws' := []) [] (by decide) rfl
  have hK9 := hK.sub (tys' := []) [] rfl
  refine W.widen (k := 1) (n := 6) (Nat.le_of_ble_eq_true rfl) (Nat.le_of_ble_eq_true rfl) ?_
  exact W.iret (v := 1) hx hb hr (fun t ht hW => ⟨⟨1, (), rfl, rfl, by rw [ht]; exact hP9, va_K.moved hW.alike hK9, hD9⟩, hS.F ht⟩) hS.2.2 dL_outAt_14
set_option maxHeartbeats 4000000 in
set_option maxRecDepth 100000 in
theorem c_L_nameOf (l : Launch) (hfl : l.stackTraces = false) (dC : Nat → ClassId) (dI : Nat → Nat → Nat) (z : pG) (h0 : Nat) (ma : Nat) (rn : Nat) (ef : Nat) (ck : Nat) (tr : Nat) (fi : Nat) (se : Nat) (ce : Nat) (pr : Nat) (di : Nat) (dr : Nat) (li : Nat) (ru : Nat) (ba : Nat) (g1 : Nat) (g2 : Nat) (g3 : Nat) (g4 : Nat) (g5 : Nat) (g6 : Nat) (g7 : Nat) (g8 : Nat) (g9 : Nat) (g10 : Nat) (n : Int32) (o9 : Nat) (cO : ClassId) (f0 : Nat → Int64) (sz : Nat) : Met l yL_nameOf (wsW_ yL_nameOf cL_nameOf 4 (some .int) [(0, 9, 12, 33)]) ({ frames := 7, cells := 1, slots := 6, locals := 103 }) (va_Pc [.ref h0, .int n, .ref o9] (pPre z dC dI [(h0, .inr (12, [.ref ma, .ref rn, .ref ef, .ref ck, .ref tr, .int 0, .int 0, .int 0, .int 0, .long 0])), (ma, .inr (7, [.ref fi, .ref se, .ref ce, .ref pr, .ref di, .ref dr, .ref li, .ref ru, .ref ba, .int 1000, .int 0, .int 0, .int 0, .int 0, .int 0, .int 0])), (di, .inr (2, [.ref g1, .ref g2, .ref g3, .ref g4, .ref g5, .ref g6, .ref g7, .ref g8, .ref g9, .ref g10, .int 0, .int 0, .int 0])), (o9, .inl (cO, 1, .inr (.inl f0)))] [(cO, .long)] sz)) (va_Qi (fun (r : Int32) (_ : Unit) => r = 1) (fun _ t => pPost dC dI (va_A [(h0, .inr (12, [.ref ma, .ref rn, .ref ef, .ref ck, .ref tr, .int 0, .int 0, .int 0, .int 0, .long 0])), (ma, .inr (7, [.ref fi, .ref se, .ref ce, .ref pr, .ref di, .ref dr, .ref li, .ref ru, .ref ba, .int 1000, .int 0, .int 0, .int 0, .int 0, .int 0, .int 0])), (di, .inr (2, [.ref g1, .ref g2, .ref g3, .ref g4, .ref g5, .ref g6, .ref g7, .ref g8, .ref g9, .ref g10, .int 0, .int 0, .int 0])), (o9, .inl (cO, 1, .inr (.inl f0)))] sz) [] [] t) (va_A [(h0, .inr (12, [.ref ma, .ref rn, .ref ef, .ref ck, .ref tr, .int 0, .int 0, .int 0, .int 0, .long 0])), (ma, .inr (7, [.ref fi, .ref se, .ref ce, .ref pr, .ref di, .ref dr, .ref li, .ref ru, .ref ba, .int 1000, .int 0, .int 0, .int 0, .int 0, .int 0, .int 0])), (di, .inr (2, [.ref g1, .ref g2, .ref g3, .ref g4, .ref g5, .ref g6, .ref g7, .ref g8, .ref g9, .ref g10, .int 0, .int 0, .int 0])), (o9, .inl (cO, 1, .inr (.inl f0)))] sz)) 1 6 (va_A [(h0, .inr (12, [.ref ma, .ref rn, .ref ef, .ref ck, .ref tr, .int 0, .int 0, .int 0, .int 0, .long 0])), (ma, .inr (7, [.ref fi, .ref se, .ref ce, .ref pr, .ref di, .ref dr, .ref li, .ref ru, .ref ba, .int 1000, .int 0, .int 0, .int 0, .int 0, .int 0, .int 0])), (di, .inr (2, [.ref g1, .ref g2, .ref g3, .ref g4, .ref g5, .ref g6, .ref g7, .ref g8, .ref g9, .ref g10, .int 0, .int 0, .int 0])), (o9, .inl (cO, 1, .inr (.inl f0)))] sz) := by
  refine va_MetW (cc := cL_nameOf) (maxL := 4) (ret := (some .int)) (hh := [(0, 9, 12, 33)]) (by decide) rfl ?_
  intro p e s m args below meth c s₁ B hml hv
  obtain ⟨rfl, hsz, hP, hK, hD0, hE⟩ := hv
  have hx := B.exec
  have hb := B.bytes
  have hr := B.returns
  have hts0 := atoms_spec (ws := wsW_ yL_nameOf cL_nameOf 4 (some .int) [(0, 9, 12, 33)]) B.pre
  have htb := vx_table (x := yL_nameOf) B (hts0 _ List.mem_cons_self)
  have hts := fun (w : Cond) (h : w ∈ pw) => hts0 w (List.mem_cons_of_mem _ h)
  have hown : s.vm.findClass RL = some m.cls := findClass_of_methodNamed B.named
  have hlocks := B.notSynchronized
  subst hsz
  have hD := hD0.self (sz := s.heap.size)
  generalize hAe : va_A [(h0, .inr (12, [.ref ma, .ref rn, .ref ef, .ref ck, .ref tr, .int 0, .int 0, .int 0, .int 0, .long 0])), (ma, .inr (7, [.ref fi, .ref se, .ref ce, .ref pr, .ref di, .ref dr, .ref li, .ref ru, .ref ba, .int 1000, .int 0, .int 0, .int 0, .int 0, .int 0, .int 0])), (di, .inr (2, [.ref g1, .ref g2, .ref g3, .ref g4, .ref g5, .ref g6, .ref g7, .ref g8, .ref g9, .ref g10, .int 0, .int 0, .int 0])), (o9, .inl (cO, 1, .inr (.inl f0)))] s.heap.size = A at hD hE ⊢
  have hA : ∀ q : Nat, s.heap.size ≤ q → A q := fun q h => by rw [← hAe]; exact Or.inr h
  have hS : va_S A s.heap s.heap [] := va_S.rf
  have hN := hE.1
  have hP : va_P (dC, dI) pcl [(h0, .inr (12, [.ref ma, .ref rn, .ref ef, .ref ck, .ref tr, .int 0, .int 0, .int 0, .int 0, .long 0])), (ma, .inr (7, [.ref fi, .ref se, .ref ce, .ref pr, .ref di, .ref dr, .ref li, .ref ru, .ref ba, .int 1000, .int 0, .int 0, .int 0, .int 0, .int 0, .int 0])), (di, .inr (2, [.ref g1, .ref g2, .ref g3, .ref g4, .ref g5, .ref g6, .ref g7, .ref g8, .ref g9, .ref g10, .int 0, .int 0, .int 0])), (o9, .inl (cO, 1, .inr (.inl f0)))] s.heap := hP
  have hl := lv_entry ([.ref h0, .int n, .ref o9]) (n := 4) (Nat.le_of_ble_eq_true rfl)
  rw [lg_entry_eq]
  generalize (lg_sl ([.ref h0, .int n, .ref o9]) ++ List.replicate (4 - (lg_sl ([.ref h0, .int n, .ref o9])).length) Slot.unset).toArray = ls at hl ⊢
  have hl : lv_has ls 4 [(0, .ref h0), (1, .int n), (2, .ref o9)] := hl
  obtain ⟨H, hH0⟩ : ∃ H, H = s.heap := ⟨_, rfl⟩
  rw [← hH0] at hP ⊢
  have hS : va_S A s.heap H [] := by rw [hH0]; exact hS
  refine lv_aload_n hx hb dL_nameOf_0 rfl (lv_at hl 2 rfl) ?_
  refine lv_iconst (v := 0) hx hb dL_nameOf_1 (by decide) ?_
  refine lv_aload_n hx hb dL_nameOf_2 rfl (lv_at hl 0 rfl) ?_
  refine lv_iload_n hx hb dL_nameOf_3 rfl (lv_at hl 1 rfl) ?_
  have hPc := hP.sub (ws' := [(h0, .inr (12, [.ref ma, .ref rn, .ref ef, .ref ck, .ref tr, .int 0, .int 0, .int 0, .int 0, .long 0])), (ma, .inr (7, [.ref fi, .ref se, .ref ce, .ref pr, .ref di, .ref dr, .ref li, .ref ru, .ref ba, .int 1000, .int 0, .int 0, .int 0, .int 0, .int 0, .int 0])), (di, .inr (2, [.ref g1, .ref g2, .ref g3, .ref g4, .ref g5, .ref g6, .ref g7, .ref g8, .ref g9, .ref g10, .int 0, .int 0, .int 0]))]) [0, 1, 2] rfl
  have hDc := hD.sub (ws' := [(h0, .inr (12, [.ref ma, .ref rn, .ref ef, .ref ck, .ref tr, .int 0, .int 0, .int 0, .int 0, .long 0])), (ma, .inr (7, [.ref fi, .ref se, .ref ce, .ref pr, .ref di, .ref dr, .ref li, .ref ru, .ref ba, .int 1000, .int 0, .int 0, .int 0, .int 0, .int 0, .int 0])), (di, .inr (2, [.ref g1, .ref g2, .ref g3, .ref g4, .ref g5, .ref g6, .ref g7, .ref g8, .ref g9, .ref g10, .int 0, .int 0, .int 0]))]) [0, 1, 2] (by decide) rfl
  have hKc := hK.sub (tys' := []) [] rfl
  have hFc := va_free (wc := [(h0, .inr (12, [.ref ma, .ref rn, .ref ef, .ref ck, .ref tr, .int 0, .int 0, .int 0, .int 0, .long 0])), (ma, .inr (7, [.ref fi, .ref se, .ref ce, .ref pr, .ref di, .ref dr, .ref li, .ref ru, .ref ba, .int 1000, .int 0, .int 0, .int 0, .int 0, .int 0, .int 0])), (di, .inr (2, [.ref g1, .ref g2, .ref g3, .ref g4, .ref g5, .ref g6, .ref g7, .ref g8, .ref g9, .ref g10, .int 0, .int 0, .int 0]))]) hD hS hA [0, 1, 2] rfl
  refine vx_calli (vx_runV (As := [.int n]) (rest := [.int 0, .ref o9]) ⟨hx, hb, hml, hown, hts⟩ (c_X11_nameOf l hfl dC dI z h0 ma rn ef ck tr fi se ce pr di dr li ru ba g1 g2 g3 g4 g5 g6 g7 g8 g9 g10 n H.size) (cwV 1 hts (ws_goodV e301 e302 e304 e270 e303) rfl rfl rfl ⟨rfl, by decide +kernel, by decide +kernel, by decide +kernel⟩ ⟨Nat.le_of_ble_eq_true rfl, Nat.le_of_ble_eq_true rfl⟩) ⟨pPre_blind, va_recv hKc hPc (ci := 12) (q0 := 0) rfl rfl, fun U hU hW => ⟨rfl, pPre_at hPc hKc hDc hE hS hFc U hU hW⟩⟩ rfl rfl hl.1 rfl (lv_room (Nat.le_of_ble_eq_true rfl)) dL_nameOf_4 ⟨Nat.le_of_ble_eq_true rfl, Nat.le_of_ble_eq_true rfl⟩) hS (fun q _ h => hFc q h) hFc (fun q _ h => hFc q h) (fun E ce q9 u9 t H1 locs ht hvm hp9 hX hz1 hk1 hS hce hcv hcl => ?_) (fun _ _ _ _ _ _ _ h9 _ _ _ _ => h9.elim)
  rcases hX with rfl
  refine vx_catch hown [] ({ startPc := 0, endPc := 9, handlerPc := 12, catchType := 33 } : ExceptionTableEntry) [] (htb.trans rfl) (fun z9 h9 => absurd h9 List.not_mem_nil) (by decide) (by decide) (hts _ e650) (va_Nw.use rfl (hN _ n48)) hce hcv hcl ?_
  obtain ⟨hP, hD⟩ := va_join (wr := [(o9, .inl (cO, 1, .inr (.inl f0)))]) (w1 := []) hP hD [0, 1, 2] [3] rfl rfl (by decide) (by decide) hk1 hFc p_P0 p_D0
  generalize H1 = H at hP hS ⊢
  have hP : va_P (dC, dI) pcl [(o9, .inl (cO, 1, .inr (.inl f0)))] H := hP
  have hD : va_D A [(o9, .inl (cO, 1, .inr (.inl f0)))] := hD
  refine W.widen (k := 1) (n := 6) (Nat.le_of_ble_eq_true rfl) (Nat.le_of_ble_eq_true rfl) ?_
  refine lv_astore_n (lv' := [(3, .ref q9), (0, .ref h0), (1, .int n), (2, .ref o9)]) hx hb dL_nameOf_12 rfl hl (by decide) rfl (fun ls hl => ?_)
  refine lv_iconst (v := 1) hx hb dL_nameOf_13 (by decide) ?_
  have hP9 := hP.sub (ws' := []) [] rfl
  have hD9 := hD.sub (ws' := []) [] (by decide) rfl
  have hK9 := hK.sub (tys' := []) [] rfl
  refine W.widen (k := 1) (n := 6) (Nat.le_of_ble_eq_true rfl) (Nat.le_of_ble_eq_true rfl) ?_
  exact W.iret (v := 1) hx hb hr (fun t ht hW => ⟨⟨1, (), rfl, rfl, by rw [ht]; exact hP9, va_K.moved hW.alike hK9, hD9⟩, hS.F ht⟩) hS.2.2 dL_nameOf_14
set_option maxHeartbeats 4000000 in
set_option maxRecDepth 100000 in
theorem c_L_kindOf (l : Launch) (hfl : l.stackTraces = false) (dC : Nat → ClassId) (dI : Nat → Nat → Nat) (z : pG) (h0 : Nat) (ma : Nat) (rn : Nat) (ef : Nat) (ck : Nat) (tr : Nat) (fi : Nat) (se : Nat) (ce : Nat) (pr : Nat) (di : Nat) (dr : Nat) (li : Nat) (ru : Nat) (ba : Nat) (g1 : Nat) (g2 : Nat) (g3 : Nat) (g4 : Nat) (g5 : Nat) (g6 : Nat) (g7 : Nat) (g8 : Nat) (g9 : Nat) (g10 : Nat) (n : Int32) (o9 : Nat) (cO : ClassId) (f0 : Nat → Int64) (sz : Nat) : Met l yL_kindOf (wsW_ yL_kindOf cL_kindOf 4 (some .int) [(0, 9, 12, 33)]) ({ frames := 7, cells := 1, slots := 6, locals := 103 }) (va_Pc [.ref h0, .int n, .ref o9] (pPre z dC dI [(h0, .inr (12, [.ref ma, .ref rn, .ref ef, .ref ck, .ref tr, .int 0, .int 0, .int 0, .int 0, .long 0])), (ma, .inr (7, [.ref fi, .ref se, .ref ce, .ref pr, .ref di, .ref dr, .ref li, .ref ru, .ref ba, .int 1000, .int 0, .int 0, .int 0, .int 0, .int 0, .int 0])), (di, .inr (2, [.ref g1, .ref g2, .ref g3, .ref g4, .ref g5, .ref g6, .ref g7, .ref g8, .ref g9, .ref g10, .int 0, .int 0, .int 0])), (o9, .inl (cO, 1, .inr (.inl f0)))] [(cO, .long)] sz)) (va_Qi (fun (r : Int32) (_ : Unit) => r = 1) (fun _ t => pPost dC dI (va_A [(h0, .inr (12, [.ref ma, .ref rn, .ref ef, .ref ck, .ref tr, .int 0, .int 0, .int 0, .int 0, .long 0])), (ma, .inr (7, [.ref fi, .ref se, .ref ce, .ref pr, .ref di, .ref dr, .ref li, .ref ru, .ref ba, .int 1000, .int 0, .int 0, .int 0, .int 0, .int 0, .int 0])), (di, .inr (2, [.ref g1, .ref g2, .ref g3, .ref g4, .ref g5, .ref g6, .ref g7, .ref g8, .ref g9, .ref g10, .int 0, .int 0, .int 0])), (o9, .inl (cO, 1, .inr (.inl f0)))] sz) [] [] t) (va_A [(h0, .inr (12, [.ref ma, .ref rn, .ref ef, .ref ck, .ref tr, .int 0, .int 0, .int 0, .int 0, .long 0])), (ma, .inr (7, [.ref fi, .ref se, .ref ce, .ref pr, .ref di, .ref dr, .ref li, .ref ru, .ref ba, .int 1000, .int 0, .int 0, .int 0, .int 0, .int 0, .int 0])), (di, .inr (2, [.ref g1, .ref g2, .ref g3, .ref g4, .ref g5, .ref g6, .ref g7, .ref g8, .ref g9, .ref g10, .int 0, .int 0, .int 0])), (o9, .inl (cO, 1, .inr (.inl f0)))] sz)) 1 6 (va_A [(h0, .inr (12, [.ref ma, .ref rn, .ref ef, .ref ck, .ref tr, .int 0, .int 0, .int 0, .int 0, .long 0])), (ma, .inr (7, [.ref fi, .ref se, .ref ce, .ref pr, .ref di, .ref dr, .ref li, .ref ru, .ref ba, .int 1000, .int 0, .int 0, .int 0, .int 0, .int 0, .int 0])), (di, .inr (2, [.ref g1, .ref g2, .ref g3, .ref g4, .ref g5, .ref g6, .ref g7, .ref g8, .ref g9, .ref g10, .int 0, .int 0, .int 0])), (o9, .inl (cO, 1, .inr (.inl f0)))] sz) := by
  refine va_MetW (cc := cL_kindOf) (maxL := 4) (ret := (some .int)) (hh := [(0, 9, 12, 33)]) (by decide) rfl ?_
  intro p e s m args below meth c s₁ B hml hv
  obtain ⟨rfl, hsz, hP, hK, hD0, hE⟩ := hv
  have hx := B.exec
  have hb := B.bytes
  have hr := B.returns
  have hts0 := atoms_spec (ws := wsW_ yL_kindOf cL_kindOf 4 (some .int) [(0, 9, 12, 33)]) B.pre
  have htb := vx_table (x := yL_kindOf) B (hts0 _ List.mem_cons_self)
  have hts := fun (w : Cond) (h : w ∈ pw) => hts0 w (List.mem_cons_of_mem _ h)
  have hown : s.vm.findClass RL = some m.cls := findClass_of_methodNamed B.named
  have hlocks := B.notSynchronized
  subst hsz
  have hD := hD0.self (sz := s.heap.size)
  generalize hAe : va_A [(h0, .inr (12, [.ref ma, .ref rn, .ref ef, .ref ck, .ref tr, .int 0, .int 0, .int 0, .int 0, .long 0])), (ma, .inr (7, [.ref fi, .ref se, .ref ce, .ref pr, .ref di, .ref dr, .ref li, .ref ru, .ref ba, .int 1000, .int 0, .int 0, .int 0, .int 0, .int 0, .int 0])), (di, .inr (2, [.ref g1, .ref g2, .ref g3, .ref g4, .ref g5, .ref g6, .ref g7, .ref g8, .ref g9, .ref g10, .int 0, .int 0, .int 0])), (o9, .inl (cO, 1, .inr (.inl f0)))] s.heap.size = A at hD hE ⊢
  have hA : ∀ q : Nat, s.heap.size ≤ q → A q := fun q h => by rw [← hAe]; exact Or.inr h
  have hS : va_S A s.heap s.heap [] := va_S.rf
  have hN := hE.1
  have hP : va_P (dC, dI) pcl [(h0, .inr (12, [.ref ma, .ref rn, .ref ef, .ref ck, .ref tr, .int 0, .int 0, .int 0, .int 0, .long 0])), (ma, .inr (7, [.ref fi, .ref se, .ref ce, .ref pr, .ref di, .ref dr, .ref li, .ref ru, .ref ba, .int 1000, .int 0, .int 0, .int 0, .int 0, .int 0, .int 0])), (di, .inr (2, [.ref g1, .ref g2, .ref g3, .ref g4, .ref g5, .ref g6, .ref g7, .ref g8, .ref g9, .ref g10, .int 0, .int 0, .int 0])), (o9, .inl (cO, 1, .inr (.inl f0)))] s.heap := hP
  have hl := lv_entry ([.ref h0, .int n, .ref o9]) (n := 4) (Nat.le_of_ble_eq_true rfl)
  rw [lg_entry_eq]
  generalize (lg_sl ([.ref h0, .int n, .ref o9]) ++ List.replicate (4 - (lg_sl ([.ref h0, .int n, .ref o9])).length) Slot.unset).toArray = ls at hl ⊢
  have hl : lv_has ls 4 [(0, .ref h0), (1, .int n), (2, .ref o9)] := hl
  obtain ⟨H, hH0⟩ : ∃ H, H = s.heap := ⟨_, rfl⟩
  rw [← hH0] at hP ⊢
  have hS : va_S A s.heap H [] := by rw [hH0]; exact hS
  refine lv_aload_n hx hb dL_kindOf_0 rfl (lv_at hl 2 rfl) ?_
  refine lv_iconst (v := 0) hx hb dL_kindOf_1 (by decide) ?_
  refine lv_aload_n hx hb dL_kindOf_2 rfl (lv_at hl 0 rfl) ?_
  refine lv_iload_n hx hb dL_kindOf_3 rfl (lv_at hl 1 rfl) ?_
  have hPc := hP.sub (ws' := [(h0, .inr (12, [.ref ma, .ref rn, .ref ef, .ref ck, .ref tr, .int 0, .int 0, .int 0, .int 0, .long 0])), (ma, .inr (7, [.ref fi, .ref se, .ref ce, .ref pr, .ref di, .ref dr, .ref li, .ref ru, .ref ba, .int 1000, .int 0, .int 0, .int 0, .int 0, .int 0, .int 0])), (di, .inr (2, [.ref g1, .ref g2, .ref g3, .ref g4, .ref g5, .ref g6, .ref g7, .ref g8, .ref g9, .ref g10, .int 0, .int 0, .int 0]))]) [0, 1, 2] rfl
  have hDc := hD.sub (ws' := [(h0, .inr (12, [.ref ma, .ref rn, .ref ef, .ref ck, .ref tr, .int 0, .int 0, .int 0, .int 0, .long 0])), (ma, .inr (7, [.ref fi, .ref se, .ref ce, .ref pr, .ref di, .ref dr, .ref li, .ref ru, .ref ba, .int 1000, .int 0, .int 0, .int 0, .int 0, .int 0, .int 0])), (di, .inr (2, [.ref g1, .ref g2, .ref g3, .ref g4, .ref g5, .ref g6, .ref g7, .ref g8, .ref g9, .ref g10, .int 0, .int 0, .int 0]))]) [0, 1, 2] (by decide) rfl
  have hKc := hK.sub (tys' := []) [] rfl
  have hFc := va_free (wc := [(h0, .inr (12, [.ref ma, .ref rn, .ref ef, .ref ck, .ref tr, .int 0, .int 0, .int 0, .int 0, .long 0])), (ma, .inr (7, [.ref fi, .ref se, .ref ce, .ref pr, .ref di, .ref dr, .ref li, .ref ru, .ref ba, .int 1000, .int 0, .int 0, .int 0, .int 0, .int 0, .int 0])), (di, .inr (2, [.ref g1, .ref g2, .ref g3, .ref g4, .ref g5, .ref g6, .ref g7, .ref g8, .ref g9, .ref g10, .int 0, .int 0, .int 0]))]) hD hS hA [0, 1, 2] rfl
  refine vx_calli (vx_runV (As := [.int n]) (rest := [.int 0, .ref o9]) ⟨hx, hb, hml, hown, hts⟩ (c_X11_kindOf l hfl dC dI z h0 ma rn ef ck tr fi se ce pr di dr li ru ba g1 g2 g3 g4 g5 g6 g7 g8 g9 g10 n H.size) (cwV 1 hts (ws_goodV e305 e306 e308 e270 e307) rfl rfl rfl ⟨rfl, by decide +kernel, by decide +kernel, by decide +kernel⟩ ⟨Nat.le_of_ble_eq_true rfl, Nat.le_of_ble_eq_true rfl⟩) ⟨pPre_blind, va_recv hKc hPc (ci := 12) (q0 := 0) rfl rfl, fun U hU hW => ⟨rfl, pPre_at hPc hKc hDc hE hS hFc U hU hW⟩⟩ rfl rfl hl.1 rfl (lv_room (Nat.le_of_ble_eq_true rfl)) dL_kindOf_4 ⟨Nat.le_of_ble_eq_true rfl, Nat.le_of_ble_eq_true rfl⟩) hS (fun q _ h => hFc q h) hFc (fun q _ h => hFc q h) (fun E ce q9 u9 t H1 locs ht hvm hp9 hX hz1 hk1 hS hce hcv hcl => ?_) (fun _ _ _ _ _ _ _ h9 _ _ _ _ => h9.elim)
  rcases hX with rfl
  refine vx_catch hown [] ({ startPc := 0, endPc := 9, handlerPc := 12, catchType := 33 } : ExceptionTableEntry) [] (htb.trans rfl) (fun z9 h9 => absurd h9 List.not_mem_nil) (by decide) (by decide) (hts _ e650) (va_Nw.use rfl (hN _ n48)) hce hcv hcl ?_
  obtain ⟨hP, hD⟩ := va_join (wr := [(o9, .inl (cO, 1, .inr (.inl f0)))]) (w1 := []) hP hD [0, 1, 2] [3] rfl rfl (by decide) (by decide) hk1 hFc p_P0 p_D0
  generalize H1 = H at hP hS ⊢
  have hP : va_P (dC, dI) pcl [(o9, .inl (cO, 1, .inr (.inl f0)))] H := hP
  have hD : va_D A [(o9, .inl (cO, 1, .inr (.inl f0)))] := hD
  refine W.widen (k := 1) (n := 6) (Nat.le_of_ble_eq_true rfl) (Nat.le_of_ble_eq_true rfl) ?_
  refine lv_astore_n (lv' := [(3, .ref q9), (0, .ref h0), (1, .int n), (2, .ref o9)]) hx hb dL_kindOf_12 rfl hl (by decide) rfl (fun ls hl => ?_)
  refine lv_iconst (v := 1) hx hb dL_kindOf_13 (by decide) ?_
  have hP9 := hP.sub (ws' := []) [] rfl
  have hD9 := hD.sub (ws' := []) [] (by decide) rfl
  have hK9 := hK.sub (tys' := []) [] rfl
  refine W.widen (k := 1) (n := 6) (Nat.le_of_ble_eq_true rfl) (Nat.le_of_ble_eq_true rfl) ?_
  exact W.iret (v := 1) hx hb hr (fun t ht hW => ⟨⟨1, (), rfl, rfl, by rw [ht]; exact hP9, va_K.moved hW.alike hK9, hD9⟩, hS.F ht⟩) hS.2.2 dL_kindOf_14
set_option maxHeartbeats 4000000 in
set_option maxRecDepth 100000 in
theorem c_L_isImmediate (l : Launch) (hfl : l.stackTraces = false) (dC : Nat → ClassId) (dI : Nat → Nat → Nat) (z : pG) (h0 : Nat) (ma : Nat) (rn : Nat) (ef : Nat) (ck : Nat) (tr : Nat) (fi : Nat) (se : Nat) (ce : Nat) (pr : Nat) (di : Nat) (dr : Nat) (li : Nat) (ru : Nat) (ba : Nat) (g1 : Nat) (g2 : Nat) (g3 : Nat) (g4 : Nat) (g5 : Nat) (g6 : Nat) (g7 : Nat) (g8 : Nat) (g9 : Nat) (g10 : Nat) (n : Int32) (o9 : Nat) (cO : ClassId) (f0 : Nat → Int64) (sz : Nat) : Met l yL_isImmediate (wsW_ yL_isImmediate cL_isImmediate 4 (some .int) [(0, 16, 19, 33)]) ({ frames := 7, cells := 1, slots := 6, locals := 103 }) (va_Pc [.ref h0, .int n, .ref o9] (pPre z dC dI [(h0, .inr (12, [.ref ma, .ref rn, .ref ef, .ref ck, .ref tr, .int 0, .int 0, .int 0, .int 0, .long 0])), (ma, .inr (7, [.ref fi, .ref se, .ref ce, .ref pr, .ref di, .ref dr, .ref li, .ref ru, .ref ba, .int 1000, .int 0, .int 0, .int 0, .int 0, .int 0, .int 0])), (di, .inr (2, [.ref g1, .ref g2, .ref g3, .ref g4, .ref g5, .ref g6, .ref g7, .ref g8, .ref g9, .ref g10, .int 0, .int 0, .int 0])), (o9, .inl (cO, 1, .inr (.inl f0)))] [(cO, .long)] sz)) (va_Qi (fun (r : Int32) (_ : Unit) => r = 1) (fun _ t => pPost dC dI (va_A [(h0, .inr (12, [.ref ma, .ref rn, .ref ef, .ref ck, .ref tr, .int 0, .int 0, .int 0, .int 0, .long 0])), (ma, .inr (7, [.ref fi, .ref se, .ref ce, .ref pr, .ref di, .ref dr, .ref li, .ref ru, .ref ba, .int 1000, .int 0, .int 0, .int 0, .int 0, .int 0, .int 0])), (di, .inr (2, [.ref g1, .ref g2, .ref g3, .ref g4, .ref g5, .ref g6, .ref g7, .ref g8, .ref g9, .ref g10, .int 0, .int 0, .int 0])), (o9, .inl (cO, 1, .inr (.inl f0)))] sz) [] [] t) (va_A [(h0, .inr (12, [.ref ma, .ref rn, .ref ef, .ref ck, .ref tr, .int 0, .int 0, .int 0, .int 0, .long 0])), (ma, .inr (7, [.ref fi, .ref se, .ref ce, .ref pr, .ref di, .ref dr, .ref li, .ref ru, .ref ba, .int 1000, .int 0, .int 0, .int 0, .int 0, .int 0, .int 0])), (di, .inr (2, [.ref g1, .ref g2, .ref g3, .ref g4, .ref g5, .ref g6, .ref g7, .ref g8, .ref g9, .ref g10, .int 0, .int 0, .int 0])), (o9, .inl (cO, 1, .inr (.inl f0)))] sz)) 1 6 (va_A [(h0, .inr (12, [.ref ma, .ref rn, .ref ef, .ref ck, .ref tr, .int 0, .int 0, .int 0, .int 0, .long 0])), (ma, .inr (7, [.ref fi, .ref se, .ref ce, .ref pr, .ref di, .ref dr, .ref li, .ref ru, .ref ba, .int 1000, .int 0, .int 0, .int 0, .int 0, .int 0, .int 0])), (di, .inr (2, [.ref g1, .ref g2, .ref g3, .ref g4, .ref g5, .ref g6, .ref g7, .ref g8, .ref g9, .ref g10, .int 0, .int 0, .int 0])), (o9, .inl (cO, 1, .inr (.inl f0)))] sz) := by
  refine va_MetW (cc := cL_isImmediate) (maxL := 4) (ret := (some .int)) (hh := [(0, 16, 19, 33)]) (by decide) rfl ?_
  intro p e s m args below meth c s₁ B hml hv
  obtain ⟨rfl, hsz, hP, hK, hD0, hE⟩ := hv
  have hx := B.exec
  have hb := B.bytes
  have hr := B.returns
  have hts0 := atoms_spec (ws := wsW_ yL_isImmediate cL_isImmediate 4 (some .int) [(0, 16, 19, 33)]) B.pre
  have htb := vx_table (x := yL_isImmediate) B (hts0 _ List.mem_cons_self)
  have hts := fun (w : Cond) (h : w ∈ pw) => hts0 w (List.mem_cons_of_mem _ h)
  have hown : s.vm.findClass RL = some m.cls := findClass_of_methodNamed B.named
  have hlocks := B.notSynchronized
  subst hsz
  have hD := hD0.self (sz := s.heap.size)
  generalize hAe : va_A [(h0, .inr (12, [.ref ma, .ref rn, .ref ef, .ref ck, .ref tr, .int 0, .int 0, .int 0, .int 0, .long 0])), (ma, .inr (7, [.ref fi, .ref se, .ref ce, .ref pr, .ref di, .ref dr, .ref li, .ref ru, .ref ba, .int 1000, .int 0, .int 0, .int 0, .int 0, .int 0, .int 0])), (di, .inr (2, [.ref g1, .ref g2, .ref g3, .ref g4, .ref g5, .ref g6, .ref g7, .ref g8, .ref g9, .ref g10, .int 0, .int 0, .int 0])), (o9, .inl (cO, 1, .inr (.inl f0)))] s.heap.size = A at hD hE ⊢
  have hA : ∀ q : Nat, s.heap.size ≤ q → A q := fun q h => by rw [← hAe]; exact Or.inr h
  have hS : va_S A s.heap s.heap [] := va_S.rf
  have hN := hE.1
  have hP : va_P (dC, dI) pcl [(h0, .inr (12, [.ref ma, .ref rn, .ref ef, .ref ck, .ref tr, .int 0, .int 0, .int 0, .int 0, .long 0])), (ma, .inr (7, [.ref fi, .ref se, .ref ce, .ref pr, .ref di, .ref dr, .ref li, .ref ru, .ref ba, .int 1000, .int 0, .int 0, .int 0, .int 0, .int 0, .int 0])), (di, .inr (2, [.ref g1, .ref g2, .ref g3, .ref g4, .ref g5, .ref g6, .ref g7, .ref g8, .ref g9, .ref g10, .int 0, .int 0, .int 0])), (o9, .inl (cO, 1, .inr (.inl f0)))] s.heap := hP
  have hl := lv_entry ([.ref h0, .int n, .ref o9]) (n := 4) (Nat.le_of_ble_eq_true rfl)
  rw [lg_entry_eq]
  generalize (lg_sl ([.ref h0, .int n, .ref o9]) ++ List.replicate (4 - (lg_sl ([.ref h0, .int n, .ref o9])).length) Slot.unset).toArray = ls at hl ⊢
  have hl : lv_has ls 4 [(0, .ref h0), (1, .int n), (2, .ref o9)] := hl
  obtain ⟨H, hH0⟩ : ∃ H, H = s.heap := ⟨_, rfl⟩
  rw [← hH0] at hP ⊢
  have hS : va_S A s.heap H [] := by rw [hH0]; exact hS
  refine lv_aload_n hx hb dL_isImmediate_0 rfl (lv_at hl 2 rfl) ?_
  refine lv_iconst (v := 0) hx hb dL_isImmediate_1 (by decide) ?_
  refine lv_aload_n hx hb dL_isImmediate_2 rfl (lv_at hl 0 rfl) ?_
  refine lv_iload_n hx hb dL_isImmediate_3 rfl (lv_at hl 1 rfl) ?_
  have hPc := hP.sub (ws' := [(h0, .inr (12, [.ref ma, .ref rn, .ref ef, .ref ck, .ref tr, .int 0, .int 0, .int 0, .int 0, .long 0])), (ma, .inr (7, [.ref fi, .ref se, .ref ce, .ref pr, .ref di, .ref dr, .ref li, .ref ru, .ref ba, .int 1000, .int 0, .int 0, .int 0, .int 0, .int 0, .int 0])), (di, .inr (2, [.ref g1, .ref g2, .ref g3, .ref g4, .ref g5, .ref g6, .ref g7, .ref g8, .ref g9, .ref g10, .int 0, .int 0, .int 0]))]) [0, 1, 2] rfl
  have hDc := hD.sub (ws' := [(h0, .inr (12, [.ref ma, .ref rn, .ref ef, .ref ck, .ref tr, .int 0, .int 0, .int 0, .int 0, .long 0])), (ma, .inr (7, [.ref fi, .ref se, .ref ce, .ref pr, .ref di, .ref dr, .ref li, .ref ru, .ref ba, .int 1000, .int 0, .int 0, .int 0, .int 0, .int 0, .int 0])), (di, .inr (2, [.ref g1, .ref g2, .ref g3, .ref g4, .ref g5, .ref g6, .ref g7, .ref g8, .ref g9, .ref g10, .int 0, .int 0, .int 0]))]) [0, 1, 2] (by decide) rfl
  have hKc := hK.sub (tys' := []) [] rfl
  have hFc := va_free (wc := [(h0, .inr (12, [.ref ma, .ref rn, .ref ef, .ref ck, .ref tr, .int 0, .int 0, .int 0, .int 0, .long 0])), (ma, .inr (7, [.ref fi, .ref se, .ref ce, .ref pr, .ref di, .ref dr, .ref li, .ref ru, .ref ba, .int 1000, .int 0, .int 0, .int 0, .int 0, .int 0, .int 0])), (di, .inr (2, [.ref g1, .ref g2, .ref g3, .ref g4, .ref g5, .ref g6, .ref g7, .ref g8, .ref g9, .ref g10, .int 0, .int 0, .int 0]))]) hD hS hA [0, 1, 2] rfl
  refine vx_calli (vx_runV (As := [.int n]) (rest := [.int 0, .ref o9]) ⟨hx, hb, hml, hown, hts⟩ (c_X11_isImmediate l hfl dC dI z h0 ma rn ef ck tr fi se ce pr di dr li ru ba g1 g2 g3 g4 g5 g6 g7 g8 g9 g10 n H.size) (cwV 1 hts (ws_goodV e309 e310 e312 e270 e311) rfl rfl rfl ⟨rfl, by decide +kernel, by decide +kernel, by decide +kernel⟩ ⟨Nat.le_of_ble_eq_true rfl, Nat.le_of_ble_eq_true rfl⟩) ⟨pPre_blind, va_recv hKc hPc (ci := 12) (q0 := 0) rfl rfl, fun U hU hW => ⟨rfl, pPre_at hPc hKc hDc hE hS hFc U hU hW⟩⟩ rfl rfl hl.1 rfl (lv_room (Nat.le_of_ble_eq_true rfl)) dL_isImmediate_4 ⟨Nat.le_of_ble_eq_true rfl, Nat.le_of_ble_eq_true rfl⟩) hS (fun q _ h => hFc q h) hFc (fun q _ h => hFc q h) (fun E ce q9 u9 t H1 locs ht hvm hp9 hX hz1 hk1 hS hce hcv hcl => ?_) (fun _ _ _ _ _ _ _ h9 _ _ _ _ => h9.elim)
  rcases hX with rfl
  refine vx_catch hown [] ({ startPc := 0, endPc := 16, handlerPc := 19, catchType := 33 } : ExceptionTableEntry) [] (htb.trans rfl) (fun z9 h9 => absurd h9 List.not_mem_nil) (by decide) (by decide) (hts _ e650) (va_Nw.use rfl (hN _ n48)) hce hcv hcl ?_
  obtain ⟨hP, hD⟩ := va_join (wr := [(o9, .inl (cO, 1, .inr (.inl f0)))]) (w1 := []) hP hD [0, 1, 2] [3] rfl rfl (by decide) (by decide) hk1 hFc p_P0 p_D0
  generalize H1 = H at hP hS ⊢
  have hP : va_P (dC, dI) pcl [(o9, .inl (cO, 1, .inr (.inl f0)))] H := hP
  have hD : va_D A [(o9, .inl (cO, 1, .inr (.inl f0)))] := hD
  refine W.widen (k := 1) (n := 6) (Nat.le_of_ble_eq_true rfl) (Nat.le_of_ble_eq_true rfl) ?_
  refine lv_astore_n (lv' := [(3, .ref q9), (0, .ref h0), (1, .int n), (2, .ref o9)]) hx hb dL_isImmediate_19 rfl hl (by decide) rfl (fun ls hl => ?_)
  refine lv_iconst (v := 1) hx hb dL_isImmediate_20 (by decide) ?_
  have hP9 := hP.sub (ws' := []) [] rfl
  have hD9 := hD.sub (ws' := []) [] (by decide) rfl
  have hK9 := hK.sub (tys' := []) [] rfl
  refine W.widen (k := 1) (n := 6) (Nat.le_of_ble_eq_true rfl) (Nat.le_of_ble_eq_true rfl) ?_
  exact W.iret (v := 1) hx hb hr (fun t ht hW => ⟨⟨1, (), rfl, rfl, by rw [ht]; exact hP9, va_K.moved hW.alike hK9, hD9⟩, hS.F ht⟩) hS.2.2 dL_isImmediate_21
set_option maxHeartbeats 4000000 in
set_option maxRecDepth 100000 in
theorem c_L_vocabularyOf (l : Launch) (hfl : l.stackTraces = false) (dC : Nat → ClassId) (dI : Nat → Nat → Nat) (z : pG) (h0 : Nat) (ma : Nat) (rn : Nat) (ef : Nat) (ck : Nat) (tr : Nat) (fi : Nat) (se : Nat) (ce : Nat) (pr : Nat) (di : Nat) (dr : Nat) (li : Nat) (ru : Nat) (ba : Nat) (g1 : Nat) (g2 : Nat) (g3 : Nat) (g4 : Nat) (g5 : Nat) (g6 : Nat) (g7 : Nat) (g8 : Nat) (g9 : Nat) (g10 : Nat) (n : Int32) (o9 : Nat) (cO : ClassId) (f0 : Nat → Int64) (sz : Nat) : Met l yL_vocabularyOf (wsW_ yL_vocabularyOf cL_vocabularyOf 4 (some .int) [(0, 9, 12, 33)]) ({ frames := 7, cells := 1, slots := 6, locals := 103 }) (va_Pc [.ref h0, .int n, .ref o9] (pPre z dC dI [(h0, .inr (12, [.ref ma, .ref rn, .ref ef, .ref ck, .ref tr, .int 0, .int 0, .int 0, .int 0, .long 0])), (ma, .inr (7, [.ref fi, .ref se, .ref ce, .ref pr, .ref di, .ref dr, .ref li, .ref ru, .ref ba, .int 1000, .int 0, .int 0, .int 0, .int 0, .int 0, .int 0])), (di, .inr (2, [.ref g1, .ref g2, .ref g3, .ref g4, .ref g5, .ref g6, .ref g7, .ref g8, .ref g9, .ref g10, .int 0, .int 0, .int 0])), (o9, .inl (cO, 1, .inr (.inl f0)))] [(cO, .long)] sz)) (va_Qi (fun (r : Int32) (_ : Unit) => r = 1) (fun _ t => pPost dC dI (va_A [(h0, .inr (12, [.ref ma, .ref rn, .ref ef, .ref ck, .ref tr, .int 0, .int 0, .int 0, .int 0, .long 0])), (ma, .inr (7, [.ref fi, .ref se, .ref ce, .ref pr, .ref di, .ref dr, .ref li, .ref ru, .ref ba, .int 1000, .int 0, .int 0, .int 0, .int 0, .int 0, .int 0])), (di, .inr (2, [.ref g1, .ref g2, .ref g3, .ref g4, .ref g5, .ref g6, .ref g7, .ref g8, .ref g9, .ref g10, .int 0, .int 0, .int 0])), (o9, .inl (cO, 1, .inr (.inl f0)))] sz) [] [] t) (va_A [(h0, .inr (12, [.ref ma, .ref rn, .ref ef, .ref ck, .ref tr, .int 0, .int 0, .int 0, .int 0, .long 0])), (ma, .inr (7, [.ref fi, .ref se, .ref ce, .ref pr, .ref di, .ref dr, .ref li, .ref ru, .ref ba, .int 1000, .int 0, .int 0, .int 0, .int 0, .int 0, .int 0])), (di, .inr (2, [.ref g1, .ref g2, .ref g3, .ref g4, .ref g5, .ref g6, .ref g7, .ref g8, .ref g9, .ref g10, .int 0, .int 0, .int 0])), (o9, .inl (cO, 1, .inr (.inl f0)))] sz)) 1 6 (va_A [(h0, .inr (12, [.ref ma, .ref rn, .ref ef, .ref ck, .ref tr, .int 0, .int 0, .int 0, .int 0, .long 0])), (ma, .inr (7, [.ref fi, .ref se, .ref ce, .ref pr, .ref di, .ref dr, .ref li, .ref ru, .ref ba, .int 1000, .int 0, .int 0, .int 0, .int 0, .int 0, .int 0])), (di, .inr (2, [.ref g1, .ref g2, .ref g3, .ref g4, .ref g5, .ref g6, .ref g7, .ref g8, .ref g9, .ref g10, .int 0, .int 0, .int 0])), (o9, .inl (cO, 1, .inr (.inl f0)))] sz) := by
  refine va_MetW (cc := cL_vocabularyOf) (maxL := 4) (ret := (some .int)) (hh := [(0, 9, 12, 33)]) (by decide) rfl ?_
  intro p e s m args below meth c s₁ B hml hv
  obtain ⟨rfl, hsz, hP, hK, hD0, hE⟩ := hv
  have hx := B.exec
  have hb := B.bytes
  have hr := B.returns
  have hts0 := atoms_spec (ws := wsW_ yL_vocabularyOf cL_vocabularyOf 4 (some .int) [(0, 9, 12, 33)]) B.pre
  have htb := vx_table (x := yL_vocabularyOf) B (hts0 _ List.mem_cons_self)
  have hts := fun (w : Cond) (h : w ∈ pw) => hts0 w (List.mem_cons_of_mem _ h)
  have hown : s.vm.findClass RL = some m.cls := findClass_of_methodNamed B.named
  have hlocks := B.notSynchronized
  subst hsz
  have hD := hD0.self (sz := s.heap.size)
  generalize hAe : va_A [(h0, .inr (12, [.ref ma, .ref rn, .ref ef, .ref ck, .ref tr, .int 0, .int 0, .int 0, .int 0, .long 0])), (ma, .inr (7, [.ref fi, .ref se, .ref ce, .ref pr, .ref di, .ref dr, .ref li, .ref ru, .ref ba, .int 1000, .int 0, .int 0, .int 0, .int 0, .int 0, .int 0])), (di, .inr (2, [.ref g1, .ref g2, .ref g3, .ref g4, .ref g5, .ref g6, .ref g7, .ref g8, .ref g9, .ref g10, .int 0, .int 0, .int 0])), (o9, .inl (cO, 1, .inr (.inl f0)))] s.heap.size = A at hD hE ⊢
  have hA : ∀ q : Nat, s.heap.size ≤ q → A q := fun q h => by rw [← hAe]; exact Or.inr h
  have hS : va_S A s.heap s.heap [] := va_S.rf
  have hN := hE.1
  have hP : va_P (dC, dI) pcl [(h0, .inr (12, [.ref ma, .ref rn, .ref ef, .ref ck, .ref tr, .int 0, .int 0, .int 0, .int 0, .long 0])), (ma, .inr (7, [.ref fi, .ref se, .ref ce, .ref pr, .ref di, .ref dr, .ref li, .ref ru, .ref ba, .int 1000, .int 0, .int 0, .int 0, .int 0, .int 0, .int 0])), (di, .inr (2, [.ref g1, .ref g2, .ref g3, .ref g4, .ref g5, .ref g6, .ref g7, .ref g8, .ref g9, .ref g10, .int 0, .int 0, .int 0])), (o9, .inl (cO, 1, .inr (.inl f0)))] s.heap := hP
  have hl := lv_entry ([.ref h0, .int n, .ref o9]) (n := 4) (Nat.le_of_ble_eq_true rfl)
  rw [lg_entry_eq]
  generalize (lg_sl ([.ref h0, .int n, .ref o9]) ++ List.replicate (4 - (lg_sl ([.ref h0, .int n, .ref o9])).length) Slot.unset).toArray = ls at hl ⊢
  have hl : lv_has ls 4 [(0, .ref h0), (1, .int n), (2, .ref o9)] := hl
  obtain ⟨H, hH0⟩ : ∃ H, H = s.heap := ⟨_, rfl⟩
  rw [← hH0] at hP ⊢
  have hS : va_S A s.heap H [] := by rw [hH0]; exact hS
  refine lv_aload_n hx hb dL_vocabularyOf_0 rfl (lv_at hl 2 rfl) ?_
  refine lv_iconst (v := 0) hx hb dL_vocabularyOf_1 (by decide) ?_
  refine lv_aload_n hx hb dL_vocabularyOf_2 rfl (lv_at hl 0 rfl) ?_
  refine lv_iload_n hx hb dL_vocabularyOf_3 rfl (lv_at hl 1 rfl) ?_
  have hPc := hP.sub (ws' := [(h0, .inr (12, [.ref ma, .ref rn, .ref ef, .ref ck, .ref tr, .int 0, .int 0, .int 0, .int 0, .long 0])), (ma, .inr (7, [.ref fi, .ref se, .ref ce, .ref pr, .ref di, .ref dr, .ref li, .ref ru, .ref ba, .int 1000, .int 0, .int 0, .int 0, .int 0, .int 0, .int 0])), (di, .inr (2, [.ref g1, .ref g2, .ref g3, .ref g4, .ref g5, .ref g6, .ref g7, .ref g8, .ref g9, .ref g10, .int 0, .int 0, .int 0]))]) [0, 1, 2] rfl
  have hDc := hD.sub (ws' := [(h0, .inr (12, [.ref ma, .ref rn, .ref ef, .ref ck, .ref tr, .int 0, .int 0, .int 0, .int 0, .long 0])), (ma, .inr (7, [.ref fi, .ref se, .ref ce, .ref pr, .ref di, .ref dr, .ref li, .ref ru, .ref ba, .int 1000, .int 0, .int 0, .int 0, .int 0, .int 0, .int 0])), (di, .inr (2, [.ref g1, .ref g2, .ref g3, .ref g4, .ref g5, .ref g6, .ref g7, .ref g8, .ref g9, .ref g10, .int 0, .int 0, .int 0]))]) [0, 1, 2] (by decide) rfl
  have hKc := hK.sub (tys' := []) [] rfl
  have hFc := va_free (wc := [(h0, .inr (12, [.ref ma, .ref rn, .ref ef, .ref ck, .ref tr, .int 0, .int 0, .int 0, .int 0, .long 0])), (ma, .inr (7, [.ref fi, .ref se, .ref ce, .ref pr, .ref di, .ref dr, .ref li, .ref ru, .ref ba, .int 1000, .int 0, .int 0, .int 0, .int 0, .int 0, .int 0])), (di, .inr (2, [.ref g1, .ref g2, .ref g3, .ref g4, .ref g5, .ref g6, .ref g7, .ref g8, .ref g9, .ref g10, .int 0, .int 0, .int 0]))]) hD hS hA [0, 1, 2] rfl
  refine vx_calli (vx_runV (As := [.int n]) (rest := [.int 0, .ref o9]) ⟨hx, hb, hml, hown, hts⟩ (c_X11_vocabularyOf l hfl dC dI z h0 ma rn ef ck tr fi se ce pr di dr li ru ba g1 g2 g3 g4 g5 g6 g7 g8 g9 g10 n H.size) (cwV 1 hts (ws_goodV e313 e314 e316 e270 e315) rfl rfl rfl ⟨rfl, by decide +kernel, by decide +kernel, by decide +kernel⟩ ⟨Nat.le_of_ble_eq_true rfl, Nat.le_of_ble_eq_true rfl⟩) ⟨pPre_blind, va_recv hKc hPc (ci := 12) (q0 := 0) rfl rfl, fun U hU hW => ⟨rfl, pPre_at hPc hKc hDc hE hS hFc U hU hW⟩⟩ rfl rfl hl.1 rfl (lv_room (Nat.le_of_ble_eq_true rfl)) dL_vocabularyOf_4 ⟨Nat.le_of_ble_eq_true rfl, Nat.le_of_ble_eq_true rfl⟩) hS (fun q _ h => hFc q h) hFc (fun q _ h => hFc q h) (fun E ce q9 u9 t H1 locs ht hvm hp9 hX hz1 hk1 hS hce hcv hcl => ?_) (fun _ _ _ _ _ _ _ h9 _ _ _ _ => h9.elim)
  rcases hX with rfl
  refine vx_catch hown [] ({ startPc := 0, endPc := 9, handlerPc := 12, catchType := 33 } : ExceptionTableEntry) [] (htb.trans rfl) (fun z9 h9 => absurd h9 List.not_mem_nil) (by decide) (by decide) (hts _ e650) (va_Nw.use rfl (hN _ n48)) hce hcv hcl ?_
  obtain ⟨hP, hD⟩ := va_join (wr := [(o9, .inl (cO, 1, .inr (.inl f0)))]) (w1 := []) hP hD [0, 1, 2] [3] rfl rfl (by decide) (by decide) hk1 hFc p_P0 p_D0
  generalize H1 = H at hP hS ⊢
  have hP : va_P (dC, dI) pcl [(o9, .inl (cO, 1, .inr (.inl f0)))] H := hP
  have hD : va_D A [(o9, .inl (cO, 1, .inr (.inl f0)))] := hD
  refine W.widen (k := 1) (n := 6) (Nat.le_of_ble_eq_true rfl) (Nat.le_of_ble_eq_true rfl) ?_
  refine lv_astore_n (lv' := [(3, .ref q9), (0, .ref h0), (1, .int n), (2, .ref o9)]) hx hb dL_vocabularyOf_12 rfl hl (by decide) rfl (fun ls hl => ?_)
  refine lv_iconst (v := 1) hx hb dL_vocabularyOf_13 (by decide) ?_
  have hP9 := hP.sub (ws' := []) [] rfl
  have hD9 := hD.sub (ws' := []) [] (by decide) rfl
  have hK9 := hK.sub (tys' := []) [] rfl
  refine W.widen (k := 1) (n := 6) (Nat.le_of_ble_eq_true rfl) (Nat.le_of_ble_eq_true rfl) ?_
  exact W.iret (v := 1) hx hb hr (fun t ht hW => ⟨⟨1, (), rfl, rfl, by rw [ht]; exact hP9, va_K.moved hW.alike hK9, hD9⟩, hS.F ht⟩) hS.2.2 dL_vocabularyOf_14
set_option maxHeartbeats 4000000 in
set_option maxRecDepth 100000 in
theorem c_L_ops (l : Launch) (hfl : l.stackTraces = false) (dC : Nat → ClassId) (dI : Nat → Nat → Nat) (z : pG) (h0 : Nat) (ma : Nat) (rn : Nat) (ef : Nat) (ck : Nat) (tr : Nat) (fi : Nat) (se : Nat) (ce : Nat) (pr : Nat) (di : Nat) (dr : Nat) (li : Nat) (ru : Nat) (ba : Nat) (g1 : Nat) (g2 : Nat) (g3 : Nat) (g4 : Nat) (g5 : Nat) (g6 : Nat) (g7 : Nat) (g8 : Nat) (g9 : Nat) (g10 : Nat) (n : Int32) (o9 : Nat) (cO : ClassId) (f0 : Nat → Int64) (sz : Nat) : Met l yL_ops (wsW_ yL_ops cL_ops 4 (some .int) [(0, 9, 12, 33)]) ({ frames := 7, cells := 1, slots := 6, locals := 103 }) (va_Pc [.ref h0, .int n, .ref o9] (pPre z dC dI [(h0, .inr (12, [.ref ma, .ref rn, .ref ef, .ref ck, .ref tr, .int 0, .int 0, .int 0, .int 0, .long 0])), (ma, .inr (7, [.ref fi, .ref se, .ref ce, .ref pr, .ref di, .ref dr, .ref li, .ref ru, .ref ba, .int 1000, .int 0, .int 0, .int 0, .int 0, .int 0, .int 0])), (di, .inr (2, [.ref g1, .ref g2, .ref g3, .ref g4, .ref g5, .ref g6, .ref g7, .ref g8, .ref g9, .ref g10, .int 0, .int 0, .int 0])), (o9, .inl (cO, 1, .inr (.inl f0)))] [(cO, .long)] sz)) (va_Qi (fun (r : Int32) (_ : Unit) => r = 1) (fun _ t => pPost dC dI (va_A [(h0, .inr (12, [.ref ma, .ref rn, .ref ef, .ref ck, .ref tr, .int 0, .int 0, .int 0, .int 0, .long 0])), (ma, .inr (7, [.ref fi, .ref se, .ref ce, .ref pr, .ref di, .ref dr, .ref li, .ref ru, .ref ba, .int 1000, .int 0, .int 0, .int 0, .int 0, .int 0, .int 0])), (di, .inr (2, [.ref g1, .ref g2, .ref g3, .ref g4, .ref g5, .ref g6, .ref g7, .ref g8, .ref g9, .ref g10, .int 0, .int 0, .int 0])), (o9, .inl (cO, 1, .inr (.inl f0)))] sz) [] [] t) (va_A [(h0, .inr (12, [.ref ma, .ref rn, .ref ef, .ref ck, .ref tr, .int 0, .int 0, .int 0, .int 0, .long 0])), (ma, .inr (7, [.ref fi, .ref se, .ref ce, .ref pr, .ref di, .ref dr, .ref li, .ref ru, .ref ba, .int 1000, .int 0, .int 0, .int 0, .int 0, .int 0, .int 0])), (di, .inr (2, [.ref g1, .ref g2, .ref g3, .ref g4, .ref g5, .ref g6, .ref g7, .ref g8, .ref g9, .ref g10, .int 0, .int 0, .int 0])), (o9, .inl (cO, 1, .inr (.inl f0)))] sz)) 1 6 (va_A [(h0, .inr (12, [.ref ma, .ref rn, .ref ef, .ref ck, .ref tr, .int 0, .int 0, .int 0, .int 0, .long 0])), (ma, .inr (7, [.ref fi, .ref se, .ref ce, .ref pr, .ref di, .ref dr, .ref li, .ref ru, .ref ba, .int 1000, .int 0, .int 0, .int 0, .int 0, .int 0, .int 0])), (di, .inr (2, [.ref g1, .ref g2, .ref g3, .ref g4, .ref g5, .ref g6, .ref g7, .ref g8, .ref g9, .ref g10, .int 0, .int 0, .int 0])), (o9, .inl (cO, 1, .inr (.inl f0)))] sz) := by
  refine va_MetW (cc := cL_ops) (maxL := 4) (ret := (some .int)) (hh := [(0, 9, 12, 33)]) (by decide) rfl ?_
  intro p e s m args below meth c s₁ B hml hv
  obtain ⟨rfl, hsz, hP, hK, hD0, hE⟩ := hv
  have hx := B.exec
  have hb := B.bytes
  have hr := B.returns
  have hts0 := atoms_spec (ws := wsW_ yL_ops cL_ops 4 (some .int) [(0, 9, 12, 33)]) B.pre
  have htb := vx_table (x := yL_ops) B (hts0 _ List.mem_cons_self)
  have hts := fun (w : Cond) (h : w ∈ pw) => hts0 w (List.mem_cons_of_mem _ h)
  have hown : s.vm.findClass RL = some m.cls := findClass_of_methodNamed B.named
  have hlocks := B.notSynchronized
  subst hsz
  have hD := hD0.self (sz := s.heap.size)
  generalize hAe : va_A [(h0, .inr (12, [.ref ma, .ref rn, .ref ef, .ref ck, .ref tr, .int 0, .int 0, .int 0, .int 0, .long 0])), (ma, .inr (7, [.ref fi, .ref se, .ref ce, .ref pr, .ref di, .ref dr, .ref li, .ref ru, .ref ba, .int 1000, .int 0, .int 0, .int 0, .int 0, .int 0, .int 0])), (di, .inr (2, [.ref g1, .ref g2, .ref g3, .ref g4, .ref g5, .ref g6, .ref g7, .ref g8, .ref g9, .ref g10, .int 0, .int 0, .int 0])), (o9, .inl (cO, 1, .inr (.inl f0)))] s.heap.size = A at hD hE ⊢
  have hA : ∀ q : Nat, s.heap.size ≤ q → A q := fun q h => by rw [← hAe]; exact Or.inr h
  have hS : va_S A s.heap s.heap [] := va_S.rf
  have hN := hE.1
  have hP : va_P (dC, dI) pcl [(h0, .inr (12, [.ref ma, .ref rn, .ref ef, .ref ck, .ref tr, .int 0, .int 0, .int 0, .int 0, .long 0])), (ma, .inr (7, [.ref fi, .ref se, .ref ce, .ref pr, .ref di, .ref dr, .ref li, .ref ru, .ref ba, .int 1000, .int 0, .int 0, .int 0, .int 0, .int 0, .int 0])), (di, .inr (2, [.ref g1, .ref g2, .ref g3, .ref g4, .ref g5, .ref g6, .ref g7, .ref g8, .ref g9, .ref g10, .int 0, .int 0, .int 0])), (o9, .inl (cO, 1, .inr (.inl f0)))] s.heap := hP
  have hl := lv_entry ([.ref h0, .int n, .ref o9]) (n := 4) (Nat.le_of_ble_eq_true rfl)
  rw [lg_entry_eq]
  generalize (lg_sl ([.ref h0, .int n, .ref o9]) ++ List.replicate (4 - (lg_sl ([.ref h0, .int n, .ref o9])).length) Slot.unset).toArray = ls at hl ⊢
  have hl : lv_has ls 4 [(0, .ref h0), (1, .int n), (2, .ref o9)] := hl
  obtain ⟨H, hH0⟩ : ∃ H, H = s.heap := ⟨_, rfl⟩
  rw [← hH0] at hP ⊢
  have hS : va_S A s.heap H [] := by rw [hH0]; exact hS
  refine lv_aload_n hx hb dL_ops_0 rfl (lv_at hl 2 rfl) ?_
  refine lv_iconst (v := 0) hx hb dL_ops_1 (by decide) ?_
  refine lv_aload_n hx hb dL_ops_2 rfl (lv_at hl 0 rfl) ?_
  refine lv_iload_n hx hb dL_ops_3 rfl (lv_at hl 1 rfl) ?_
  have hPc := hP.sub (ws' := [(h0, .inr (12, [.ref ma, .ref rn, .ref ef, .ref ck, .ref tr, .int 0, .int 0, .int 0, .int 0, .long 0])), (ma, .inr (7, [.ref fi, .ref se, .ref ce, .ref pr, .ref di, .ref dr, .ref li, .ref ru, .ref ba, .int 1000, .int 0, .int 0, .int 0, .int 0, .int 0, .int 0])), (di, .inr (2, [.ref g1, .ref g2, .ref g3, .ref g4, .ref g5, .ref g6, .ref g7, .ref g8, .ref g9, .ref g10, .int 0, .int 0, .int 0]))]) [0, 1, 2] rfl
  have hDc := hD.sub (ws' := [(h0, .inr (12, [.ref ma, .ref rn, .ref ef, .ref ck, .ref tr, .int 0, .int 0, .int 0, .int 0, .long 0])), (ma, .inr (7, [.ref fi, .ref se, .ref ce, .ref pr, .ref di, .ref dr, .ref li, .ref ru, .ref ba, .int 1000, .int 0, .int 0, .int 0, .int 0, .int 0, .int 0])), (di, .inr (2, [.ref g1, .ref g2, .ref g3, .ref g4, .ref g5, .ref g6, .ref g7, .ref g8, .ref g9, .ref g10, .int 0, .int 0, .int 0]))]) [0, 1, 2] (by decide) rfl
  have hKc := hK.sub (tys' := []) [] rfl
  have hFc := va_free (wc := [(h0, .inr (12, [.ref ma, .ref rn, .ref ef, .ref ck, .ref tr, .int 0, .int 0, .int 0, .int 0, .long 0])), (ma, .inr (7, [.ref fi, .ref se, .ref ce, .ref pr, .ref di, .ref dr, .ref li, .ref ru, .ref ba, .int 1000, .int 0, .int 0, .int 0, .int 0, .int 0, .int 0])), (di, .inr (2, [.ref g1, .ref g2, .ref g3, .ref g4, .ref g5, .ref g6, .ref g7, .ref g8, .ref g9, .ref g10, .int 0, .int 0, .int 0]))]) hD hS hA [0, 1, 2] rfl
  refine vx_calli (vx_runV (As := [.int n]) (rest := [.int 0, .ref o9]) ⟨hx, hb, hml, hown, hts⟩ (c_X11_ops l hfl dC dI z h0 ma rn ef ck tr fi se ce pr di dr li ru ba g1 g2 g3 g4 g5 g6 g7 g8 g9 g10 n H.size) (cwV 1 hts (ws_goodV e321 e322 e324 e270 e323) rfl rfl rfl ⟨rfl, by decide +kernel, by decide +kernel, by decide +kernel⟩ ⟨Nat.le_of_ble_eq_true rfl, Nat.le_of_ble_eq_true rfl⟩) ⟨pPre_blind, va_recv hKc hPc (ci := 12) (q0 := 0) rfl rfl, fun U hU hW => ⟨rfl, pPre_at hPc hKc hDc hE hS hFc U hU hW⟩⟩ rfl rfl hl.1 rfl (lv_room (Nat.le_of_ble_eq_true rfl)) dL_ops_4 ⟨Nat.le_of_ble_eq_true rfl, Nat.le_of_ble_eq_true rfl⟩) hS (fun q _ h => hFc q h) hFc (fun q _ h => hFc q h) (fun E ce q9 u9 t H1 locs ht hvm hp9 hX hz1 hk1 hS hce hcv hcl => ?_) (fun _ _ _ _ _ _ _ h9 _ _ _ _ => h9.elim)
  rcases hX with rfl
  refine vx_catch hown [] ({ startPc := 0, endPc := 9, handlerPc := 12, catchType := 33 } : ExceptionTableEntry) [] (htb.trans rfl) (fun z9 h9 => absurd h9 List.not_mem_nil) (by decide) (by decide) (hts _ e650) (va_Nw.use rfl (hN _ n48)) hce hcv hcl ?_
  obtain ⟨hP, hD⟩ := va_join (wr := [(o9, .inl (cO, 1, .inr (.inl f0)))]) (w1 := []) hP hD [0, 1, 2] [3] rfl rfl (by decide) (by decide) hk1 hFc p_P0 p_D0
  generalize H1 = H at hP hS ⊢
  have hP : va_P (dC, dI) pcl [(o9, .inl (cO, 1, .inr (.inl f0)))] H := hP
  have hD : va_D A [(o9, .inl (cO, 1, .inr (.inl f0)))] := hD
  refine W.widen (k := 1) (n := 6) (Nat.le_of_ble_eq_true rfl) (Nat.le_of_ble_eq_true rfl) ?_
  refine lv_astore_n (lv' := [(3, .ref q9), (0, .ref h0), (1, .int n), (2, .ref o9)]) hx hb dL_ops_12 rfl hl (by decide) rfl (fun ls hl => ?_)
  refine lv_iconst (v := 1) hx hb dL_ops_13 (by decide) ?_
  have hP9 := hP.sub (ws' := []) [] rfl
  have hD9 := hD.sub (ws' := []) [] (by decide) rfl
  have hK9 := hK.sub (tys' := []) [] rfl
  refine W.widen (k := 1) (n := 6) (Nat.le_of_ble_eq_true rfl) (Nat.le_of_ble_eq_true rfl) ?_
  exact W.iret (v := 1) hx hb hr (fun t ht hW => ⟨⟨1, (), rfl, rfl, by rw [ht]; exact hP9, va_K.moved hW.alike hK9, hD9⟩, hS.F ht⟩) hS.2.2 dL_ops_14
set_option maxHeartbeats 4000000 in
set_option maxRecDepth 100000 in
theorem c_L_effect (l : Launch) (hfl : l.stackTraces = false) (dC : Nat → ClassId) (dI : Nat → Nat → Nat) (z : pG) (h0 : Nat) (ma : Nat) (rn : Nat) (ef : Nat) (ck : Nat) (tr : Nat) (fi : Nat) (se : Nat) (ce : Nat) (pr : Nat) (di : Nat) (dr : Nat) (li : Nat) (ru : Nat) (ba : Nat) (g1 : Nat) (g2 : Nat) (g3 : Nat) (g4 : Nat) (g5 : Nat) (g6 : Nat) (g7 : Nat) (g8 : Nat) (g9 : Nat) (g10 : Nat) (n : Int32) (v1 : Nat) (v2 : Nat) (v3 : Nat) (v4 : Nat) (o9 : Nat) (cO : ClassId) (f0 : Nat → Int64) (sz : Nat) : Met l yL_effect (wsW_ yL_effect cL_effect 4 (some .int) [(0, 9, 12, 33), (0, 9, 15, 75)]) ({ frames := 7, cells := 1, slots := 6, locals := 103 }) (va_Pc [.ref h0, .int n, .ref o9] (pPre z dC dI [(h0, .inr (12, [.ref ma, .ref rn, .ref ef, .ref ck, .ref tr, .int 0, .int 0, .int 0, .int 0, .long 0])), (ma, .inr (7, [.ref fi, .ref se, .ref ce, .ref pr, .ref di, .ref dr, .ref li, .ref ru, .ref ba, .int 1000, .int 0, .int 0, .int 0, .int 0, .int 0, .int 0])), (di, .inr (2, [.ref g1, .ref g2, .ref g3, .ref g4, .ref g5, .ref g6, .ref g7, .ref g8, .ref g9, .ref g10, .int 0, .int 0, .int 0])), (ef, .inr (4, [.ref di, .ref v1, .ref v2, .ref v3, .ref v4, .int 0, .int 0, .int 0, .int 0])), (o9, .inl (cO, 1, .inr (.inl f0)))] [(cO, .long)] sz)) (va_Qi (fun (r : Int32) (_ : Unit) => r = 1) (fun _ t => pPost dC dI (va_A [(h0, .inr (12, [.ref ma, .ref rn, .ref ef, .ref ck, .ref tr, .int 0, .int 0, .int 0, .int 0, .long 0])), (ma, .inr (7, [.ref fi, .ref se, .ref ce, .ref pr, .ref di, .ref dr, .ref li, .ref ru, .ref ba, .int 1000, .int 0, .int 0, .int 0, .int 0, .int 0, .int 0])), (di, .inr (2, [.ref g1, .ref g2, .ref g3, .ref g4, .ref g5, .ref g6, .ref g7, .ref g8, .ref g9, .ref g10, .int 0, .int 0, .int 0])), (ef, .inr (4, [.ref di, .ref v1, .ref v2, .ref v3, .ref v4, .int 0, .int 0, .int 0, .int 0])), (o9, .inl (cO, 1, .inr (.inl f0)))] sz) [] [] t) (va_A [(h0, .inr (12, [.ref ma, .ref rn, .ref ef, .ref ck, .ref tr, .int 0, .int 0, .int 0, .int 0, .long 0])), (ma, .inr (7, [.ref fi, .ref se, .ref ce, .ref pr, .ref di, .ref dr, .ref li, .ref ru, .ref ba, .int 1000, .int 0, .int 0, .int 0, .int 0, .int 0, .int 0])), (di, .inr (2, [.ref g1, .ref g2, .ref g3, .ref g4, .ref g5, .ref g6, .ref g7, .ref g8, .ref g9, .ref g10, .int 0, .int 0, .int 0])), (ef, .inr (4, [.ref di, .ref v1, .ref v2, .ref v3, .ref v4, .int 0, .int 0, .int 0, .int 0])), (o9, .inl (cO, 1, .inr (.inl f0)))] sz)) 1 6 (va_A [(h0, .inr (12, [.ref ma, .ref rn, .ref ef, .ref ck, .ref tr, .int 0, .int 0, .int 0, .int 0, .long 0])), (ma, .inr (7, [.ref fi, .ref se, .ref ce, .ref pr, .ref di, .ref dr, .ref li, .ref ru, .ref ba, .int 1000, .int 0, .int 0, .int 0, .int 0, .int 0, .int 0])), (di, .inr (2, [.ref g1, .ref g2, .ref g3, .ref g4, .ref g5, .ref g6, .ref g7, .ref g8, .ref g9, .ref g10, .int 0, .int 0, .int 0])), (ef, .inr (4, [.ref di, .ref v1, .ref v2, .ref v3, .ref v4, .int 0, .int 0, .int 0, .int 0])), (o9, .inl (cO, 1, .inr (.inl f0)))] sz) := by
  refine va_MetW (cc := cL_effect) (maxL := 4) (ret := (some .int)) (hh := [(0, 9, 12, 33), (0, 9, 15, 75)]) (by decide) rfl ?_
  intro p e s m args below meth c s₁ B hml hv
  obtain ⟨rfl, hsz, hP, hK, hD0, hE⟩ := hv
  have hx := B.exec
  have hb := B.bytes
  have hr := B.returns
  have hts0 := atoms_spec (ws := wsW_ yL_effect cL_effect 4 (some .int) [(0, 9, 12, 33), (0, 9, 15, 75)]) B.pre
  have htb := vx_table (x := yL_effect) B (hts0 _ List.mem_cons_self)
  have hts := fun (w : Cond) (h : w ∈ pw) => hts0 w (List.mem_cons_of_mem _ h)
  have hown : s.vm.findClass RL = some m.cls := findClass_of_methodNamed B.named
  have hlocks := B.notSynchronized
  subst hsz
  have hD := hD0.self (sz := s.heap.size)
  generalize hAe : va_A [(h0, .inr (12, [.ref ma, .ref rn, .ref ef, .ref ck, .ref tr, .int 0, .int 0, .int 0, .int 0, .long 0])), (ma, .inr (7, [.ref fi, .ref se, .ref ce, .ref pr, .ref di, .ref dr, .ref li, .ref ru, .ref ba, .int 1000, .int 0, .int 0, .int 0, .int 0, .int 0, .int 0])), (di, .inr (2, [.ref g1, .ref g2, .ref g3, .ref g4, .ref g5, .ref g6, .ref g7, .ref g8, .ref g9, .ref g10, .int 0, .int 0, .int 0])), (ef, .inr (4, [.ref di, .ref v1, .ref v2, .ref v3, .ref v4, .int 0, .int 0, .int 0, .int 0])), (o9, .inl (cO, 1, .inr (.inl f0)))] s.heap.size = A at hD hE ⊢
  have hA : ∀ q : Nat, s.heap.size ≤ q → A q := fun q h => by rw [← hAe]; exact Or.inr h
  have hS : va_S A s.heap s.heap [] := va_S.rf
  have hN := hE.1
  have hP : va_P (dC, dI) pcl [(h0, .inr (12, [.ref ma, .ref rn, .ref ef, .ref ck, .ref tr, .int 0, .int 0, .int 0, .int 0, .long 0])), (ma, .inr (7, [.ref fi, .ref se, .ref ce, .ref pr, .ref di, .ref dr, .ref li, .ref ru, .ref ba, .int 1000, .int 0, .int 0, .int 0, .int 0, .int 0, .int 0])), (di, .inr (2, [.ref g1, .ref g2, .ref g3, .ref g4, .ref g5, .ref g6, .ref g7, .ref g8, .ref g9, .ref g10, .int 0, .int 0, .int 0])), (ef, .inr (4, [.ref di, .ref v1, .ref v2, .ref v3, .ref v4, .int 0, .int 0, .int 0, .int 0])), (o9, .inl (cO, 1, .inr (.inl f0)))] s.heap := hP
  have hl := lv_entry ([.ref h0, .int n, .ref o9]) (n := 4) (Nat.le_of_ble_eq_true rfl)
  rw [lg_entry_eq]
  generalize (lg_sl ([.ref h0, .int n, .ref o9]) ++ List.replicate (4 - (lg_sl ([.ref h0, .int n, .ref o9])).length) Slot.unset).toArray = ls at hl ⊢
  have hl : lv_has ls 4 [(0, .ref h0), (1, .int n), (2, .ref o9)] := hl
  obtain ⟨H, hH0⟩ : ∃ H, H = s.heap := ⟨_, rfl⟩
  rw [← hH0] at hP ⊢
  have hS : va_S A s.heap H [] := by rw [hH0]; exact hS
  refine lv_aload_n hx hb dL_effect_0 rfl (lv_at hl 2 rfl) ?_
  refine lv_iconst (v := 0) hx hb dL_effect_1 (by decide) ?_
  refine lv_aload_n hx hb dL_effect_2 rfl (lv_at hl 0 rfl) ?_
  refine lv_iload_n hx hb dL_effect_3 rfl (lv_at hl 1 rfl) ?_
  have hPc := hP.sub (ws' := [(h0, .inr (12, [.ref ma, .ref rn, .ref ef, .ref ck, .ref tr, .int 0, .int 0, .int 0, .int 0, .long 0])), (ma, .inr (7, [.ref fi, .ref se, .ref ce, .ref pr, .ref di, .ref dr, .ref li, .ref ru, .ref ba, .int 1000, .int 0, .int 0, .int 0, .int 0, .int 0, .int 0])), (di, .inr (2, [.ref g1, .ref g2, .ref g3, .ref g4, .ref g5, .ref g6, .ref g7, .ref g8, .ref g9, .ref g10, .int 0, .int 0, .int 0])), (ef, .inr (4, [.ref di, .ref v1, .ref v2, .ref v3, .ref v4, .int 0, .int 0, .int 0, .int 0]))]) [0, 1, 2, 3] rfl
  have hDc := hD.sub (ws' := [(h0, .inr (12, [.ref ma, .ref rn, .ref ef, .ref ck, .ref tr, .int 0, .int 0, .int 0, .int 0, .long 0])), (ma, .inr (7, [.ref fi, .ref se, .ref ce, .ref pr, .ref di, .ref dr, .ref li, .ref ru, .ref ba, .int 1000, .int 0, .int 0, .int 0, .int 0, .int 0, .int 0])), (di, .inr (2, [.ref g1, .ref g2, .ref g3, .ref g4, .ref g5, .ref g6, .ref g7, .ref g8, .ref g9, .ref g10, .int 0, .int 0, .int 0])), (ef, .inr (4, [.ref di, .ref v1, .ref v2, .ref v3, .ref v4, .int 0, .int 0, .int 0, .int 0]))]) [0, 1, 2, 3] (by decide) rfl
  have hKc := hK.sub (tys' := []) [] rfl
  have hFc := va_free (wc := [(h0, .inr (12, [.ref ma, .ref rn, .ref ef, .ref ck, .ref tr, .int 0, .int 0, .int 0, .int 0, .long 0])), (ma, .inr (7, [.ref fi, .ref se, .ref ce, .ref pr, .ref di, .ref dr, .ref li, .ref ru, .ref ba, .int 1000, .int 0, .int 0, .int 0, .int 0, .int 0, .int 0])), (di, .inr (2, [.ref g1, .ref g2, .ref g3, .ref g4, .ref g5, .ref g6, .ref g7, .ref g8, .ref g9, .ref g10, .int 0, .int 0, .int 0])), (ef, .inr (4, [.ref di, .ref v1, .ref v2, .ref v3, .ref v4, .int 0, .int 0, .int 0, .int 0]))]) hD hS hA [0, 1, 2, 3] rfl
  refine vx_calli (vx_runV (As := [.int n]) (rest := [.int 0, .ref o9]) ⟨hx, hb, hml, hown, hts⟩ (c_X11_effect l hfl dC dI z h0 ma rn ef ck tr fi se ce pr di dr li ru ba g1 g2 g3 g4 g5 g6 g7 g8 g9 g10 n v1 v2 v3 v4 H.size) (cwV 1 hts (ws_goodV e333 e334 e336 e270 e335) rfl rfl rfl ⟨rfl, by decide +kernel, by decide +kernel, by decide +kernel⟩ ⟨Nat.le_of_ble_eq_true rfl, Nat.le_of_ble_eq_true rfl⟩) ⟨pPre_blind, va_recv hKc hPc (ci := 12) (q0 := 0) rfl rfl, fun U hU hW => ⟨rfl, pPre_at hPc hKc hDc hE hS hFc U hU hW⟩⟩ rfl rfl hl.1 rfl (lv_room (Nat.le_of_ble_eq_true rfl)) dL_effect_4 ⟨Nat.le_of_ble_eq_true rfl, Nat.le_of_ble_eq_true rfl⟩) hS (fun q _ h => hFc q h) hFc (fun q _ h => hFc q h) (fun E ce q9 u9 t H1 locs ht hvm hp9 hX hz1 hk1 hS hce hcv hcl => ?_) (fun _ _ _ _ _ _ _ h9 _ _ _ _ => h9.elim)
  rcases hX with rfl
  refine vx_catch hown [] ({ startPc := 0, endPc := 9, handlerPc := 12, catchType := 33 } : ExceptionTableEntry) [({ startPc := 0, endPc := 9, handlerPc := 15, catchType := 75 } : ExceptionTableEntry)] (htb.trans rfl) (fun z9 h9 => absurd h9 List.not_mem_nil) (by decide) (by decide) (hts _ e650) (va_Nw.use rfl (hN _ n48)) hce hcv hcl ?_
  obtain ⟨hP, hD⟩ := va_join (wr := [(o9, .inl (cO, 1, .inr (.inl f0)))]) (w1 := []) hP hD [0, 1, 2, 3] [4] rfl rfl (by decide) (by decide) hk1 hFc p_P0 p_D0
  generalize H1 = H at hP hS ⊢
  have hP : va_P (dC, dI) pcl [(o9, .inl (cO, 1, .inr (.inl f0)))] H := hP
  have hD : va_D A [(o9, .inl (cO, 1, .inr (.inl f0)))] := hD
  refine W.widen (k := 1) (n := 6) (Nat.le_of_ble_eq_true rfl) (Nat.le_of_ble_eq_true rfl) ?_
  refine lv_astore_n (lv' := [(3, .ref q9), (0, .ref h0), (1, .int n), (2, .ref o9)]) hx hb dL_effect_12 rfl hl (by decide) rfl (fun ls hl => ?_)
  refine lv_iconst (v := 1) hx hb dL_effect_13 (by decide) ?_
  have hP9 := hP.sub (ws' := []) [] rfl
  have hD9 := hD.sub (ws' := []) [] (by decide) rfl
  have hK9 := hK.sub (tys' := []) [] rfl
  refine W.widen (k := 1) (n := 6) (Nat.le_of_ble_eq_true rfl) (Nat.le_of_ble_eq_true rfl) ?_
  exact W.iret (v := 1) hx hb hr (fun t ht hW => ⟨⟨1, (), rfl, rfl, by rw [ht]; exact hP9, va_K.moved hW.alike hK9, hD9⟩, hS.F ht⟩) hS.2.2 dL_effect_14
set_option maxHeartbeats 4000000 in
set_option maxRecDepth 100000 in
theorem c_L_find (l : Launch) (hfl : l.stackTraces = false) (dC : Nat → ClassId) (dI : Nat → Nat → Nat) (z : pG) (h0 : Nat) (ma : Nat) (rn : Nat) (ef : Nat) (ck : Nat) (tr : Nat) (fi : Nat) (se : Nat) (ce : Nat) (pr : Nat) (di : Nat) (dr : Nat) (li : Nat) (ru : Nat) (ba : Nat) (g1 : Nat) (g2 : Nat) (g3 : Nat) (g4 : Nat) (g5 : Nat) (g6 : Nat) (g7 : Nat) (g8 : Nat) (g9 : Nat) (g10 : Nat) (n : Int32) (o9 : Nat) (cO : ClassId) (f0 : Nat → Int64) (sz : Nat) : Met l yL_find (wsW_ yL_find cL_find 4 (some .int) [(0, 9, 12, 13), (0, 9, 15, 28)]) ({ frames := 7, cells := 1, slots := 6, locals := 104 }) (va_Pc [.ref h0, .int n, .ref o9] (pPre z dC dI [(h0, .inr (12, [.ref ma, .ref rn, .ref ef, .ref ck, .ref tr, .int 0, .int 0, .int 0, .int 0, .long 0])), (ma, .inr (7, [.ref fi, .ref se, .ref ce, .ref pr, .ref di, .ref dr, .ref li, .ref ru, .ref ba, .int 1000, .int 0, .int 0, .int 0, .int 0, .int 0, .int 0])), (di, .inr (2, [.ref g1, .ref g2, .ref g3, .ref g4, .ref g5, .ref g6, .ref g7, .ref g8, .ref g9, .ref g10, .int 0, .int 0, .int 0])), (o9, .inl (cO, 1, .inr (.inl f0)))] [(cO, .long)] sz)) (va_Qi (fun (r : Int32) (_ : Unit) => (r = 1 ∧ (n < 0 ∨ ¬ n < 16)) ∨ (r = 2 ∧ ¬ n < 0 ∧ n < 16)) (fun _ t => pPost dC dI (va_A [(h0, .inr (12, [.ref ma, .ref rn, .ref ef, .ref ck, .ref tr, .int 0, .int 0, .int 0, .int 0, .long 0])), (ma, .inr (7, [.ref fi, .ref se, .ref ce, .ref pr, .ref di, .ref dr, .ref li, .ref ru, .ref ba, .int 1000, .int 0, .int 0, .int 0, .int 0, .int 0, .int 0])), (di, .inr (2, [.ref g1, .ref g2, .ref g3, .ref g4, .ref g5, .ref g6, .ref g7, .ref g8, .ref g9, .ref g10, .int 0, .int 0, .int 0])), (o9, .inl (cO, 1, .inr (.inl f0)))] sz) [] [] t) (va_A [(h0, .inr (12, [.ref ma, .ref rn, .ref ef, .ref ck, .ref tr, .int 0, .int 0, .int 0, .int 0, .long 0])), (ma, .inr (7, [.ref fi, .ref se, .ref ce, .ref pr, .ref di, .ref dr, .ref li, .ref ru, .ref ba, .int 1000, .int 0, .int 0, .int 0, .int 0, .int 0, .int 0])), (di, .inr (2, [.ref g1, .ref g2, .ref g3, .ref g4, .ref g5, .ref g6, .ref g7, .ref g8, .ref g9, .ref g10, .int 0, .int 0, .int 0])), (o9, .inl (cO, 1, .inr (.inl f0)))] sz)) 1 6 (va_A [(h0, .inr (12, [.ref ma, .ref rn, .ref ef, .ref ck, .ref tr, .int 0, .int 0, .int 0, .int 0, .long 0])), (ma, .inr (7, [.ref fi, .ref se, .ref ce, .ref pr, .ref di, .ref dr, .ref li, .ref ru, .ref ba, .int 1000, .int 0, .int 0, .int 0, .int 0, .int 0, .int 0])), (di, .inr (2, [.ref g1, .ref g2, .ref g3, .ref g4, .ref g5, .ref g6, .ref g7, .ref g8, .ref g9, .ref g10, .int 0, .int 0, .int 0])), (o9, .inl (cO, 1, .inr (.inl f0)))] sz) := by
  refine va_MetW (cc := cL_find) (maxL := 4) (ret := (some .int)) (hh := [(0, 9, 12, 13), (0, 9, 15, 28)]) (by decide) rfl ?_
  intro p e s m args below meth c s₁ B hml hv
  obtain ⟨rfl, hsz, hP, hK, hD0, hE⟩ := hv
  have hx := B.exec
  have hb := B.bytes
  have hr := B.returns
  have hts0 := atoms_spec (ws := wsW_ yL_find cL_find 4 (some .int) [(0, 9, 12, 13), (0, 9, 15, 28)]) B.pre
  have htb := vx_table (x := yL_find) B (hts0 _ List.mem_cons_self)
  have hts := fun (w : Cond) (h : w ∈ pw) => hts0 w (List.mem_cons_of_mem _ h)
  have hown : s.vm.findClass RL = some m.cls := findClass_of_methodNamed B.named
  have hlocks := B.notSynchronized
  subst hsz
  have hD := hD0.self (sz := s.heap.size)
  generalize hAe : va_A [(h0, .inr (12, [.ref ma, .ref rn, .ref ef, .ref ck, .ref tr, .int 0, .int 0, .int 0, .int 0, .long 0])), (ma, .inr (7, [.ref fi, .ref se, .ref ce, .ref pr, .ref di, .ref dr, .ref li, .ref ru, .ref ba, .int 1000, .int 0, .int 0, .int 0, .int 0, .int 0, .int 0])), (di, .inr (2, [.ref g1, .ref g2, .ref g3, .ref g4, .ref g5, .ref g6, .ref g7, .ref g8, .ref g9, .ref g10, .int 0, .int 0, .int 0])), (o9, .inl (cO, 1, .inr (.inl f0)))] s.heap.size = A at hD hE ⊢
  have hA : ∀ q : Nat, s.heap.size ≤ q → A q := fun q h => by rw [← hAe]; exact Or.inr h
  have hS : va_S A s.heap s.heap [] := va_S.rf
  have hN := hE.1
  have hP : va_P (dC, dI) pcl [(h0, .inr (12, [.ref ma, .ref rn, .ref ef, .ref ck, .ref tr, .int 0, .int 0, .int 0, .int 0, .long 0])), (ma, .inr (7, [.ref fi, .ref se, .ref ce, .ref pr, .ref di, .ref dr, .ref li, .ref ru, .ref ba, .int 1000, .int 0, .int 0, .int 0, .int 0, .int 0, .int 0])), (di, .inr (2, [.ref g1, .ref g2, .ref g3, .ref g4, .ref g5, .ref g6, .ref g7, .ref g8, .ref g9, .ref g10, .int 0, .int 0, .int 0])), (o9, .inl (cO, 1, .inr (.inl f0)))] s.heap := hP
  have hl := lv_entry ([.ref h0, .int n, .ref o9]) (n := 4) (Nat.le_of_ble_eq_true rfl)
  rw [lg_entry_eq]
  generalize (lg_sl ([.ref h0, .int n, .ref o9]) ++ List.replicate (4 - (lg_sl ([.ref h0, .int n, .ref o9])).length) Slot.unset).toArray = ls at hl ⊢
  have hl : lv_has ls 4 [(0, .ref h0), (1, .int n), (2, .ref o9)] := hl
  obtain ⟨H, hH0⟩ : ∃ H, H = s.heap := ⟨_, rfl⟩
  rw [← hH0] at hP ⊢
  have hS : va_S A s.heap H [] := by rw [hH0]; exact hS
  refine lv_aload_n hx hb dL_find_0 rfl (lv_at hl 2 rfl) ?_
  refine lv_iconst (v := 0) hx hb dL_find_1 (by decide) ?_
  refine lv_aload_n hx hb dL_find_2 rfl (lv_at hl 0 rfl) ?_
  refine lv_iload_n hx hb dL_find_3 rfl (lv_at hl 1 rfl) ?_
  have hPc := hP.sub (ws' := [(h0, .inr (12, [.ref ma, .ref rn, .ref ef, .ref ck, .ref tr, .int 0, .int 0, .int 0, .int 0, .long 0])), (ma, .inr (7, [.ref fi, .ref se, .ref ce, .ref pr, .ref di, .ref dr, .ref li, .ref ru, .ref ba, .int 1000, .int 0, .int 0, .int 0, .int 0, .int 0, .int 0])), (di, .inr (2, [.ref g1, .ref g2, .ref g3, .ref g4, .ref g5, .ref g6, .ref g7, .ref g8, .ref g9, .ref g10, .int 0, .int 0, .int 0]))]) [0, 1, 2] rfl
  have hDc := hD.sub (ws' := [(h0, .inr (12, [.ref ma, .ref rn, .ref ef, .ref ck, .ref tr, .int 0, .int 0, .int 0, .int 0, .long 0])), (ma, .inr (7, [.ref fi, .ref se, .ref ce, .ref pr, .ref di, .ref dr, .ref li, .ref ru, .ref ba, .int 1000, .int 0, .int 0, .int 0, .int 0, .int 0, .int 0])), (di, .inr (2, [.ref g1, .ref g2, .ref g3, .ref g4, .ref g5, .ref g6, .ref g7, .ref g8, .ref g9, .ref g10, .int 0, .int 0, .int 0]))]) [0, 1, 2] (by decide) rfl
  have hKc := hK.sub (tys' := []) [] rfl
  have hFc := va_free (wc := [(h0, .inr (12, [.ref ma, .ref rn, .ref ef, .ref ck, .ref tr, .int 0, .int 0, .int 0, .int 0, .long 0])), (ma, .inr (7, [.ref fi, .ref se, .ref ce, .ref pr, .ref di, .ref dr, .ref li, .ref ru, .ref ba, .int 1000, .int 0, .int 0, .int 0, .int 0, .int 0, .int 0])), (di, .inr (2, [.ref g1, .ref g2, .ref g3, .ref g4, .ref g5, .ref g6, .ref g7, .ref g8, .ref g9, .ref g10, .int 0, .int 0, .int 0]))]) hD hS hA [0, 1, 2] rfl
  refine vx_calli (vx_runV (As := [.int n]) (rest := [.int 0, .ref o9]) ⟨hx, hb, hml, hown, hts⟩ (c_X11_find l hfl dC dI z h0 ma rn ef ck tr fi se ce pr di dr li ru ba g1 g2 g3 g4 g5 g6 g7 g8 g9 g10 n H.size) (cwV 1 hts (ws_goodV e317 e318 e320 e270 e319) rfl rfl rfl ⟨rfl, by decide +kernel, by decide +kernel, by decide +kernel⟩ ⟨Nat.le_of_ble_eq_true rfl, Nat.le_of_ble_eq_true rfl⟩) ⟨pPre_blind, va_recv hKc hPc (ci := 12) (q0 := 0) rfl rfl, fun U hU hW => ⟨rfl, pPre_at hPc hKc hDc hE hS hFc U hU hW⟩⟩ rfl rfl hl.1 rfl (lv_room (Nat.le_of_ble_eq_true rfl)) dL_find_4 ⟨Nat.le_of_ble_eq_true rfl, Nat.le_of_ble_eq_true rfl⟩) hS (fun q _ h => hFc q h) hFc (fun q _ h => hFc q h) (fun E ce q9 u9 t H1 locs ht hvm hp9 hX hz1 hk1 hS hce hcv hcl => ?_) (fun _ _ _ _ _ _ _ h9 _ _ _ _ => h9.elim)
  rcases hX with ⟨rfl, p3⟩ | ⟨rfl, p4⟩
  · refine vx_catch hown [] ({ startPc := 0, endPc := 9, handlerPc := 12, catchType := 13 } : ExceptionTableEntry) [({ startPc := 0, endPc := 9, handlerPc := 15, catchType := 28 } : ExceptionTableEntry)] (htb.trans rfl) (fun z9 h9 => absurd h9 List.not_mem_nil) (by decide) (by decide) (hts _ e647) (va_Nw.use rfl (hN _ n46)) hce hcv hcl ?_
    obtain ⟨hP, hD⟩ := va_join (wr := [(o9, .inl (cO, 1, .inr (.inl f0)))]) (w1 := []) hP hD [0, 1, 2] [3] rfl rfl (by decide) (by decide) hk1 hFc p_P0 p_D0
    generalize H1 = H at hP hS ⊢
    have hP : va_P (dC, dI) pcl [(o9, .inl (cO, 1, .inr (.inl f0)))] H := hP
    have hD : va_D A [(o9, .inl (cO, 1, .inr (.inl f0)))] := hD
    refine W.widen (k := 1) (n := 6) (Nat.le_of_ble_eq_true rfl) (Nat.le_of_ble_eq_true rfl) ?_
    refine lv_astore_n (lv' := [(3, .ref q9), (0, .ref h0), (1, .int n), (2, .ref o9)]) hx hb dL_find_12 rfl hl (by decide) rfl (fun ls hl => ?_)
    refine lv_iconst (v := 1) hx hb dL_find_13 (by decide) ?_
    have hP9 := hP.sub (ws' := []) [] rfl
    have hD9 := hD.sub (ws' := []) [] (by decide) rfl
    have hK9 := hK.sub (tys' := []) [] rfl
    refine W.widen (k := 1) (n := 6) (Nat.le_of_ble_eq_true rfl) (Nat.le_of_ble_eq_true rfl) ?_
    exact W.iret (v := 1) hx hb hr (fun t ht hW => ⟨⟨1, (), rfl, (Or.inl ⟨rfl, p3⟩), by rw [ht]; exact hP9, va_K.moved hW.alike hK9, hD9⟩, hS.F ht⟩) hS.2.2 dL_find_14
  · refine vx_catch hown [({ startPc := 0, endPc := 9, handlerPc := 12, catchType := 13 } : ExceptionTableEntry)] ({ startPc := 0, endPc := 9, handlerPc := 15, catchType := 28 } : ExceptionTableEntry) [] (htb.trans rfl) (fun z9 h9 => by rw [List.mem_singleton.mp h9]; exact Or.inr ⟨by decide, "java/lang/IllegalArgumentException", (hts _ e647), hE.2.2.2.2.2.2.2.2.2.2.2⟩) (by decide) (by decide) (hts _ e649) (va_Nw.use rfl (hN _ n51)) hce hcv hcl ?_
    obtain ⟨hP, hD⟩ := va_join (wr := [(o9, .inl (cO, 1, .inr (.inl f0)))]) (w1 := []) hP hD [0, 1, 2] [3] rfl rfl (by decide) (by decide) hk1 hFc p_P0 p_D0
    generalize H1 = H at hP hS ⊢
    have hP : va_P (dC, dI) pcl [(o9, .inl (cO, 1, .inr (.inl f0)))] H := hP
    have hD : va_D A [(o9, .inl (cO, 1, .inr (.inl f0)))] := hD
    refine W.widen (k := 1) (n := 6) (Nat.le_of_ble_eq_true rfl) (Nat.le_of_ble_eq_true rfl) ?_
    refine lv_astore_n (lv' := [(3, .ref q9), (0, .ref h0), (1, .int n), (2, .ref o9)]) hx hb dL_find_15 rfl hl (by decide) rfl (fun ls hl => ?_)
    refine lv_iconst (v := 2) hx hb dL_find_16 (by decide) ?_
    have hP9 := hP.sub (ws' := []) [] rfl
    have hD9 := hD.sub (ws' := []) [] (by decide) rfl
    have hK9 := hK.sub (tys' := []) [] rfl
    refine W.widen (k := 1) (n := 6) (Nat.le_of_ble_eq_true rfl) (Nat.le_of_ble_eq_true rfl) ?_
    exact W.iret (v := 2) hx hb hr (fun t ht hW => ⟨⟨2, (), rfl, (Or.inr (⟨rfl, p4⟩)), by rw [ht]; exact hP9, va_K.moved hW.alike hK9, hD9⟩, hS.F ht⟩) hS.2.2 dL_find_17
set_option maxHeartbeats 4000000 in
set_option maxRecDepth 100000 in
theorem c_L_opAt (l : Launch) (hfl : l.stackTraces = false) (dC : Nat → ClassId) (dI : Nat → Nat → Nat) (z : pG) (h0 : Nat) (ma : Nat) (rn : Nat) (ef : Nat) (ck : Nat) (tr : Nat) (fi : Nat) (se : Nat) (ce : Nat) (pr : Nat) (di : Nat) (dr : Nat) (li : Nat) (ru : Nat) (ba : Nat) (g1 : Nat) (g2 : Nat) (g3 : Nat) (g4 : Nat) (g5 : Nat) (g6 : Nat) (g7 : Nat) (g8 : Nat) (g9 : Nat) (g10 : Nat) (n : Int32) (k : Int32) (o9 : Nat) (cO : ClassId) (f0 : Nat → Int64) (sz : Nat) : Met l yL_opAt (wsW_ yL_opAt cL_opAt 5 (some .int) [(0, 10, 13, 33)]) ({ frames := 7, cells := 1, slots := 6, locals := 104 }) (va_Pc [.ref h0, .int n, .int k, .ref o9] (pPre z dC dI [(h0, .inr (12, [.ref ma, .ref rn, .ref ef, .ref ck, .ref tr, .int 0, .int 0, .int 0, .int 0, .long 0])), (ma, .inr (7, [.ref fi, .ref se, .ref ce, .ref pr, .ref di, .ref dr, .ref li, .ref ru, .ref ba, .int 1000, .int 0, .int 0, .int 0, .int 0, .int 0, .int 0])), (di, .inr (2, [.ref g1, .ref g2, .ref g3, .ref g4, .ref g5, .ref g6, .ref g7, .ref g8, .ref g9, .ref g10, .int 0, .int 0, .int 0])), (o9, .inl (cO, 1, .inr (.inl f0)))] [(cO, .long)] sz)) (va_Qi (fun (r : Int32) (_ : Unit) => r = 1) (fun _ t => pPost dC dI (va_A [(h0, .inr (12, [.ref ma, .ref rn, .ref ef, .ref ck, .ref tr, .int 0, .int 0, .int 0, .int 0, .long 0])), (ma, .inr (7, [.ref fi, .ref se, .ref ce, .ref pr, .ref di, .ref dr, .ref li, .ref ru, .ref ba, .int 1000, .int 0, .int 0, .int 0, .int 0, .int 0, .int 0])), (di, .inr (2, [.ref g1, .ref g2, .ref g3, .ref g4, .ref g5, .ref g6, .ref g7, .ref g8, .ref g9, .ref g10, .int 0, .int 0, .int 0])), (o9, .inl (cO, 1, .inr (.inl f0)))] sz) [] [] t) (va_A [(h0, .inr (12, [.ref ma, .ref rn, .ref ef, .ref ck, .ref tr, .int 0, .int 0, .int 0, .int 0, .long 0])), (ma, .inr (7, [.ref fi, .ref se, .ref ce, .ref pr, .ref di, .ref dr, .ref li, .ref ru, .ref ba, .int 1000, .int 0, .int 0, .int 0, .int 0, .int 0, .int 0])), (di, .inr (2, [.ref g1, .ref g2, .ref g3, .ref g4, .ref g5, .ref g6, .ref g7, .ref g8, .ref g9, .ref g10, .int 0, .int 0, .int 0])), (o9, .inl (cO, 1, .inr (.inl f0)))] sz)) 1 6 (va_A [(h0, .inr (12, [.ref ma, .ref rn, .ref ef, .ref ck, .ref tr, .int 0, .int 0, .int 0, .int 0, .long 0])), (ma, .inr (7, [.ref fi, .ref se, .ref ce, .ref pr, .ref di, .ref dr, .ref li, .ref ru, .ref ba, .int 1000, .int 0, .int 0, .int 0, .int 0, .int 0, .int 0])), (di, .inr (2, [.ref g1, .ref g2, .ref g3, .ref g4, .ref g5, .ref g6, .ref g7, .ref g8, .ref g9, .ref g10, .int 0, .int 0, .int 0])), (o9, .inl (cO, 1, .inr (.inl f0)))] sz) := by
  refine va_MetW (cc := cL_opAt) (maxL := 5) (ret := (some .int)) (hh := [(0, 10, 13, 33)]) (by decide) rfl ?_
  intro p e s m args below meth c s₁ B hml hv
  obtain ⟨rfl, hsz, hP, hK, hD0, hE⟩ := hv
  have hx := B.exec
  have hb := B.bytes
  have hr := B.returns
  have hts0 := atoms_spec (ws := wsW_ yL_opAt cL_opAt 5 (some .int) [(0, 10, 13, 33)]) B.pre
  have htb := vx_table (x := yL_opAt) B (hts0 _ List.mem_cons_self)
  have hts := fun (w : Cond) (h : w ∈ pw) => hts0 w (List.mem_cons_of_mem _ h)
  have hown : s.vm.findClass RL = some m.cls := findClass_of_methodNamed B.named
  have hlocks := B.notSynchronized
  subst hsz
  have hD := hD0.self (sz := s.heap.size)
  generalize hAe : va_A [(h0, .inr (12, [.ref ma, .ref rn, .ref ef, .ref ck, .ref tr, .int 0, .int 0, .int 0, .int 0, .long 0])), (ma, .inr (7, [.ref fi, .ref se, .ref ce, .ref pr, .ref di, .ref dr, .ref li, .ref ru, .ref ba, .int 1000, .int 0, .int 0, .int 0, .int 0, .int 0, .int 0])), (di, .inr (2, [.ref g1, .ref g2, .ref g3, .ref g4, .ref g5, .ref g6, .ref g7, .ref g8, .ref g9, .ref g10, .int 0, .int 0, .int 0])), (o9, .inl (cO, 1, .inr (.inl f0)))] s.heap.size = A at hD hE ⊢
  have hA : ∀ q : Nat, s.heap.size ≤ q → A q := fun q h => by rw [← hAe]; exact Or.inr h
  have hS : va_S A s.heap s.heap [] := va_S.rf
  have hN := hE.1
  have hP : va_P (dC, dI) pcl [(h0, .inr (12, [.ref ma, .ref rn, .ref ef, .ref ck, .ref tr, .int 0, .int 0, .int 0, .int 0, .long 0])), (ma, .inr (7, [.ref fi, .ref se, .ref ce, .ref pr, .ref di, .ref dr, .ref li, .ref ru, .ref ba, .int 1000, .int 0, .int 0, .int 0, .int 0, .int 0, .int 0])), (di, .inr (2, [.ref g1, .ref g2, .ref g3, .ref g4, .ref g5, .ref g6, .ref g7, .ref g8, .ref g9, .ref g10, .int 0, .int 0, .int 0])), (o9, .inl (cO, 1, .inr (.inl f0)))] s.heap := hP
  have hl := lv_entry ([.ref h0, .int n, .int k, .ref o9]) (n := 5) (Nat.le_of_ble_eq_true rfl)
  rw [lg_entry_eq]
  generalize (lg_sl ([.ref h0, .int n, .int k, .ref o9]) ++ List.replicate (5 - (lg_sl ([.ref h0, .int n, .int k, .ref o9])).length) Slot.unset).toArray = ls at hl ⊢
  have hl : lv_has ls 5 [(0, .ref h0), (1, .int n), (2, .int k), (3, .ref o9)] := hl
  obtain ⟨H, hH0⟩ : ∃ H, H = s.heap := ⟨_, rfl⟩
  rw [← hH0] at hP ⊢
  have hS : va_S A s.heap H [] := by rw [hH0]; exact hS
  refine lv_aload_n hx hb dL_opAt_0 rfl (lv_at hl 3 rfl) ?_
  refine lv_iconst (v := 0) hx hb dL_opAt_1 (by decide) ?_
  refine lv_aload_n hx hb dL_opAt_2 rfl (lv_at hl 0 rfl) ?_
  refine lv_iload_n hx hb dL_opAt_3 rfl (lv_at hl 1 rfl) ?_
  refine lv_iload_n hx hb dL_opAt_4 rfl (lv_at hl 2 rfl) ?_
  have hPc := hP.sub (ws' := [(h0, .inr (12, [.ref ma, .ref rn, .ref ef, .ref ck, .ref tr, .int 0, .int 0, .int 0, .int 0, .long 0])), (ma, .inr (7, [.ref fi, .ref se, .ref ce, .ref pr, .ref di, .ref dr, .ref li, .ref ru, .ref ba, .int 1000, .int 0, .int 0, .int 0, .int 0, .int 0, .int 0])), (di, .inr (2, [.ref g1, .ref g2, .ref g3, .ref g4, .ref g5, .ref g6, .ref g7, .ref g8, .ref g9, .ref g10, .int 0, .int 0, .int 0]))]) [0, 1, 2] rfl
  have hDc := hD.sub (ws' := [(h0, .inr (12, [.ref ma, .ref rn, .ref ef, .ref ck, .ref tr, .int 0, .int 0, .int 0, .int 0, .long 0])), (ma, .inr (7, [.ref fi, .ref se, .ref ce, .ref pr, .ref di, .ref dr, .ref li, .ref ru, .ref ba, .int 1000, .int 0, .int 0, .int 0, .int 0, .int 0, .int 0])), (di, .inr (2, [.ref g1, .ref g2, .ref g3, .ref g4, .ref g5, .ref g6, .ref g7, .ref g8, .ref g9, .ref g10, .int 0, .int 0, .int 0]))]) [0, 1, 2] (by decide) rfl
  have hKc := hK.sub (tys' := []) [] rfl
  have hFc := va_free (wc := [(h0, .inr (12, [.ref ma, .ref rn, .ref ef, .ref ck, .ref tr, .int 0, .int 0, .int 0, .int 0, .long 0])), (ma, .inr (7, [.ref fi, .ref se, .ref ce, .ref pr, .ref di, .ref dr, .ref li, .ref ru, .ref ba, .int 1000, .int 0, .int 0, .int 0, .int 0, .int 0, .int 0])), (di, .inr (2, [.ref g1, .ref g2, .ref g3, .ref g4, .ref g5, .ref g6, .ref g7, .ref g8, .ref g9, .ref g10, .int 0, .int 0, .int 0]))]) hD hS hA [0, 1, 2] rfl
  refine vx_calli (vx_runV (As := [.int n, .int k]) (rest := [.int 0, .ref o9]) ⟨hx, hb, hml, hown, hts⟩ (c_X11_opAt l hfl dC dI z h0 ma rn ef ck tr fi se ce pr di dr li ru ba g1 g2 g3 g4 g5 g6 g7 g8 g9 g10 n k H.size) (cwV 2 hts (ws_goodV e325 e326 e328 e270 e327) rfl rfl rfl ⟨rfl, by decide +kernel, by decide +kernel, by decide +kernel⟩ ⟨Nat.le_of_ble_eq_true rfl, Nat.le_of_ble_eq_true rfl⟩) ⟨pPre_blind, va_recv hKc hPc (ci := 12) (q0 := 0) rfl rfl, fun U hU hW => ⟨rfl, pPre_at hPc hKc hDc hE hS hFc U hU hW⟩⟩ rfl rfl hl.1 rfl (lv_room (Nat.le_of_ble_eq_true rfl)) dL_opAt_5 ⟨Nat.le_of_ble_eq_true rfl, Nat.le_of_ble_eq_true rfl⟩) hS (fun q _ h => hFc q h) hFc (fun q _ h => hFc q h) (fun E ce q9 u9 t H1 locs ht hvm hp9 hX hz1 hk1 hS hce hcv hcl => ?_) (fun _ _ _ _ _ _ _ h9 _ _ _ _ => h9.elim)
  rcases hX with rfl
  refine vx_catch hown [] ({ startPc := 0, endPc := 10, handlerPc := 13, catchType := 33 } : ExceptionTableEntry) [] (htb.trans rfl) (fun z9 h9 => absurd h9 List.not_mem_nil) (by decide) (by decide) (hts _ e650) (va_Nw.use rfl (hN _ n48)) hce hcv hcl ?_
  obtain ⟨hP, hD⟩ := va_join (wr := [(o9, .inl (cO, 1, .inr (.inl f0)))]) (w1 := []) hP hD [0, 1, 2] [3] rfl rfl (by decide) (by decide) hk1 hFc p_P0 p_D0
  generalize H1 = H at hP hS ⊢
  have hP : va_P (dC, dI) pcl [(o9, .inl (cO, 1, .inr (.inl f0)))] H := hP
  have hD : va_D A [(o9, .inl (cO, 1, .inr (.inl f0)))] := hD
  refine W.widen (k := 1) (n := 6) (Nat.le_of_ble_eq_true rfl) (Nat.le_of_ble_eq_true rfl) ?_
  refine lv_astore (lv' := [(4, .ref q9), (0, .ref h0), (1, .int n), (2, .int k), (3, .ref o9)]) hx hb dL_opAt_13 hl (by decide) rfl (fun ls hl => ?_)
  refine lv_iconst (v := 1) hx hb dL_opAt_15 (by decide) ?_
  have hP9 := hP.sub (ws' := []) [] rfl
  have hD9 := hD.sub (ws' := []) [] (by decide) rfl
  have hK9 := hK.sub (tys' := []) [] rfl
  refine W.widen (k := 1) (n := 6) (Nat.le_of_ble_eq_true rfl) (Nat.le_of_ble_eq_true rfl) ?_
  exact W.iret (v := 1) hx hb hr (fun t ht hW => ⟨⟨1, (), rfl, rfl, by rw [ht]; exact hP9, va_K.moved hW.alike hK9, hD9⟩, hS.F ht⟩) hS.2.2 dL_opAt_16
set_option maxHeartbeats 4000000 in
set_option maxRecDepth 100000 in
theorem c_L_opNumber (l : Launch) (hfl : l.stackTraces = false) (dC : Nat → ClassId) (dI : Nat → Nat → Nat) (z : pG) (h0 : Nat) (ma : Nat) (rn : Nat) (ef : Nat) (ck : Nat) (tr : Nat) (fi : Nat) (se : Nat) (ce : Nat) (pr : Nat) (di : Nat) (dr : Nat) (li : Nat) (ru : Nat) (ba : Nat) (g1 : Nat) (g2 : Nat) (g3 : Nat) (g4 : Nat) (g5 : Nat) (g6 : Nat) (g7 : Nat) (g8 : Nat) (g9 : Nat) (g10 : Nat) (n : Int32) (k : Int32) (o9 : Nat) (cO : ClassId) (f0 : Nat → Int64) (sz : Nat) : Met l yL_opNumber (wsW_ yL_opNumber cL_opNumber 5 (some .int) [(0, 10, 13, 33)]) ({ frames := 7, cells := 1, slots := 6, locals := 104 }) (va_Pc [.ref h0, .int n, .int k, .ref o9] (pPre z dC dI [(h0, .inr (12, [.ref ma, .ref rn, .ref ef, .ref ck, .ref tr, .int 0, .int 0, .int 0, .int 0, .long 0])), (ma, .inr (7, [.ref fi, .ref se, .ref ce, .ref pr, .ref di, .ref dr, .ref li, .ref ru, .ref ba, .int 1000, .int 0, .int 0, .int 0, .int 0, .int 0, .int 0])), (di, .inr (2, [.ref g1, .ref g2, .ref g3, .ref g4, .ref g5, .ref g6, .ref g7, .ref g8, .ref g9, .ref g10, .int 0, .int 0, .int 0])), (o9, .inl (cO, 1, .inr (.inl f0)))] [(cO, .long)] sz)) (va_Qi (fun (r : Int32) (_ : Unit) => r = 1) (fun _ t => pPost dC dI (va_A [(h0, .inr (12, [.ref ma, .ref rn, .ref ef, .ref ck, .ref tr, .int 0, .int 0, .int 0, .int 0, .long 0])), (ma, .inr (7, [.ref fi, .ref se, .ref ce, .ref pr, .ref di, .ref dr, .ref li, .ref ru, .ref ba, .int 1000, .int 0, .int 0, .int 0, .int 0, .int 0, .int 0])), (di, .inr (2, [.ref g1, .ref g2, .ref g3, .ref g4, .ref g5, .ref g6, .ref g7, .ref g8, .ref g9, .ref g10, .int 0, .int 0, .int 0])), (o9, .inl (cO, 1, .inr (.inl f0)))] sz) [] [] t) (va_A [(h0, .inr (12, [.ref ma, .ref rn, .ref ef, .ref ck, .ref tr, .int 0, .int 0, .int 0, .int 0, .long 0])), (ma, .inr (7, [.ref fi, .ref se, .ref ce, .ref pr, .ref di, .ref dr, .ref li, .ref ru, .ref ba, .int 1000, .int 0, .int 0, .int 0, .int 0, .int 0, .int 0])), (di, .inr (2, [.ref g1, .ref g2, .ref g3, .ref g4, .ref g5, .ref g6, .ref g7, .ref g8, .ref g9, .ref g10, .int 0, .int 0, .int 0])), (o9, .inl (cO, 1, .inr (.inl f0)))] sz)) 1 6 (va_A [(h0, .inr (12, [.ref ma, .ref rn, .ref ef, .ref ck, .ref tr, .int 0, .int 0, .int 0, .int 0, .long 0])), (ma, .inr (7, [.ref fi, .ref se, .ref ce, .ref pr, .ref di, .ref dr, .ref li, .ref ru, .ref ba, .int 1000, .int 0, .int 0, .int 0, .int 0, .int 0, .int 0])), (di, .inr (2, [.ref g1, .ref g2, .ref g3, .ref g4, .ref g5, .ref g6, .ref g7, .ref g8, .ref g9, .ref g10, .int 0, .int 0, .int 0])), (o9, .inl (cO, 1, .inr (.inl f0)))] sz) := by
  refine va_MetW (cc := cL_opNumber) (maxL := 5) (ret := (some .int)) (hh := [(0, 10, 13, 33)]) (by decide) rfl ?_
  intro p e s m args below meth c s₁ B hml hv
  obtain ⟨rfl, hsz, hP, hK, hD0, hE⟩ := hv
  have hx := B.exec
  have hb := B.bytes
  have hr := B.returns
  have hts0 := atoms_spec (ws := wsW_ yL_opNumber cL_opNumber 5 (some .int) [(0, 10, 13, 33)]) B.pre
  have htb := vx_table (x := yL_opNumber) B (hts0 _ List.mem_cons_self)
  have hts := fun (w : Cond) (h : w ∈ pw) => hts0 w (List.mem_cons_of_mem _ h)
  have hown : s.vm.findClass RL = some m.cls := findClass_of_methodNamed B.named
  have hlocks := B.notSynchronized
  subst hsz
  have hD := hD0.self (sz := s.heap.size)
  generalize hAe : va_A [(h0, .inr (12, [.ref ma, .ref rn, .ref ef, .ref ck, .ref tr, .int 0, .int 0, .int 0, .int 0, .long 0])), (ma, .inr (7, [.ref fi, .ref se, .ref ce, .ref pr, .ref di, .ref dr, .ref li, .ref ru, .ref ba, .int 1000, .int 0, .int 0, .int 0, .int 0, .int 0, .int 0])), (di, .inr (2, [.ref g1, .ref g2, .ref g3, .ref g4, .ref g5, .ref g6, .ref g7, .ref g8, .ref g9, .ref g10, .int 0, .int 0, .int 0])), (o9, .inl (cO, 1, .inr (.inl f0)))] s.heap.size = A at hD hE ⊢
  have hA : ∀ q : Nat, s.heap.size ≤ q → A q := fun q h => by rw [← hAe]; exact Or.inr h
  have hS : va_S A s.heap s.heap [] := va_S.rf
  have hN := hE.1
  have hP : va_P (dC, dI) pcl [(h0, .inr (12, [.ref ma, .ref rn, .ref ef, .ref ck, .ref tr, .int 0, .int 0, .int 0, .int 0, .long 0])), (ma, .inr (7, [.ref fi, .ref se, .ref ce, .ref pr, .ref di, .ref dr, .ref li, .ref ru, .ref ba, .int 1000, .int 0, .int 0, .int 0, .int 0, .int 0, .int 0])), (di, .inr (2, [.ref g1, .ref g2, .ref g3, .ref g4, .ref g5, .ref g6, .ref g7, .ref g8, .ref g9, .ref g10, .int 0, .int 0, .int 0])), (o9, .inl (cO, 1, .inr (.inl f0)))] s.heap := hP
  have hl := lv_entry ([.ref h0, .int n, .int k, .ref o9]) (n := 5) (Nat.le_of_ble_eq_true rfl)
  rw [lg_entry_eq]
  generalize (lg_sl ([.ref h0, .int n, .int k, .ref o9]) ++ List.replicate (5 - (lg_sl ([.ref h0, .int n, .int k, .ref o9])).length) Slot.unset).toArray = ls at hl ⊢
  have hl : lv_has ls 5 [(0, .ref h0), (1, .int n), (2, .int k), (3, .ref o9)] := hl
  obtain ⟨H, hH0⟩ : ∃ H, H = s.heap := ⟨_, rfl⟩
  rw [← hH0] at hP ⊢
  have hS : va_S A s.heap H [] := by rw [hH0]; exact hS
  refine lv_aload_n hx hb dL_opNumber_0 rfl (lv_at hl 3 rfl) ?_
  refine lv_iconst (v := 0) hx hb dL_opNumber_1 (by decide) ?_
  refine lv_aload_n hx hb dL_opNumber_2 rfl (lv_at hl 0 rfl) ?_
  refine lv_iload_n hx hb dL_opNumber_3 rfl (lv_at hl 1 rfl) ?_
  refine lv_iload_n hx hb dL_opNumber_4 rfl (lv_at hl 2 rfl) ?_
  have hPc := hP.sub (ws' := [(h0, .inr (12, [.ref ma, .ref rn, .ref ef, .ref ck, .ref tr, .int 0, .int 0, .int 0, .int 0, .long 0])), (ma, .inr (7, [.ref fi, .ref se, .ref ce, .ref pr, .ref di, .ref dr, .ref li, .ref ru, .ref ba, .int 1000, .int 0, .int 0, .int 0, .int 0, .int 0, .int 0])), (di, .inr (2, [.ref g1, .ref g2, .ref g3, .ref g4, .ref g5, .ref g6, .ref g7, .ref g8, .ref g9, .ref g10, .int 0, .int 0, .int 0]))]) [0, 1, 2] rfl
  have hDc := hD.sub (ws' := [(h0, .inr (12, [.ref ma, .ref rn, .ref ef, .ref ck, .ref tr, .int 0, .int 0, .int 0, .int 0, .long 0])), (ma, .inr (7, [.ref fi, .ref se, .ref ce, .ref pr, .ref di, .ref dr, .ref li, .ref ru, .ref ba, .int 1000, .int 0, .int 0, .int 0, .int 0, .int 0, .int 0])), (di, .inr (2, [.ref g1, .ref g2, .ref g3, .ref g4, .ref g5, .ref g6, .ref g7, .ref g8, .ref g9, .ref g10, .int 0, .int 0, .int 0]))]) [0, 1, 2] (by decide) rfl
  have hKc := hK.sub (tys' := []) [] rfl
  have hFc := va_free (wc := [(h0, .inr (12, [.ref ma, .ref rn, .ref ef, .ref ck, .ref tr, .int 0, .int 0, .int 0, .int 0, .long 0])), (ma, .inr (7, [.ref fi, .ref se, .ref ce, .ref pr, .ref di, .ref dr, .ref li, .ref ru, .ref ba, .int 1000, .int 0, .int 0, .int 0, .int 0, .int 0, .int 0])), (di, .inr (2, [.ref g1, .ref g2, .ref g3, .ref g4, .ref g5, .ref g6, .ref g7, .ref g8, .ref g9, .ref g10, .int 0, .int 0, .int 0]))]) hD hS hA [0, 1, 2] rfl
  refine vx_calli (vx_runV (As := [.int n, .int k]) (rest := [.int 0, .ref o9]) ⟨hx, hb, hml, hown, hts⟩ (c_X11_opNumber l hfl dC dI z h0 ma rn ef ck tr fi se ce pr di dr li ru ba g1 g2 g3 g4 g5 g6 g7 g8 g9 g10 n k H.size) (cwV 2 hts (ws_goodV e329 e330 e332 e270 e331) rfl rfl rfl ⟨rfl, by decide +kernel, by decide +kernel, by decide +kernel⟩ ⟨Nat.le_of_ble_eq_true rfl, Nat.le_of_ble_eq_true rfl⟩) ⟨pPre_blind, va_recv hKc hPc (ci := 12) (q0 := 0) rfl rfl, fun U hU hW => ⟨rfl, pPre_at hPc hKc hDc hE hS hFc U hU hW⟩⟩ rfl rfl hl.1 rfl (lv_room (Nat.le_of_ble_eq_true rfl)) dL_opNumber_5 ⟨Nat.le_of_ble_eq_true rfl, Nat.le_of_ble_eq_true rfl⟩) hS (fun q _ h => hFc q h) hFc (fun q _ h => hFc q h) (fun E ce q9 u9 t H1 locs ht hvm hp9 hX hz1 hk1 hS hce hcv hcl => ?_) (fun _ _ _ _ _ _ _ h9 _ _ _ _ => h9.elim)
  rcases hX with rfl
  refine vx_catch hown [] ({ startPc := 0, endPc := 10, handlerPc := 13, catchType := 33 } : ExceptionTableEntry) [] (htb.trans rfl) (fun z9 h9 => absurd h9 List.not_mem_nil) (by decide) (by decide) (hts _ e650) (va_Nw.use rfl (hN _ n48)) hce hcv hcl ?_
  obtain ⟨hP, hD⟩ := va_join (wr := [(o9, .inl (cO, 1, .inr (.inl f0)))]) (w1 := []) hP hD [0, 1, 2] [3] rfl rfl (by decide) (by decide) hk1 hFc p_P0 p_D0
  generalize H1 = H at hP hS ⊢
  have hP : va_P (dC, dI) pcl [(o9, .inl (cO, 1, .inr (.inl f0)))] H := hP
  have hD : va_D A [(o9, .inl (cO, 1, .inr (.inl f0)))] := hD
  refine W.widen (k := 1) (n := 6) (Nat.le_of_ble_eq_true rfl) (Nat.le_of_ble_eq_true rfl) ?_
  refine lv_astore (lv' := [(4, .ref q9), (0, .ref h0), (1, .int n), (2, .int k), (3, .ref o9)]) hx hb dL_opNumber_13 hl (by decide) rfl (fun ls hl => ?_)
  refine lv_iconst (v := 1) hx hb dL_opNumber_15 (by decide) ?_
  have hP9 := hP.sub (ws' := []) [] rfl
  have hD9 := hD.sub (ws' := []) [] (by decide) rfl
  have hK9 := hK.sub (tys' := []) [] rfl
  refine W.widen (k := 1) (n := 6) (Nat.le_of_ble_eq_true rfl) (Nat.le_of_ble_eq_true rfl) ?_
  exact W.iret (v := 1) hx hb hr (fun t ht hW => ⟨⟨1, (), rfl, rfl, by rw [ht]; exact hP9, va_K.moved hW.alike hK9, hD9⟩, hS.F ht⟩) hS.2.2 dL_opNumber_16
set_option maxHeartbeats 4000000 in
set_option maxRecDepth 100000 in
theorem c_L_errorShare (l : Launch) (hfl : l.stackTraces = false) (dC : Nat → ClassId) (dI : Nat → Nat → Nat) (z : pG) (h0 : Nat) (ma : Nat) (rn : Nat) (ef : Nat) (ck : Nat) (tr : Nat) (o9 : Nat) (cO : ClassId) (f0 : Nat → UInt64) (sz : Nat) : Met l yL_errorShare (wsW_ yL_errorShare cL_errorShare 3 (some .int) [(0, 8, 11, 81)]) ({ frames := 7, cells := 1, slots := 6, locals := 102 }) (va_Pc [.ref h0, .ref o9] (pPre z dC dI [(h0, .inr (12, [.ref ma, .ref rn, .ref ef, .ref ck, .ref tr, .int 0, .int 0, .int 0, .int 0, .long 0])), (o9, .inl (cO, 1, .inr (.inr (.inr (.inl f0)))))] [(cO, .double)] sz)) (va_Qi (fun (r : Int32) (_ : Unit) => r = 1) (fun _ t => pPost dC dI (va_A [(h0, .inr (12, [.ref ma, .ref rn, .ref ef, .ref ck, .ref tr, .int 0, .int 0, .int 0, .int 0, .long 0])), (o9, .inl (cO, 1, .inr (.inr (.inr (.inl f0)))))] sz) [] [] t) (va_A [(h0, .inr (12, [.ref ma, .ref rn, .ref ef, .ref ck, .ref tr, .int 0, .int 0, .int 0, .int 0, .long 0])), (o9, .inl (cO, 1, .inr (.inr (.inr (.inl f0)))))] sz)) 1 6 (va_A [(h0, .inr (12, [.ref ma, .ref rn, .ref ef, .ref ck, .ref tr, .int 0, .int 0, .int 0, .int 0, .long 0])), (o9, .inl (cO, 1, .inr (.inr (.inr (.inl f0)))))] sz) := by
  refine va_MetW (cc := cL_errorShare) (maxL := 3) (ret := (some .int)) (hh := [(0, 8, 11, 81)]) (by decide) rfl ?_
  intro p e s m args below meth c s₁ B hml hv
  obtain ⟨rfl, hsz, hP, hK, hD0, hE⟩ := hv
  have hx := B.exec
  have hb := B.bytes
  have hr := B.returns
  have hts0 := atoms_spec (ws := wsW_ yL_errorShare cL_errorShare 3 (some .int) [(0, 8, 11, 81)]) B.pre
  have htb := vx_table (x := yL_errorShare) B (hts0 _ List.mem_cons_self)
  have hts := fun (w : Cond) (h : w ∈ pw) => hts0 w (List.mem_cons_of_mem _ h)
  have hown : s.vm.findClass RL = some m.cls := findClass_of_methodNamed B.named
  have hlocks := B.notSynchronized
  subst hsz
  have hD := hD0.self (sz := s.heap.size)
  generalize hAe : va_A [(h0, .inr (12, [.ref ma, .ref rn, .ref ef, .ref ck, .ref tr, .int 0, .int 0, .int 0, .int 0, .long 0])), (o9, .inl (cO, 1, .inr (.inr (.inr (.inl f0)))))] s.heap.size = A at hD hE ⊢
  have hA : ∀ q : Nat, s.heap.size ≤ q → A q := fun q h => by rw [← hAe]; exact Or.inr h
  have hS : va_S A s.heap s.heap [] := va_S.rf
  have hN := hE.1
  have hP : va_P (dC, dI) pcl [(h0, .inr (12, [.ref ma, .ref rn, .ref ef, .ref ck, .ref tr, .int 0, .int 0, .int 0, .int 0, .long 0])), (o9, .inl (cO, 1, .inr (.inr (.inr (.inl f0)))))] s.heap := hP
  have hl := lv_entry ([.ref h0, .ref o9]) (n := 3) (Nat.le_of_ble_eq_true rfl)
  rw [lg_entry_eq]
  generalize (lg_sl ([.ref h0, .ref o9]) ++ List.replicate (3 - (lg_sl ([.ref h0, .ref o9])).length) Slot.unset).toArray = ls at hl ⊢
  have hl : lv_has ls 3 [(0, .ref h0), (1, .ref o9)] := hl
  obtain ⟨H, hH0⟩ : ∃ H, H = s.heap := ⟨_, rfl⟩
  rw [← hH0] at hP ⊢
  have hS : va_S A s.heap H [] := by rw [hH0]; exact hS
  refine lv_aload_n hx hb dL_errorShare_0 rfl (lv_at hl 1 rfl) ?_
  refine lv_iconst (v := 0) hx hb dL_errorShare_1 (by decide) ?_
  refine lv_aload_n hx hb dL_errorShare_2 rfl (lv_at hl 0 rfl) ?_
  have hPc := hP.sub (ws' := [(h0, .inr (12, [.ref ma, .ref rn, .ref ef, .ref ck, .ref tr, .int 0, .int 0, .int 0, .int 0, .long 0]))]) [0] rfl
  have hDc := hD.sub (ws' := [(h0, .inr (12, [.ref ma, .ref rn, .ref ef, .ref ck, .ref tr, .int 0, .int 0, .int 0, .int 0, .long 0]))]) [0] (by decide) rfl
  have hKc := hK.sub (tys' := []) [] rfl
  have hFc := va_free (wc := [(h0, .inr (12, [.ref ma, .ref rn, .ref ef, .ref ck, .ref tr, .int 0, .int 0, .int 0, .int 0, .long 0]))]) hD hS hA [0] rfl
  refine vx_callf (vx_runV (As := []) (rest := [.int 0, .ref o9]) ⟨hx, hb, hml, hown, hts⟩ (c_X11_errorShare l hfl dC dI z h0 ma rn ef ck tr H.size) (cwV 0 hts (ws_goodV e337 e338 e340 e270 e339) rfl rfl rfl ⟨rfl, by decide +kernel, by decide +kernel, by decide +kernel⟩ ⟨Nat.le_of_ble_eq_true rfl, Nat.le_of_ble_eq_true rfl⟩) ⟨pPre_blind, va_recv hKc hPc (ci := 12) (q0 := 0) rfl rfl, fun U hU hW => ⟨rfl, pPre_at hPc hKc hDc hE hS hFc U hU hW⟩⟩ rfl rfl hl.1 rfl (lv_room (Nat.le_of_ble_eq_true rfl)) dL_errorShare_3 ⟨Nat.le_of_ble_eq_true rfl, Nat.le_of_ble_eq_true rfl⟩) hS (fun q _ h => hFc q h) hFc (fun q _ h => hFc q h) (fun E ce q9 u9 t H1 locs ht hvm hp9 hX hz1 hk1 hS hce hcv hcl => ?_) (fun _ _ _ _ _ _ _ h9 _ _ _ _ => h9.elim)
  rcases hX with rfl
  refine vx_catch hown [] ({ startPc := 0, endPc := 8, handlerPc := 11, catchType := 81 } : ExceptionTableEntry) [] (htb.trans rfl) (fun z9 h9 => absurd h9 List.not_mem_nil) (by decide) (by decide) (hts _ e652) (va_Nw.use rfl (hN _ n50)) hce hcv hcl ?_
  obtain ⟨hP, hD⟩ := va_join (wr := [(o9, .inl (cO, 1, .inr (.inr (.inr (.inl f0)))))]) (w1 := []) hP hD [0] [1] rfl rfl (by decide) (by decide) hk1 hFc p_P0 p_D0
  generalize H1 = H at hP hS ⊢
  have hP : va_P (dC, dI) pcl [(o9, .inl (cO, 1, .inr (.inr (.inr (.inl f0)))))] H := hP
  have hD : va_D A [(o9, .inl (cO, 1, .inr (.inr (.inr (.inl f0)))))] := hD
  refine W.widen (k := 1) (n := 6) (Nat.le_of_ble_eq_true rfl) (Nat.le_of_ble_eq_true rfl) ?_
  refine lv_astore_n (lv' := [(2, .ref q9), (0, .ref h0), (1, .ref o9)]) hx hb dL_errorShare_11 rfl hl (by decide) rfl (fun ls hl => ?_)
  refine lv_iconst (v := 1) hx hb dL_errorShare_12 (by decide) ?_
  have hP9 := hP.sub (ws' := []) [] rfl
  have hD9 := hD.sub (ws' := []) [] (by decide) rfl
  have hK9 := hK.sub (tys' := []) [] rfl
  refine W.widen (k := 1) (n := 6) (Nat.le_of_ble_eq_true rfl) (Nat.le_of_ble_eq_true rfl) ?_
  exact W.iret (v := 1) hx hb hr (fun t ht hW => ⟨⟨1, (), rfl, rfl, by rw [ht]; exact hP9, va_K.moved hW.alike hK9, hD9⟩, hS.F ht⟩) hS.2.2 dL_errorShare_13
set_option maxHeartbeats 4000000 in
set_option maxRecDepth 100000 in
theorem c_L_meanSteps (l : Launch) (hfl : l.stackTraces = false) (dC : Nat → ClassId) (dI : Nat → Nat → Nat) (z : pG) (h0 : Nat) (ma : Nat) (rn : Nat) (ef : Nat) (ck : Nat) (tr : Nat) (o9 : Nat) (cO : ClassId) (f0 : Nat → UInt64) (sz : Nat) : Met l yL_meanSteps (wsW_ yL_meanSteps cL_meanSteps 3 (some .int) [(0, 7, 10, 81)]) ({ frames := 7, cells := 1, slots := 6, locals := 102 }) (va_Pc [.ref h0, .ref o9] (pPre z dC dI [(h0, .inr (12, [.ref ma, .ref rn, .ref ef, .ref ck, .ref tr, .int 0, .int 0, .int 0, .int 0, .long 0])), (o9, .inl (cO, 1, .inr (.inr (.inr (.inl f0)))))] [(cO, .double)] sz)) (va_Qi (fun (r : Int32) (_ : Unit) => r = 1) (fun _ t => pPost dC dI (va_A [(h0, .inr (12, [.ref ma, .ref rn, .ref ef, .ref ck, .ref tr, .int 0, .int 0, .int 0, .int 0, .long 0])), (o9, .inl (cO, 1, .inr (.inr (.inr (.inl f0)))))] sz) [] [] t) (va_A [(h0, .inr (12, [.ref ma, .ref rn, .ref ef, .ref ck, .ref tr, .int 0, .int 0, .int 0, .int 0, .long 0])), (o9, .inl (cO, 1, .inr (.inr (.inr (.inl f0)))))] sz)) 1 6 (va_A [(h0, .inr (12, [.ref ma, .ref rn, .ref ef, .ref ck, .ref tr, .int 0, .int 0, .int 0, .int 0, .long 0])), (o9, .inl (cO, 1, .inr (.inr (.inr (.inl f0)))))] sz) := by
  refine va_MetW (cc := cL_meanSteps) (maxL := 3) (ret := (some .int)) (hh := [(0, 7, 10, 81)]) (by decide) rfl ?_
  intro p e s m args below meth c s₁ B hml hv
  obtain ⟨rfl, hsz, hP, hK, hD0, hE⟩ := hv
  have hx := B.exec
  have hb := B.bytes
  have hr := B.returns
  have hts0 := atoms_spec (ws := wsW_ yL_meanSteps cL_meanSteps 3 (some .int) [(0, 7, 10, 81)]) B.pre
  have htb := vx_table (x := yL_meanSteps) B (hts0 _ List.mem_cons_self)
  have hts := fun (w : Cond) (h : w ∈ pw) => hts0 w (List.mem_cons_of_mem _ h)
  have hown : s.vm.findClass RL = some m.cls := findClass_of_methodNamed B.named
  have hlocks := B.notSynchronized
  subst hsz
  have hD := hD0.self (sz := s.heap.size)
  generalize hAe : va_A [(h0, .inr (12, [.ref ma, .ref rn, .ref ef, .ref ck, .ref tr, .int 0, .int 0, .int 0, .int 0, .long 0])), (o9, .inl (cO, 1, .inr (.inr (.inr (.inl f0)))))] s.heap.size = A at hD hE ⊢
  have hA : ∀ q : Nat, s.heap.size ≤ q → A q := fun q h => by rw [← hAe]; exact Or.inr h
  have hS : va_S A s.heap s.heap [] := va_S.rf
  have hN := hE.1
  have hP : va_P (dC, dI) pcl [(h0, .inr (12, [.ref ma, .ref rn, .ref ef, .ref ck, .ref tr, .int 0, .int 0, .int 0, .int 0, .long 0])), (o9, .inl (cO, 1, .inr (.inr (.inr (.inl f0)))))] s.heap := hP
  have hl := lv_entry ([.ref h0, .ref o9]) (n := 3) (Nat.le_of_ble_eq_true rfl)
  rw [lg_entry_eq]
  generalize (lg_sl ([.ref h0, .ref o9]) ++ List.replicate (3 - (lg_sl ([.ref h0, .ref o9])).length) Slot.unset).toArray = ls at hl ⊢
  have hl : lv_has ls 3 [(0, .ref h0), (1, .ref o9)] := hl
  obtain ⟨H, hH0⟩ : ∃ H, H = s.heap := ⟨_, rfl⟩
  rw [← hH0] at hP ⊢
  have hS : va_S A s.heap H [] := by rw [hH0]; exact hS
  refine lv_aload_n hx hb dL_meanSteps_0 rfl (lv_at hl 1 rfl) ?_
  refine lv_iconst (v := 0) hx hb dL_meanSteps_1 (by decide) ?_
  refine lv_aload_n hx hb dL_meanSteps_2 rfl (lv_at hl 0 rfl) ?_
  have hPc := hP.sub (ws' := [(h0, .inr (12, [.ref ma, .ref rn, .ref ef, .ref ck, .ref tr, .int 0, .int 0, .int 0, .int 0, .long 0]))]) [0] rfl
  have hDc := hD.sub (ws' := [(h0, .inr (12, [.ref ma, .ref rn, .ref ef, .ref ck, .ref tr, .int 0, .int 0, .int 0, .int 0, .long 0]))]) [0] (by decide) rfl
  have hKc := hK.sub (tys' := []) [] rfl
  have hFc := va_free (wc := [(h0, .inr (12, [.ref ma, .ref rn, .ref ef, .ref ck, .ref tr, .int 0, .int 0, .int 0, .int 0, .long 0]))]) hD hS hA [0] rfl
  refine vx_calld (vx_runV (As := []) (rest := [.int 0, .ref o9]) ⟨hx, hb, hml, hown, hts⟩ (c_X11_meanSteps l hfl dC dI z h0 ma rn ef ck tr H.size) (cwV 0 hts (ws_goodV e341 e342 e344 e270 e343) rfl rfl rfl ⟨rfl, by decide +kernel, by decide +kernel, by decide +kernel⟩ ⟨Nat.le_of_ble_eq_true rfl, Nat.le_of_ble_eq_true rfl⟩) ⟨pPre_blind, va_recv hKc hPc (ci := 12) (q0 := 0) rfl rfl, fun U hU hW => ⟨rfl, pPre_at hPc hKc hDc hE hS hFc U hU hW⟩⟩ rfl rfl hl.1 rfl (lv_room (Nat.le_of_ble_eq_true rfl)) dL_meanSteps_3 ⟨Nat.le_of_ble_eq_true rfl, Nat.le_of_ble_eq_true rfl⟩) hS (fun q _ h => hFc q h) hFc (fun q _ h => hFc q h) (fun E ce q9 u9 t H1 locs ht hvm hp9 hX hz1 hk1 hS hce hcv hcl => ?_) (fun _ _ _ _ _ _ _ h9 _ _ _ _ => h9.elim)
  rcases hX with rfl
  refine vx_catch hown [] ({ startPc := 0, endPc := 7, handlerPc := 10, catchType := 81 } : ExceptionTableEntry) [] (htb.trans rfl) (fun z9 h9 => absurd h9 List.not_mem_nil) (by decide) (by decide) (hts _ e652) (va_Nw.use rfl (hN _ n50)) hce hcv hcl ?_
  obtain ⟨hP, hD⟩ := va_join (wr := [(o9, .inl (cO, 1, .inr (.inr (.inr (.inl f0)))))]) (w1 := []) hP hD [0] [1] rfl rfl (by decide) (by decide) hk1 hFc p_P0 p_D0
  generalize H1 = H at hP hS ⊢
  have hP : va_P (dC, dI) pcl [(o9, .inl (cO, 1, .inr (.inr (.inr (.inl f0)))))] H := hP
  have hD : va_D A [(o9, .inl (cO, 1, .inr (.inr (.inr (.inl f0)))))] := hD
  refine W.widen (k := 1) (n := 6) (Nat.le_of_ble_eq_true rfl) (Nat.le_of_ble_eq_true rfl) ?_
  refine lv_astore_n (lv' := [(2, .ref q9), (0, .ref h0), (1, .ref o9)]) hx hb dL_meanSteps_10 rfl hl (by decide) rfl (fun ls hl => ?_)
  refine lv_iconst (v := 1) hx hb dL_meanSteps_11 (by decide) ?_
  have hP9 := hP.sub (ws' := []) [] rfl
  have hD9 := hD.sub (ws' := []) [] (by decide) rfl
  have hK9 := hK.sub (tys' := []) [] rfl
  refine W.widen (k := 1) (n := 6) (Nat.le_of_ble_eq_true rfl) (Nat.le_of_ble_eq_true rfl) ?_
  exact W.iret (v := 1) hx hb hr (fun t ht hW => ⟨⟨1, (), rfl, rfl, by rw [ht]; exact hP9, va_K.moved hW.alike hK9, hD9⟩, hS.F ht⟩) hS.2.2 dL_meanSteps_12
