/-! p1: the words, the environment and the worlds' frame of every contract -/
def ws_ (y : MethodName) (c : ByteArray) (n : Nat) (r : Option FieldType) : List Cond := Cond.code y c n r :: pw
theorem ws_good {y : MethodName} {c : ByteArray} {n : Nat} {r : Option FieldType} (h : Cond.code y c n r ∈ pw) : GoodIn pw (ws_ y c n r) := by
  intro w hw
  rcases List.mem_cons.mp hw with e | hm
  · rw [e]
    exact ⟨h, good_of_word (pw_good _ h)⟩
  · exact ⟨hm, good_of_word (pw_good _ hm)⟩
theorem pw_gw {w : Cond} (h : w ∈ pw) : w ∈ pw ∧ ((w.onTables && w.keeps) = true ∨ ∃ ty, w = .arrayClass ty) := ⟨h, good_of_word (pw_good _ h)⟩
theorem ws_goodV {own : String} {i : Nat} {C : String} {y : MethodName} {c : ByteArray} {n : Nat} {r : Option FieldType} (h1 : Cond.methodLink own i y ∈ pw) (h2 : Cond.instanceMethod y ∈ pw) (h3 : Cond.selects C y y ∈ pw) (h4 : Cond.initialized C ∈ pw) (h5 : Cond.code y c n r ∈ pw) : GoodIn pw (wsV own i C y (ws_ y c n r)) := by
  intro w hw
  rcases List.mem_append.mp hw with h | h
  · rcases List.mem_cons.mp h with e | h
    · rw [e]; exact pw_gw h1
    · rcases List.mem_cons.mp h with e | h
      · rw [e]; exact pw_gw h2
      · rcases List.mem_cons.mp h with e | h
        · rw [e]; exact pw_gw h3
        · rcases List.mem_cons.mp h with e | h
          · rw [e]; exact pw_gw h4
          · exact absurd h List.not_mem_nil
  · exact ws_good h5 w h
theorem ws_goodS {own : String} {i : Nat} {y : MethodName} {c : ByteArray} {n : Nat} {r : Option FieldType} (h1 : Cond.methodLink own i y ∈ pw) (h2 : Cond.static y ∈ pw) (h4 : Cond.initialized y.cls ∈ pw) (h5 : Cond.code y c n r ∈ pw) : GoodIn pw (va_wsS own i y (ws_ y c n r)) := by
  intro w hw
  rcases List.mem_append.mp hw with h | h
  · rcases List.mem_cons.mp h with e | h
    · rw [e]; exact pw_gw h1
    · rcases List.mem_cons.mp h with e | h
      · rw [e]; exact pw_gw h2
      · rcases List.mem_cons.mp h with e | h
        · rw [e]; exact pw_gw h4
        · exact absurd h List.not_mem_nil
  · exact ws_good h5 w h
def wsW_ (y : MethodName) (c : ByteArray) (n : Nat) (r : Option FieldType) (hh : List (Nat × Nat × Nat × Nat)) : List Cond := Cond.codeWith y c n r hh :: pw
theorem ws_goodW {y : MethodName} {c : ByteArray} {n : Nat} {r : Option FieldType} {hh : List (Nat × Nat × Nat × Nat)} (h : Cond.codeWith y c n r hh ∈ pw) : GoodIn pw (wsW_ y c n r hh) := by
  intro w hw
  rcases List.mem_cons.mp hw with e | hm
  · rw [e]
    exact pw_gw h
  · exact pw_gw hm
theorem ws_goodVW {own : String} {i : Nat} {C : String} {y : MethodName} {c : ByteArray} {n : Nat} {r : Option FieldType} {hh : List (Nat × Nat × Nat × Nat)} (h1 : Cond.methodLink own i y ∈ pw) (h2 : Cond.instanceMethod y ∈ pw) (h3 : Cond.selects C y y ∈ pw) (h4 : Cond.initialized C ∈ pw) (h5 : Cond.codeWith y c n r hh ∈ pw) : GoodIn pw (wsV own i C y (wsW_ y c n r hh)) := by
  intro w hw
  rcases List.mem_append.mp hw with h | h
  · rcases List.mem_cons.mp h with e | h
    · rw [e]; exact pw_gw h1
    · rcases List.mem_cons.mp h with e | h
      · rw [e]; exact pw_gw h2
      · rcases List.mem_cons.mp h with e | h
        · rw [e]; exact pw_gw h3
        · rcases List.mem_cons.mp h with e | h
          · rw [e]; exact pw_gw h4
          · exact absurd h List.not_mem_nil
  · exact ws_goodW h5 w h
theorem ws_goodSW {own : String} {i : Nat} {y : MethodName} {c : ByteArray} {n : Nat} {r : Option FieldType} {hh : List (Nat × Nat × Nat × Nat)} (h1 : Cond.methodLink own i y ∈ pw) (h2 : Cond.static y ∈ pw) (h4 : Cond.initialized y.cls ∈ pw) (h5 : Cond.codeWith y c n r hh ∈ pw) : GoodIn pw (va_wsS own i y (wsW_ y c n r hh)) := by
  intro w hw
  rcases List.mem_append.mp hw with h | h
  · rcases List.mem_cons.mp h with e | h
    · rw [e]; exact pw_gw h1
    · rcases List.mem_cons.mp h with e | h
      · rw [e]; exact pw_gw h2
      · rcases List.mem_cons.mp h with e | h
        · rw [e]; exact pw_gw h4
        · exact absurd h List.not_mem_nil
  · exact ws_goodW h5 w h
/-- the static empty array's cell; the literals' cells and their byte arrays' -/
abbrev pG : Type := Nat × (Nat → Nat) × (Nat → Nat)
def pe_N (U : State) : Prop := ∀ w ∈ pnest, va_Nw w U
theorem pe_N.same {u U : State} (h : u.vm = U.vm) (hN : pe_N u) : pe_N U := fun w hw => va_Nw.same (pnest_tab w hw) h (hN w hw)
theorem pe_N.warm {s U : State} (hW : s.WarmedH U.vm) (hN : pe_N s) : pe_N U := by
  intro w hw
  have h1 := hN w hw
  have h2 := pnest_is w hw
  cases w
  all_goals first | exact va_Nw.warmF hW h1 | exact va_Nw.warmM hW h1 | exact va_Nw.warmC hW h1 | exact va_Nw.warmD hW h1 | exact absurd h2 (by intro h; cases h)
/-- the three literals: what lies at their cells -/
def pS (z : pG) (A : Nat → Prop) (U : State) (H : Heap) : Prop := ∀ i : Nat, i < 3 → va_O "java/lang/String" (z.2.1 i) A U H ∧ va_OF "java/lang/String" "coder" "B" (.int 0) (z.2.1 i) A U H ∧ va_OF "java/lang/String" "value" "[B" (.ref (z.2.2 i)) (z.2.1 i) A U H ∧ va_T .byte (z.2.2 i) (plen.getD i 0) (fun j => .int ((pbyt.getD i []).getD j 0)) A U H
theorem pS.moved {z : pG} {A : Nat → Prop} {u U : State} {H : Heap} (hvm : u.vm.Alike U.vm) (h : pS z A u H) : pS z A U H := fun i hi => ⟨(h i hi).1.moved hvm, (h i hi).2.1.moved hvm, (h i hi).2.2.1.moved hvm, (h i hi).2.2.2.moved hvm⟩
theorem pS.kept {z : pG} {A : Nat → Prop} {U : State} {H H1 : Heap} (h : pS z A U H) (hq : ∀ a : Nat, a < H.size → ¬ A a → H1[a]? = H[a]?) : pS z A U H1 := fun i hi => ⟨(h i hi).1.kept hq, (h i hi).2.1.kept hq, (h i hi).2.2.1.kept hq, (h i hi).2.2.2.kept hq⟩
theorem pS.narrow {z : pG} {A B : Nat → Prop} {U : State} {H : Heap} (h : pS z A U H) (hAB : ∀ q, B q → A q) : pS z B U H := fun i hi => ⟨(h i hi).1.narrow hAB, (h i hi).2.1.narrow hAB, (h i hi).2.2.1.narrow hAB, (h i hi).2.2.2.narrow hAB⟩
/-- what every method may ask of the machine beside its own world: links between nest mates, the statics that a throw reads, the empty array of the lists, the literals -/
def pe (z : pG) (A : Nat → Prop) (U : State) (H : Heap) : Prop :=
  pe_N U ∧ vx_Zq Bundle.tN "UNASSIGNED_STACK" Bundle.steD A U H ∧ vx_Zq Bundle.tN "SUPPRESSED_SENTINEL" Bundle.listD A U H ∧ va_Z RJx4a65c "DEFAULTCAPACITY_EMPTY_ELEMENTDATA" "[Ljava/lang/Object;" (.ref z.1) A U H ∧ va_T (.object "java/lang/Object") z.1 0 (fun _ => .null) A U H ∧ va_Z RJ0 "COMPACT_STRINGS" "Z" (.int 1) A U H ∧ pS z A U H ∧ (∀ (i : Nat) (q : String × Nat × String × Nat), plits[i]? = some q → vk_R q.1 q.2.1 q.2.2.1 (z.2.1 q.2.2.2) U) ∧ (∀ q ∈ pmsgs, ∃ a, vk_R q.1 q.2.1 q.2.2 a U) ∧ va_AO "java/lang/Object" U ∧ va_Nw (.castable RX14 "java/lang/Object") U ∧ va_Nc "java/util/NoSuchElementException" "java/lang/IllegalArgumentException" U
theorem pe.call {z : pG} {A B : Nat → Prop} {s U : State} {H : Heap} {locs : List Loc} (hE : pe z A s s.heap) (hS : va_S A s.heap H locs) (hF : ∀ q, B q → A q) (hU : U.heap = H) (hW : s.WarmedH U.vm) : pe z B U U.heap := by
  obtain ⟨h1, h2, h3, h4, h5, h6, h7, h8, h9, h10, h11, h12⟩ := hE
  have hv : s.vm.Alike U.vm := hW.alike
  have hk : ∀ a : Nat, a < s.heap.size → ¬ A a → U.heap[a]? = s.heap[a]? := fun a q r => by rw [hU]; exact hS.2.1 a q r
  exact ⟨h1.warm hW, ((h2.moved hv).kept hk).narrow hF, ((h3.moved hv).kept hk).narrow hF, ((h4.moved hv).kept hk).narrow hF, ((h5.moved hv).kept hk).narrow hF, ((h6.moved hv).kept hk).narrow hF, ((h7.moved hv).kept hk).narrow hF, fun i q hq => (h8 i q hq).warm hW, fun q hq => (h9 q hq).imp fun a ha => ha.warm hW, h10.moved hv, va_Nw.warmC hW h11, h12.moved hv⟩
theorem pe.blind {z : pG} {A : Nat → Prop} {U : State} (g : JFrame) (mk : MethodId) (a : Array Value) (hE : pe z A U U.heap) : pe z A (U.calling g mk a) (U.calling g mk a).heap := by
  obtain ⟨h1, h2, h3, h4, h5, h6, h7, h8, h9, h10, h11, h12⟩ := hE
  have hv : U.vm.Alike (U.calling g mk a).vm := Vm.Alike.refl U.vm
  have hq : U.vm = (U.calling g mk a).vm := rfl
  exact ⟨h1.same hq, h2.moved hv, h3.moved hv, h4.moved hv, h5.moved hv, h6.moved hv, h7.moved hv, fun i q h => (h8 i q h).same hq.symm, fun q h => (h9 q h).imp fun a ha => ha.same hq.symm, h10.moved hv, va_Nw.same rfl hq h11, h12.moved hv⟩
def pPre (z : pG) (dC : Nat → ClassId) (dI : Nat → Nat → Nat) (ws : va_W) (tys : List (ClassId × FieldType)) (sz : Nat) (U : State) : Prop :=
  U.heap.size = sz ∧ va_P (dC, dI) pcl ws U.heap ∧ va_K (dC, dI) pcl tys U ∧ va_D (fun _ => True) ws ∧ pe z (va_A ws sz) U U.heap
def pPost (dC : Nat → ClassId) (dI : Nat → Nat → Nat) (A : Nat → Prop) (ws : va_W) (tys : List (ClassId × FieldType)) (t : State) : Prop :=
  va_P (dC, dI) pcl ws t.heap ∧ va_K (dC, dI) pcl tys t ∧ va_D A ws
theorem pPre_blind {z : pG} {dC : Nat → ClassId} {dI : Nat → Nat → Nat} {ws : va_W} {tys : List (ClassId × FieldType)} {sz : Nat} {av : List Value} : FrameBlind (va_Pc av (pPre z dC dI ws tys sz)) :=
  fun a U g mk q => by
    obtain ⟨q0, q1, qP, qK, qD, qE⟩ := q
    exact ⟨q0, q1, qP, va_K.moved (u := U) (U := U.calling g mk a) (Vm.Alike.refl U.vm) qK, qD, qE.blind g mk a⟩
theorem pPre_at {z : pG} {dC : Nat → ClassId} {dI : Nat → Nat → Nat} {wc : va_W} {tys : List (ClassId × FieldType)} {A : Nat → Prop} {s : State} {H : Heap} {locs : List Loc} (hP : va_P (dC, dI) pcl wc H) (hK : va_K (dC, dI) pcl tys s) (hD : va_D A wc) (hE : pe z A s s.heap) (hS : va_S A s.heap H locs) (hF : ∀ q, va_A wc H.size q → A q) : ∀ U : State, U.heap = H → s.WarmedH U.vm → pPre z dC dI wc tys H.size U :=
  fun U hU hW => ⟨by rw [hU], by rw [hU]; exact hP, va_K.moved hW.alike hK, hD.weaken (fun _ _ _ _ => trivial), hE.call hS hF hU hW⟩
theorem p_P0 {D : va_G} {cl : List vw_C} {H : Heap} : va_P D cl [] H := fun k q h => by simp at h
theorem p_D0 {A : Nat → Prop} : va_D A [] := ⟨fun i j p q h => by simp at h, fun k q h => by simp at h⟩
theorem p_FX {A : Nat → Prop} {s t : State} {H : Heap} {locs : List Loc} (hS : va_S A s.heap H locs) (h1 : H.size ≤ t.heap.size) (h2 : ∀ q : Nat, q < H.size → t.heap[q]? = H[q]?) : va_F A s t := ⟨Nat.le_trans hS.1 h1, fun q hq hn => (h2 q (Nat.lt_of_lt_of_le hq hS.1)).trans (hS.2.1 q hq hn)⟩
theorem p_m1 {x : Int32} (h : ¬ x < 0) : -1 < x := by
  rw [Int32.lt_iff_toInt_lt] at h ⊢
  have h0 : (0 : Int32).toInt = 0 := by decide
  have h1 : (-1 : Int32).toInt = -1 := by decide
  rw [h0] at h
  rw [h1]
  omega
theorem pN_all {args : Array Value} {s : State} (hN : pe_N s) : ∀ w ∈ pnest, w.before args s = true := fun w h => va_Nw.use (pnest_tab w h) (hN w h)
theorem p_in100 {x : Int32} (h0 : ¬ x < 0) (h1 : x < 100) : vp_in x 100 := by
  rw [vp_in_iff]
  rw [Int32.lt_iff_toInt_lt] at h0 h1
  have e0 : (0 : Int32).toInt = 0 := by decide
  have e1 : (100 : Int32).toInt = 100 := by decide
  rw [e0] at h0
  rw [e1] at h1
  exact ⟨by omega, by omega⟩
theorem p_lt16 {x : Int32} (h : ¬ 15 < x) : x < 16 := by
  rw [Int32.lt_iff_toInt_lt] at h ⊢
  have e0 : (15 : Int32).toInt = 15 := by decide
  have e1 : (16 : Int32).toInt = 16 := by decide
  rw [e0] at h
  rw [e1]
  omega
theorem p_ge16 {x : Int32} (h : 15 < x) : ¬ x < 16 := by
  rw [Int32.lt_iff_toInt_lt] at h ⊢
  have e0 : (15 : Int32).toInt = 15 := by decide
  have e1 : (16 : Int32).toInt = 16 := by decide
  rw [e0] at h
  rw [e1]
  omega
theorem p_lt100 {x : Int32} (h : ¬ 99 < x) : x < 100 := by
  rw [Int32.lt_iff_toInt_lt] at h ⊢
  have e0 : (99 : Int32).toInt = 99 := by decide
  have e1 : (100 : Int32).toInt = 100 := by decide
  rw [e0] at h
  rw [e1]
  omega
theorem p_ge100 {x : Int32} (h : 99 < x) : ¬ x < 100 := by
  rw [Int32.lt_iff_toInt_lt] at h ⊢
  have e0 : (99 : Int32).toInt = 99 := by decide
  have e1 : (100 : Int32).toInt = 100 := by decide
  rw [e0] at h
  rw [e1]
  omega
theorem p_shr (i : Nat) (hi : i < 3) : nI (plen.getD i 0) >>> ((0 : Int32) &&& 31) = nI (plen.getD i 0) := by
  have h : ∀ j, j < 3 → nI (plen.getD j 0) >>> ((0 : Int32) &&& 31) = nI (plen.getD j 0) := by decide
  exact h i hi
theorem p_len (i : Nat) (hi : i < 3) : 0 < nI (plen.getD i 0) ∧ plen.getD i 0 < 100 ∧ (pbyt.getD i []).length = plen.getD i 0 := by
  have h : ∀ j, j < 3 → 0 < nI (plen.getD j 0) ∧ plen.getD j 0 < 100 ∧ (pbyt.getD j []).length = plen.getD j 0 := by decide
  exact h i hi
/-- no place of the literal i holds the char c -/
def pNo (i : Nat) (c : Int32) : Prop := (c < 0 ∨ 255 < c) ∨ ¬ c.toInt8.toInt32 ∈ pbyt.getD i []
theorem pNo_same (c : Int32) : pNo 1 c ↔ pNo 2 c := by
  have h1 : ∀ x ∈ pbyt.getD 1 [], x ∈ pbyt.getD 2 [] := by decide
  have h2 : ∀ x ∈ pbyt.getD 2 [], x ∈ pbyt.getD 1 [] := by decide
  unfold pNo
  exact or_congr Iff.rfl (not_congr ⟨h1 _, h2 _⟩)
section PLW
variable {p : Program} {l : Launch} {e : Env} {R : Room} {s : State} {m : MethodId} {args : Array Value} {below : List Frame} {meth : Method} {c : Code} {H : Heap} {locs : List Loc} {cells slots : Nat} {Q : State → Prop} {cc : ByteArray} {pc : Nat} {ls : Array Slot} {rest : List Value}
theorem p_ldcSW (hexec : p.tables.exec = Jvm.exec) (hb : c.code = cc) {own tx : String} {index q : Nat} (hown : s.vm.findClass own = some m.cls) (hZ : vk_R own index tx q s) (hdg : decode cc pc = .ok (.ldc_w index, 3))
    (k : W p l e R s m args below meth c H locs cells slots Q (F0 m (pc + 3) ls (.ref q :: rest))) : W p l e R s m args below meth c H locs cells slots Q (F0 m pc ls rest) := by
  intro T hT X
  obtain ⟨t, a1, b1⟩ := k T hT X
  exact ⟨t, X.ldcStringW hexec hown (text := tx) (a := q) hZ.1 hZ.2 (g := F0 m pc ls rest) rfl (by rw [hb]; exact hdg) t a1, b1⟩
end PLW
theorem p_getD_mem {l : List Int32} {k : Nat} (h : k < l.length) : l.getD k 0 ∈ l := by
  rw [List.getD_eq_getElem?_getD, List.getElem?_eq_getElem h]
  exact List.getElem_mem h
theorem p_recv {z : pG} {A : Nat → Prop} {s : State} {H : Heap} {locs : List Loc} {i : Nat} (hE : pS z A s s.heap) (hi : i < 3) (hS : va_S A s.heap H locs) : ∃ cell : Cell, H[z.2.1 i]? = some cell ∧ cell.vm.isStatics = false ∧ s.vm.findClass "java/lang/String" = some cell.cls := by
  obtain ⟨cell, h1, h2, h3, h4⟩ := (hE i hi).1.kept hS.2.1
  exact ⟨cell, h1, h2, h3⟩
set_option maxRecDepth 100000 in
theorem xat0 {args : Array Value} {s : State} (hts : ∀ w ∈ pw, w.before args s = true) (hN : pe_N s) : ∀ w ∈ vx_atS RX11 65 "java/lang/IllegalArgumentException" xnames, w.before args s = true := vx_hat (B := pnest) (fun w h => hts w (pv_0_in w h)) (by decide +kernel) (pN_all hN)
set_option maxRecDepth 100000 in
theorem xgood0 : ∀ w ∈ Cond.classLink RX11 61 "java/lang/IllegalArgumentException" :: Cond.initialized "java/lang/IllegalArgumentException" :: vx_atS RX11 65 "java/lang/IllegalArgumentException" xnames, vx_ot w = true := by decide +kernel
set_option maxRecDepth 100000 in
theorem xat1 {args : Array Value} {s : State} (hts : ∀ w ∈ pw, w.before args s = true) (hN : pe_N s) : ∀ w ∈ vx_atS RX11 82 "java/lang/IllegalStateException" xnames, w.before args s = true := vx_hat (B := pnest) (fun w h => hts w (pv_1_in w h)) (by decide +kernel) (pN_all hN)
set_option maxRecDepth 100000 in
theorem xgood1 : ∀ w ∈ Cond.classLink RX11 78 "java/lang/IllegalStateException" :: Cond.initialized "java/lang/IllegalStateException" :: vx_atS RX11 82 "java/lang/IllegalStateException" xnames, vx_ot w = true := by decide +kernel
set_option maxRecDepth 100000 in
theorem xat2 {args : Array Value} {s : State} (hts : ∀ w ∈ pw, w.before args s = true) (hN : pe_N s) : ∀ w ∈ vx_atS RX11 153 "java/lang/IndexOutOfBoundsException" xnames, w.before args s = true := vx_hat (B := pnest) (fun w h => hts w (pv_2_in w h)) (by decide +kernel) (pN_all hN)
set_option maxRecDepth 100000 in
theorem xgood2 : ∀ w ∈ Cond.classLink RX11 149 "java/lang/IndexOutOfBoundsException" :: Cond.initialized "java/lang/IndexOutOfBoundsException" :: vx_atS RX11 153 "java/lang/IndexOutOfBoundsException" xnames, vx_ot w = true := by decide +kernel
set_option maxRecDepth 100000 in
theorem xat3 {args : Array Value} {s : State} (hts : ∀ w ∈ pw, w.before args s = true) (hN : pe_N s) : ∀ w ∈ vx_atS RX11 246 "java/lang/UnsupportedOperationException" xnames, w.before args s = true := vx_hat (B := pnest) (fun w h => hts w (pv_3_in w h)) (by decide +kernel) (pN_all hN)
set_option maxRecDepth 100000 in
theorem xgood3 : ∀ w ∈ Cond.classLink RX11 242 "java/lang/UnsupportedOperationException" :: Cond.initialized "java/lang/UnsupportedOperationException" :: vx_atS RX11 246 "java/lang/UnsupportedOperationException" xnames, vx_ot w = true := by decide +kernel
set_option maxRecDepth 100000 in
theorem xat4 {args : Array Value} {s : State} (hts : ∀ w ∈ pw, w.before args s = true) (hN : pe_N s) : ∀ w ∈ vx_atS RX11 263 "java/lang/ArithmeticException" xnames, w.before args s = true := vx_hat (B := pnest) (fun w h => hts w (pv_4_in w h)) (by decide +kernel) (pN_all hN)
set_option maxRecDepth 100000 in
theorem xgood4 : ∀ w ∈ Cond.classLink RX11 259 "java/lang/ArithmeticException" :: Cond.initialized "java/lang/ArithmeticException" :: vx_atS RX11 263 "java/lang/ArithmeticException" xnames, vx_ot w = true := by decide +kernel
set_option maxRecDepth 100000 in
theorem xat5 {args : Array Value} {s : State} (hts : ∀ w ∈ pw, w.before args s = true) (hN : pe_N s) : ∀ w ∈ px_atS RX11 148 "java/util/NoSuchElementException" "java/lang/RuntimeException" 13 prog_56_method_4_code ["java/lang/Exception"], w.before args s = true := vx_hat (B := pnest) (fun w h => hts w (pv_5_in w h)) (by decide +kernel) (pN_all hN)
set_option maxRecDepth 100000 in
theorem xgood5 : ∀ w ∈ Cond.classLink RX11 144 "java/util/NoSuchElementException" :: Cond.initialized "java/util/NoSuchElementException" :: px_atS RX11 148 "java/util/NoSuchElementException" "java/lang/RuntimeException" 13 prog_56_method_4_code ["java/lang/Exception"], vx_ot w = true := by decide +kernel
