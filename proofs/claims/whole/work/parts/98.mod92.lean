/-! ===== the law's own cell and side: they catch ===== -/
theorem Met.ofWH {l : Launch} {y : MethodName} {ws ws' : List Cond} {rm : Room} {Pc : Array Value → State → Prop} {Qc : Array Value → State → Outcome → State → Prop} {mc ms : Nat} {free : Addr → Prop} {cc : ByteArray} {maxL : Nat} {ret : Option FieldType} {hh : List (Nat × Nat × Nat × Nat)}
    (hy : plainName y.cls = true) (hw : ws = Cond.codeWith y cc maxL ret hh :: ws')
    (body : ∀ p e s m args below meth c s₁, BodyLoose p l y (headSpec ws rm) cc maxL ret e s m args below meth c s₁ → c.maxLocals = maxL → Pc args s →
      W p l e (headSpec ws rm).room s m args below meth c s.heap [] 0 0 (MQ below Qc args s mc ms free) (entryFrame m args maxL)) : Met l y ws rm Pc Qc mc ms free := by
  refine MetFree.of_bodyS (code := cc) (maxLocals := maxL) (ret := ret) hy ?_ ?_
  · intro args s m h hn
    obtain ⟨m9, meth, c, hn9, h1, h2, h3, h4, -, h5, h6, -⟩ := Cond.codeWith_spec (atoms_spec (ws := ws) h _ (by rw [hw]; exact List.mem_cons_self))
    cases hn.symm.trans hn9
    exact ⟨meth, c, h1, h2, h3, h4, h5, h6⟩
  · intro p e s m args below meth c s₁ B hml hP _
    have hh0 : s₁.heap = s.heap := by rw [B.state]; rfl
    obtain ⟨t, a1, o, b1, b2, b3⟩ := body p e s m args below meth c s₁ B hml hP s₁ hh0 (Stand.of_body B)
    exact ⟨t, o, a1, b1, b2, ⟨b3.1, b3.2⟩⟩
abbrev lAr (oA : Nat) (cL : ClassId) (lo : Nat → Int64) : Nat × va_E := (oA, .inl (cL, 1, .inr (.inl lo)))
abbrev wW (cA : Nat → ClassId) (ρX : Nat → Nat) (v : Value) (μX : mm_U) (oA : Nat) (cL : ClassId) (lo : Nat → Int64) : va_W := lAr oA cL lo :: wX cA ρX v μX
def wrP (D : va_G) (cA : Nat → ClassId) (σ ρX : Nat → Nat) (v : Value) (μX : mm_U) (oA : Nat) (cL : ClassId) (lo : Nat → Int64) (as : List Value) (sz sa : Nat) : Array Value → State → Prop := va_Pc as (fun U => U.heap.size = sz ∧ va_P D vwCl (wW cA ρX v μX oA cL lo) U.heap ∧ va_K D vwCl (mm_ty cA ++ [(cL, .long)]) U ∧ va_D (fun _ => True) (wW cA ρX v μX oA cL lo) ∧ mm_Z σ (va_A (wW cA ρX v μX oA cL lo) sz) U U.heap ∧ NXw sa (va_A (wW cA ρX v μX oA cL lo) sz) U U.heap)
def wrQ (D : va_G) (cA : Nat → ClassId) (ρX : Nat → Nat) (v : Value) (μX : mm_U) (oA : Nat) (cL : ClassId) (lo lo1 : Nat → Int64) (sz : Nat) (r0 : Int32) : Array Value → State → Outcome → State → Prop := va_Qi (fun r (_ : Unit) => r = r0) (fun _ t => va_P D vwCl (wW cA ρX v μX oA cL lo1) t.heap ∧ va_K D vwCl (mm_ty cA ++ [(cL, .long)]) t ∧ va_D (va_A (wW cA ρX v μX oA cL lo) sz) (wW cA ρX v μX oA cL lo1)) (va_A (wW cA ρX v μX oA cL lo) sz)
theorem ceP_bl {D : va_G} {cA : Nat → ClassId} {σ ρX : Nat → Nat} {v : Value} {μX : mm_U} {as : List Value} {sz sa : Nat} : FrameBlind (ceP D cA σ ρX v μX as sz sa) := fun a U g mk q => by
  obtain ⟨q0, q1, qP, qK, qD, qZ, qN⟩ := q
  exact ⟨q0, q1, qP, va_K.moved (u := U) (U := U.calling g mk a) (Vm.Alike.refl U.vm) qK, qD, mm_Z.moved (u := U) (U := U.calling g mk a) (State.WarmedH.refl U) qZ, qN.mv (U := U.calling g mk a) (State.WarmedH.refl U)⟩
theorem wrP_bl {D : va_G} {cA : Nat → ClassId} {σ ρX : Nat → Nat} {v : Value} {μX : mm_U} {oA : Nat} {cL : ClassId} {lo : Nat → Int64} {as : List Value} {sz sa : Nat} : FrameBlind (wrP D cA σ ρX v μX oA cL lo as sz sa) := fun a U g mk q => by
  obtain ⟨q0, q1, qP, qK, qD, qZ, qN⟩ := q
  exact ⟨q0, q1, qP, va_K.moved (u := U) (U := U.calling g mk a) (Vm.Alike.refl U.vm) qK, qD, mm_Z.moved (u := U) (U := U.calling g mk a) (State.WarmedH.refl U) qZ, qN.mv (U := U.calling g mk a) (State.WarmedH.refl U)⟩
theorem cw_cell_d : (parseMethodDescriptor yX5_cell.desc).map (fun d => d.parameters.length) = some 2 := by decide +kernel
theorem cw_cell_c : Cond.code yX5_cell cX5_cell 3 (some .int) ∈ mm_tb := (mm_t1 (mm_tq4 (List.mem_of_getElem? (i := 113) rfl)) rfl)
theorem cw_cell_l : Cond.methodLink RL 7 yX5_cell ∈ mm_tb := (mm_t1 (mm_tq4 (List.mem_of_getElem? (i := 110) rfl)) rfl)
theorem cw_cell_i : Cond.instanceMethod yX5_cell ∈ mm_tb := (mm_t1 (mm_tq4 (List.mem_of_getElem? (i := 111) rfl)) rfl)
theorem cw_cell_s : Cond.selects RX5 yX5_cell yX5_cell ∈ mm_tb := (mm_t1 (mm_tq4 (List.mem_of_getElem? (i := 112) rfl)) rfl)
theorem cw_side_d : (parseMethodDescriptor yX5_side.desc).map (fun d => d.parameters.length) = some 3 := by decide +kernel
theorem cw_side_c : Cond.code yX5_side cX5_side 5 (some .int) ∈ mm_tb := (mm_t1 (mm_tq4 (List.mem_of_getElem? (i := 199) rfl)) rfl)
theorem cw_side_l : Cond.methodLink RL 15 yX5_side ∈ mm_tb := (mm_t1 (mm_tq4 (List.mem_of_getElem? (i := 196) rfl)) rfl)
theorem cw_side_i : Cond.instanceMethod yX5_side ∈ mm_tb := (mm_t1 (mm_tq4 (List.mem_of_getElem? (i := 197) rfl)) rfl)
theorem cw_side_s : Cond.selects RX5 yX5_side yX5_side ∈ mm_tb := (mm_t1 (mm_tq4 (List.mem_of_getElem? (i := 198) rfl)) rfl)
theorem cw_cl : Cond.classLink RL 13 nE ∈ mm_tb := (mm_t1 (mm_tq4 (List.mem_of_getElem? (i := 109) rfl)) rfl)
set_option maxHeartbeats 4000000 in
set_option maxRecDepth 100000 in
theorem kw_cellX (l : Launch) (hlt : l.stackTraces = false) (D : va_G) (cA : Nat → ClassId) (σ ρX : Nat → Nat) (v : Value) (μX : mm_U) (oA : Nat) (cL : ClassId) (lo : Nat → Int64) (s0 : Fo) (hR : RepF s0 μX 1) (J : Inv s0.1) (x what : Int32) (hn : ceO s0.1 x = none) (sz sa : Nat) : Met l yL_cell (Cond.codeWith yL_cell cL_cell 5 (some .int) [(0, 10, 13, 13)] :: mm_tb) { frames := 9, cells := 1, slots := 6, locals := 330 } (wrP D cA σ ρX v μX oA cL lo [.ref (ρX 0), .int x, .int what, .ref oA] sz sa) (wrQ D cA ρX v μX oA cL lo lo sz (nI 1)) 1 6 (va_A (wW cA ρX v μX oA cL lo) sz) := by
  refine Met.ofWH (cc := cL_cell) (maxL := 5) (ret := some .int) (hh := [(0, 10, 13, 13)]) (by decide +kernel) rfl ?_
  intro p e s m args below meth c s₁ B hml hv
  obtain ⟨rfl, hsz, hP, hKK, hD0, hZ, hNX⟩ := hv
  have hx := B.exec
  have hb := B.bytes
  have hr := B.returns
  have hlk : meth.locks = false := BodyLoose.notSynchronized B
  have hts0 := atoms_spec (ws := (Cond.codeWith yL_cell cL_cell 5 (some .int) [(0, 10, 13, 13)] :: mm_tb)) B.pre
  have hts : ∀ w ∈ mm_tb, w.before _ s = true := fun w hw => hts0 w (List.mem_cons_of_mem _ hw)
  have hown : s.vm.findClass RL = some m.cls := findClass_of_methodNamed B.named
  have htab : c.exceptionTable.toList = tableOf [(0, 10, 13, 13)] := vx_table (x := yL_cell) B (hts0 _ List.mem_cons_self)
  subst hsz
  have hD := hD0.self (sz := s.heap.size)
  have hK : va_K D vwCl (mm_ty cA) s := hKK.sub [0, 1] rfl
  generalize hAe : va_A (wW cA ρX v μX oA cL lo) s.heap.size = A at hD hZ hNX
  have hA : ∀ q : Nat, s.heap.size ≤ q → A q := fun q h => by rw [← hAe]; exact Or.inr h
  have hS : va_S A s.heap s.heap [] := va_S.rf
  have hl := lv_entry ([.ref (ρX 0), .int x, .int what, .ref oA]) (n := 5) (Nat.le_of_ble_eq_true rfl)
  rw [lg_entry_eq]
  generalize (lg_sl ([.ref (ρX 0), .int x, .int what, .ref oA]) ++ List.replicate (5 - (lg_sl ([.ref (ρX 0), .int x, .int what, .ref oA])).length) Slot.unset).toArray = ls at hl ⊢
  have hl : lv_has ls 5 [(0, .ref (ρX 0)), (1, .int x), (2, .int what), (3, .ref oA)] := hl
  refine lv_aload_n hx hb dL_cell_0 rfl (lv_at hl 3 rfl) ?_
  refine lv_iconst (v := nI 0) hx hb dL_cell_1 (by decide) ?_
  refine lv_aload_n hx hb dL_cell_2 rfl (lv_at hl 0 rfl) ?_
  refine lv_iload_n hx hb dL_cell_3 rfl (lv_at hl 1 rfl) ?_
  refine lv_iload_n hx hb dL_cell_4 rfl (lv_at hl 2 rfl) ?_
  have hM := k_cellX l hlt D cA σ ρX v μX s0 hR J x what hn s.heap.size sa
  unfold ceQ ceX at hM
  have q1 := ww_Pc (a := [lAr oA cL lo]) hP
  have q2 := ww_Dc (a := [lAr oA cL lo]) hD
  obtain ⟨hPx, hPr⟩ := ww_P q1
  obtain ⟨hDx, hDr, hap⟩ := ww_D q2
  have hF : ∀ q, va_A (wX cA ρX v μX) s.heap.size q → A q := fun q h => by
    rcases h with ⟨i, e', hi⟩ | hge
    · exact hDx.2 i (q, e') hi
    · exact hA _ hge
  have cw : CallB (headSpec (Cond.codeWith yL_cell cL_cell 5 (some .int) [(0, 10, 13, 13)] :: mm_tb) { frames := 9, cells := 1, slots := 6, locals := 330 }).room s _ RL 7 yX5_cell cX5_cell 3 (some .int) (Cond.code yX5_cell cX5_cell 3 (some .int) :: mm_tb) { frames := 8, cells := 1, slots := 6, locals := 300 } 1 6 2 := callB_of 2 hts (mm_gin cw_cell_c) rfl rfl rfl (hts _ ic5) (hts _ cw_cell_l) ⟨ne5.1, ne5.2, cw_cell_d⟩ ⟨Nat.le_of_ble_eq_true rfl, Nat.le_of_ble_eq_true rfl⟩
  refine vx_calli (vx_runV (C := RX5) (b := ρX 0) (As := [.int x, .int what]) (rest := [.int (nI 0), .ref oA]) ⟨hx, hb, hml, hown, hts⟩ hM ⟨cw, hts _ cw_cell_i, hts _ cw_cell_s⟩ ⟨ceP_bl, va_recv hK hPx (ci := 5) (q0 := 0) rfl rfl, fun U hU hW => ⟨rfl, by rw [hU], by rw [hU]; exact hPx, va_K.moved hW.alike hK, hDx.weaken (fun _ _ _ _ => trivial), by rw [hU]; exact mm_Z.moved hW (mm_Z.kept hZ hS.1 hS.2.1 hF), by rw [hU]; exact (hNX.narrow hF).mv hW⟩⟩ rfl rfl hl.1 rfl (lv_room (Nat.le_of_ble_eq_true rfl)) dL_cell_5 ⟨Nat.le_of_ble_eq_true rfl, Nat.le_of_ble_eq_true rfl⟩) hS (fun q _ h => hF q h) hF (fun q _ h => hF q h) (fun E ce q9 u t H1 locs1 ht hvm _ hB hz1 hk1 hS1 hce hcv hcl => ?_) (fun r u t H1 locs1 ht hvm hw hB hz1 hk1 hS1 => hw.elim)
  obtain ⟨rfl, hP1, hK1, hD1⟩ := hB
  rw [ht] at hP1
  obtain ⟨hP2, hD2⟩ := ww_call q1 q2 hS hA hk1 hP1 hD1
  have hP3 := ww_Pc hP2
  have hD3 := ww_Dc hD2
  refine vx_catch (own := RL) (name := nE) hown [] ⟨0, 10, 13, 13⟩ [] htab (fun z hz => nomatch hz) rfl (by decide) (hts _ cw_cl) (va_Nw.use rfl hNX.1.2.2.2) hce hcv hcl ?_
  refine lv_astore hx hb dL_cell_13 hl (by omega) rfl (fun ls2 hl2 => ?_)
  refine lv_iconst (v := nI 1) hx hb dL_cell_15 (by decide) ?_
  refine W.widen (k := 1) (n := 6) (Nat.le_of_ble_eq_true rfl) (Nat.le_of_ble_eq_true rfl) ?_
  exact W.iret (v := nI 1) hx hb hr (fun t ht hW => ⟨⟨nI 1, (), rfl, rfl, by rw [ht]; exact hP3, va_K.moved hW.alike hKK, by rw [hAe]; exact hD3⟩, by rw [hAe]; exact hS1.F ht⟩) hS1.2.2 dL_cell_16
set_option maxHeartbeats 4000000 in
set_option maxRecDepth 100000 in
theorem kw_cellS (l : Launch) (hlt : l.stackTraces = false) (D : va_G) (cA : Nat → ClassId) (σ ρX : Nat → Nat) (v : Value) (μX : mm_U) (oA : Nat) (cL : ClassId) (lo : Nat → Int64) (s0 : Fo) (hR : RepF s0 μX 1) (J : Inv s0.1) (c0 : Ce) (hc : 0 < sd s0.1 c0) (what : Int32) (sz sa : Nat) : Met l yL_cell (Cond.codeWith yL_cell cL_cell 5 (some .int) [(0, 10, 13, 13)] :: mm_tb) { frames := 9, cells := 0, slots := 0, locals := 330 } (wrP D cA σ ρX v μX oA cL lo [.ref (ρX 0), .int (nI c0.val), .int what, .ref oA] sz sa) (wrQ D cA ρX v μX oA cL lo (vp_updL lo 0 (a_cell s0.1 c0 what).toInt64) sz (nI 0)) 0 0 (va_A (wW cA ρX v μX oA cL lo) sz) := by
  refine Met.ofWH (cc := cL_cell) (maxL := 5) (ret := some .int) (hh := [(0, 10, 13, 13)]) (by decide +kernel) rfl ?_
  intro p e s m args below meth c s₁ B hml hv
  obtain ⟨rfl, hsz, hP, hKK, hD0, hZ, hNX⟩ := hv
  have hx := B.exec
  have hb := B.bytes
  have hr := B.returns
  have hlk : meth.locks = false := BodyLoose.notSynchronized B
  have hts0 := atoms_spec (ws := (Cond.codeWith yL_cell cL_cell 5 (some .int) [(0, 10, 13, 13)] :: mm_tb)) B.pre
  have hts : ∀ w ∈ mm_tb, w.before _ s = true := fun w hw => hts0 w (List.mem_cons_of_mem _ hw)
  have hown : s.vm.findClass RL = some m.cls := findClass_of_methodNamed B.named
  have htab : c.exceptionTable.toList = tableOf [(0, 10, 13, 13)] := vx_table (x := yL_cell) B (hts0 _ List.mem_cons_self)
  subst hsz
  have hD := hD0.self (sz := s.heap.size)
  have hK : va_K D vwCl (mm_ty cA) s := hKK.sub [0, 1] rfl
  generalize hAe : va_A (wW cA ρX v μX oA cL lo) s.heap.size = A at hD hZ hNX
  have hA : ∀ q : Nat, s.heap.size ≤ q → A q := fun q h => by rw [← hAe]; exact Or.inr h
  have hS : va_S A s.heap s.heap [] := va_S.rf
  have hl := lv_entry ([.ref (ρX 0), .int (nI c0.val), .int what, .ref oA]) (n := 5) (Nat.le_of_ble_eq_true rfl)
  rw [lg_entry_eq]
  generalize (lg_sl ([.ref (ρX 0), .int (nI c0.val), .int what, .ref oA]) ++ List.replicate (5 - (lg_sl ([.ref (ρX 0), .int (nI c0.val), .int what, .ref oA])).length) Slot.unset).toArray = ls at hl ⊢
  have hl : lv_has ls 5 [(0, .ref (ρX 0)), (1, .int (nI c0.val)), (2, .int what), (3, .ref oA)] := hl
  refine lv_aload_n hx hb dL_cell_0 rfl (lv_at hl 3 rfl) ?_
  refine lv_iconst (v := nI 0) hx hb dL_cell_1 (by decide) ?_
  refine lv_aload_n hx hb dL_cell_2 rfl (lv_at hl 0 rfl) ?_
  refine lv_iload_n hx hb dL_cell_3 rfl (lv_at hl 1 rfl) ?_
  refine lv_iload_n hx hb dL_cell_4 rfl (lv_at hl 2 rfl) ?_
  have hM := k_cellS l D cA σ ρX v μX s0 hR J c0 hc what s.heap.size sa
  unfold ceQ at hM
  have q1 := ww_Pc (a := [lAr oA cL lo]) hP
  have q2 := ww_Dc (a := [lAr oA cL lo]) hD
  obtain ⟨hPx, hPr⟩ := ww_P q1
  obtain ⟨hDx, hDr, hap⟩ := ww_D q2
  have hF : ∀ q, va_A (wX cA ρX v μX) s.heap.size q → A q := fun q h => by
    rcases h with ⟨i, e', hi⟩ | hge
    · exact hDx.2 i (q, e') hi
    · exact hA _ hge
  have cw : CallB (headSpec (Cond.codeWith yL_cell cL_cell 5 (some .int) [(0, 10, 13, 13)] :: mm_tb) { frames := 9, cells := 0, slots := 0, locals := 330 }).room s _ RL 7 yX5_cell cX5_cell 3 (some .int) (Cond.code yX5_cell cX5_cell 3 (some .int) :: mm_tb) { frames := 8, cells := 0, slots := 0, locals := 300 } 0 0 2 := callB_of 2 hts (mm_gin cw_cell_c) rfl rfl rfl (hts _ ic5) (hts _ cw_cell_l) ⟨ne5.1, ne5.2, cw_cell_d⟩ ⟨Nat.le_of_ble_eq_true rfl, Nat.le_of_ble_eq_true rfl⟩
  refine va_calli (va_runV (C := RX5) (b := ρX 0) (As := [.int (nI c0.val), .int what]) (rest := [.int (nI 0), .ref oA]) ⟨hx, hb, hml, hown, hts⟩ hM ⟨cw, hts _ cw_cell_i, hts _ cw_cell_s⟩ ⟨ceP_bl, va_recv hK hPx (ci := 5) (q0 := 0) rfl rfl, fun U hU hW => ⟨rfl, by rw [hU], by rw [hU]; exact hPx, va_K.moved hW.alike hK, hDx.weaken (fun _ _ _ _ => trivial), by rw [hU]; exact mm_Z.moved hW (mm_Z.kept hZ hS.1 hS.2.1 hF), by rw [hU]; exact (hNX.narrow hF).mv hW⟩⟩ rfl rfl hl.1 rfl (lv_room (Nat.le_of_ble_eq_true rfl)) dL_cell_5 ⟨Nat.le_of_ble_eq_true rfl, Nat.le_of_ble_eq_true rfl⟩) hS (fun q _ h => hF q h) hF (fun r u t H1 locs1 ht hvm hw hB hz1 hk1 hS1 => ?_)
  obtain ⟨hP1, hK1, hD1⟩ := hB
  rw [ht] at hP1
  obtain ⟨hP2, hD2⟩ := ww_call q1 q2 hS hA hk1 hP1 hD1
  have hP3 := ww_Pc hP2
  have hD3 := ww_Dc hD2
  have hw : r = (a_cell s0.1 c0 what) := hw
  subst hw
  refine lv_i2l hx hb dL_cell_8 rfl ?_
  refine va_last hx hb hKK hP3 hD3 hS1 0 2 rfl rfl (vp_in_nI (by omega) (by omega)) dL_cell_9 (fun H2 locs2 hP4 hD4 hS4 => ?_)
  refine lv_goto (tgt := 17) hx hb dL_cell_10 (by decide) ?_
  refine lv_iconst (v := nI 0) hx hb dL_cell_17 (by decide) ?_
  exact W.iret (v := nI 0) hx hb hr (fun t ht hW => ⟨⟨nI 0, (), rfl, rfl, by rw [ht]; exact hP4, va_K.moved hW.alike hKK, by rw [hAe]; exact hD4⟩, by rw [hAe]; exact hS4.F ht⟩) hS4.2.2 dL_cell_18
set_option maxHeartbeats 4000000 in
set_option maxRecDepth 100000 in
theorem kw_sideX (l : Launch) (hlt : l.stackTraces = false) (D : va_G) (cA : Nat → ClassId) (σ ρX : Nat → Nat) (v : Value) (μX : mm_U) (oA : Nat) (cL : ClassId) (lo : Nat → Int64) (s0 : Fo) (hR : RepF s0 μX 1) (J : Inv s0.1) (x y what : Int32) (hn : ceO s0.1 x = none) (sz sa : Nat) : Met l yL_side (Cond.codeWith yL_side cL_side 6 (some .int) [(0, 12, 15, 13)] :: mm_tb) { frames := 9, cells := 1, slots := 6, locals := 330 } (wrP D cA σ ρX v μX oA cL lo [.ref (ρX 0), .int x, .int y, .int what, .ref oA] sz sa) (wrQ D cA ρX v μX oA cL lo lo sz (nI 1)) 1 6 (va_A (wW cA ρX v μX oA cL lo) sz) := by
  refine Met.ofWH (cc := cL_side) (maxL := 6) (ret := some .int) (hh := [(0, 12, 15, 13)]) (by decide +kernel) rfl ?_
  intro p e s m args below meth c s₁ B hml hv
  obtain ⟨rfl, hsz, hP, hKK, hD0, hZ, hNX⟩ := hv
  have hx := B.exec
  have hb := B.bytes
  have hr := B.returns
  have hlk : meth.locks = false := BodyLoose.notSynchronized B
  have hts0 := atoms_spec (ws := (Cond.codeWith yL_side cL_side 6 (some .int) [(0, 12, 15, 13)] :: mm_tb)) B.pre
  have hts : ∀ w ∈ mm_tb, w.before _ s = true := fun w hw => hts0 w (List.mem_cons_of_mem _ hw)
  have hown : s.vm.findClass RL = some m.cls := findClass_of_methodNamed B.named
  have htab : c.exceptionTable.toList = tableOf [(0, 12, 15, 13)] := vx_table (x := yL_side) B (hts0 _ List.mem_cons_self)
  subst hsz
  have hD := hD0.self (sz := s.heap.size)
  have hK : va_K D vwCl (mm_ty cA) s := hKK.sub [0, 1] rfl
  generalize hAe : va_A (wW cA ρX v μX oA cL lo) s.heap.size = A at hD hZ hNX
  have hA : ∀ q : Nat, s.heap.size ≤ q → A q := fun q h => by rw [← hAe]; exact Or.inr h
  have hS : va_S A s.heap s.heap [] := va_S.rf
  have hl := lv_entry ([.ref (ρX 0), .int x, .int y, .int what, .ref oA]) (n := 6) (Nat.le_of_ble_eq_true rfl)
  rw [lg_entry_eq]
  generalize (lg_sl ([.ref (ρX 0), .int x, .int y, .int what, .ref oA]) ++ List.replicate (6 - (lg_sl ([.ref (ρX 0), .int x, .int y, .int what, .ref oA])).length) Slot.unset).toArray = ls at hl ⊢
  have hl : lv_has ls 6 [(0, .ref (ρX 0)), (1, .int x), (2, .int y), (3, .int what), (4, .ref oA)] := hl
  refine lv_aload hx hb dL_side_0 (lv_at hl 4 rfl) ?_
  refine lv_iconst (v := nI 0) hx hb dL_side_2 (by decide) ?_
  refine lv_aload_n hx hb dL_side_3 rfl (lv_at hl 0 rfl) ?_
  refine lv_iload_n hx hb dL_side_4 rfl (lv_at hl 1 rfl) ?_
  refine lv_iload_n hx hb dL_side_5 rfl (lv_at hl 2 rfl) ?_
  refine lv_iload_n hx hb dL_side_6 rfl (lv_at hl 3 rfl) ?_
  have hM := k_sideX l hlt D cA σ ρX v μX s0 hR J x y what hn s.heap.size sa
  unfold ceQ ceX at hM
  have q1 := ww_Pc (a := [lAr oA cL lo]) hP
  have q2 := ww_Dc (a := [lAr oA cL lo]) hD
  obtain ⟨hPx, hPr⟩ := ww_P q1
  obtain ⟨hDx, hDr, hap⟩ := ww_D q2
  have hF : ∀ q, va_A (wX cA ρX v μX) s.heap.size q → A q := fun q h => by
    rcases h with ⟨i, e', hi⟩ | hge
    · exact hDx.2 i (q, e') hi
    · exact hA _ hge
  have cw : CallB (headSpec (Cond.codeWith yL_side cL_side 6 (some .int) [(0, 12, 15, 13)] :: mm_tb) { frames := 9, cells := 1, slots := 6, locals := 330 }).room s _ RL 15 yX5_side cX5_side 5 (some .int) (Cond.code yX5_side cX5_side 5 (some .int) :: mm_tb) { frames := 8, cells := 1, slots := 6, locals := 300 } 1 6 3 := callB_of 3 hts (mm_gin cw_side_c) rfl rfl rfl (hts _ ic5) (hts _ cw_side_l) ⟨ne5.1, ne5.2, cw_side_d⟩ ⟨Nat.le_of_ble_eq_true rfl, Nat.le_of_ble_eq_true rfl⟩
  refine vx_calli (vx_runV (C := RX5) (b := ρX 0) (As := [.int x, .int y, .int what]) (rest := [.int (nI 0), .ref oA]) ⟨hx, hb, hml, hown, hts⟩ hM ⟨cw, hts _ cw_side_i, hts _ cw_side_s⟩ ⟨ceP_bl, va_recv hK hPx (ci := 5) (q0 := 0) rfl rfl, fun U hU hW => ⟨rfl, by rw [hU], by rw [hU]; exact hPx, va_K.moved hW.alike hK, hDx.weaken (fun _ _ _ _ => trivial), by rw [hU]; exact mm_Z.moved hW (mm_Z.kept hZ hS.1 hS.2.1 hF), by rw [hU]; exact (hNX.narrow hF).mv hW⟩⟩ rfl rfl hl.1 rfl (lv_room (Nat.le_of_ble_eq_true rfl)) dL_side_7 ⟨Nat.le_of_ble_eq_true rfl, Nat.le_of_ble_eq_true rfl⟩) hS (fun q _ h => hF q h) hF (fun q _ h => hF q h) (fun E ce q9 u t H1 locs1 ht hvm _ hB hz1 hk1 hS1 hce hcv hcl => ?_) (fun r u t H1 locs1 ht hvm hw hB hz1 hk1 hS1 => hw.elim)
  obtain ⟨rfl, hP1, hK1, hD1⟩ := hB
  rw [ht] at hP1
  obtain ⟨hP2, hD2⟩ := ww_call q1 q2 hS hA hk1 hP1 hD1
  have hP3 := ww_Pc hP2
  have hD3 := ww_Dc hD2
  refine vx_catch (own := RL) (name := nE) hown [] ⟨0, 12, 15, 13⟩ [] htab (fun z hz => nomatch hz) rfl (by decide) (hts _ cw_cl) (va_Nw.use rfl hNX.1.2.2.2) hce hcv hcl ?_
  refine lv_astore hx hb dL_side_15 hl (by omega) rfl (fun ls2 hl2 => ?_)
  refine lv_iconst (v := nI 1) hx hb dL_side_17 (by decide) ?_
  refine W.widen (k := 1) (n := 6) (Nat.le_of_ble_eq_true rfl) (Nat.le_of_ble_eq_true rfl) ?_
  exact W.iret (v := nI 1) hx hb hr (fun t ht hW => ⟨⟨nI 1, (), rfl, rfl, by rw [ht]; exact hP3, va_K.moved hW.alike hKK, by rw [hAe]; exact hD3⟩, by rw [hAe]; exact hS1.F ht⟩) hS1.2.2 dL_side_18
set_option maxHeartbeats 4000000 in
set_option maxRecDepth 100000 in
theorem kw_sideS (l : Launch) (hlt : l.stackTraces = false) (D : va_G) (cA : Nat → ClassId) (σ ρX : Nat → Nat) (v : Value) (μX : mm_U) (oA : Nat) (cL : ClassId) (lo : Nat → Int64) (s0 : Fo) (hR : RepF s0 μX 1) (J : Inv s0.1) (c0 : Ce) (hc : 0 < sd s0.1 c0) (y what : Int32) (sz sa : Nat) : Met l yL_side (Cond.codeWith yL_side cL_side 6 (some .int) [(0, 12, 15, 13)] :: mm_tb) { frames := 9, cells := 0, slots := 0, locals := 330 } (wrP D cA σ ρX v μX oA cL lo [.ref (ρX 0), .int (nI c0.val), .int y, .int what, .ref oA] sz sa) (wrQ D cA ρX v μX oA cL lo (vp_updL lo 0 (a_side s0.1 c0 y what).toInt64) sz (nI 0)) 0 0 (va_A (wW cA ρX v μX oA cL lo) sz) := by
  refine Met.ofWH (cc := cL_side) (maxL := 6) (ret := some .int) (hh := [(0, 12, 15, 13)]) (by decide +kernel) rfl ?_
  intro p e s m args below meth c s₁ B hml hv
  obtain ⟨rfl, hsz, hP, hKK, hD0, hZ, hNX⟩ := hv
  have hx := B.exec
  have hb := B.bytes
  have hr := B.returns
  have hlk : meth.locks = false := BodyLoose.notSynchronized B
  have hts0 := atoms_spec (ws := (Cond.codeWith yL_side cL_side 6 (some .int) [(0, 12, 15, 13)] :: mm_tb)) B.pre
  have hts : ∀ w ∈ mm_tb, w.before _ s = true := fun w hw => hts0 w (List.mem_cons_of_mem _ hw)
  have hown : s.vm.findClass RL = some m.cls := findClass_of_methodNamed B.named
  have htab : c.exceptionTable.toList = tableOf [(0, 12, 15, 13)] := vx_table (x := yL_side) B (hts0 _ List.mem_cons_self)
  subst hsz
  have hD := hD0.self (sz := s.heap.size)
  have hK : va_K D vwCl (mm_ty cA) s := hKK.sub [0, 1] rfl
  generalize hAe : va_A (wW cA ρX v μX oA cL lo) s.heap.size = A at hD hZ hNX
  have hA : ∀ q : Nat, s.heap.size ≤ q → A q := fun q h => by rw [← hAe]; exact Or.inr h
  have hS : va_S A s.heap s.heap [] := va_S.rf
  have hl := lv_entry ([.ref (ρX 0), .int (nI c0.val), .int y, .int what, .ref oA]) (n := 6) (Nat.le_of_ble_eq_true rfl)
  rw [lg_entry_eq]
  generalize (lg_sl ([.ref (ρX 0), .int (nI c0.val), .int y, .int what, .ref oA]) ++ List.replicate (6 - (lg_sl ([.ref (ρX 0), .int (nI c0.val), .int y, .int what, .ref oA])).length) Slot.unset).toArray = ls at hl ⊢
  have hl : lv_has ls 6 [(0, .ref (ρX 0)), (1, .int (nI c0.val)), (2, .int y), (3, .int what), (4, .ref oA)] := hl
  refine lv_aload hx hb dL_side_0 (lv_at hl 4 rfl) ?_
  refine lv_iconst (v := nI 0) hx hb dL_side_2 (by decide) ?_
  refine lv_aload_n hx hb dL_side_3 rfl (lv_at hl 0 rfl) ?_
  refine lv_iload_n hx hb dL_side_4 rfl (lv_at hl 1 rfl) ?_
  refine lv_iload_n hx hb dL_side_5 rfl (lv_at hl 2 rfl) ?_
  refine lv_iload_n hx hb dL_side_6 rfl (lv_at hl 3 rfl) ?_
  have hM := k_sideS l D cA σ ρX v μX s0 hR J c0 hc y what s.heap.size sa
  unfold ceQ at hM
  have q1 := ww_Pc (a := [lAr oA cL lo]) hP
  have q2 := ww_Dc (a := [lAr oA cL lo]) hD
  obtain ⟨hPx, hPr⟩ := ww_P q1
  obtain ⟨hDx, hDr, hap⟩ := ww_D q2
  have hF : ∀ q, va_A (wX cA ρX v μX) s.heap.size q → A q := fun q h => by
    rcases h with ⟨i, e', hi⟩ | hge
    · exact hDx.2 i (q, e') hi
    · exact hA _ hge
  have cw : CallB (headSpec (Cond.codeWith yL_side cL_side 6 (some .int) [(0, 12, 15, 13)] :: mm_tb) { frames := 9, cells := 0, slots := 0, locals := 330 }).room s _ RL 15 yX5_side cX5_side 5 (some .int) (Cond.code yX5_side cX5_side 5 (some .int) :: mm_tb) { frames := 8, cells := 0, slots := 0, locals := 300 } 0 0 3 := callB_of 3 hts (mm_gin cw_side_c) rfl rfl rfl (hts _ ic5) (hts _ cw_side_l) ⟨ne5.1, ne5.2, cw_side_d⟩ ⟨Nat.le_of_ble_eq_true rfl, Nat.le_of_ble_eq_true rfl⟩
  refine va_calli (va_runV (C := RX5) (b := ρX 0) (As := [.int (nI c0.val), .int y, .int what]) (rest := [.int (nI 0), .ref oA]) ⟨hx, hb, hml, hown, hts⟩ hM ⟨cw, hts _ cw_side_i, hts _ cw_side_s⟩ ⟨ceP_bl, va_recv hK hPx (ci := 5) (q0 := 0) rfl rfl, fun U hU hW => ⟨rfl, by rw [hU], by rw [hU]; exact hPx, va_K.moved hW.alike hK, hDx.weaken (fun _ _ _ _ => trivial), by rw [hU]; exact mm_Z.moved hW (mm_Z.kept hZ hS.1 hS.2.1 hF), by rw [hU]; exact (hNX.narrow hF).mv hW⟩⟩ rfl rfl hl.1 rfl (lv_room (Nat.le_of_ble_eq_true rfl)) dL_side_7 ⟨Nat.le_of_ble_eq_true rfl, Nat.le_of_ble_eq_true rfl⟩) hS (fun q _ h => hF q h) hF (fun r u t H1 locs1 ht hvm hw hB hz1 hk1 hS1 => ?_)
  obtain ⟨hP1, hK1, hD1⟩ := hB
  rw [ht] at hP1
  obtain ⟨hP2, hD2⟩ := ww_call q1 q2 hS hA hk1 hP1 hD1
  have hP3 := ww_Pc hP2
  have hD3 := ww_Dc hD2
  have hw : r = (a_side s0.1 c0 y what) := hw
  subst hw
  refine lv_i2l hx hb dL_side_10 rfl ?_
  refine va_last hx hb hKK hP3 hD3 hS1 0 2 rfl rfl (vp_in_nI (by omega) (by omega)) dL_side_11 (fun H2 locs2 hP4 hD4 hS4 => ?_)
  refine lv_goto (tgt := 19) hx hb dL_side_12 (by decide) ?_
  refine lv_iconst (v := nI 0) hx hb dL_side_19 (by decide) ?_
  exact W.iret (v := nI 0) hx hb hr (fun t ht hW => ⟨⟨nI 0, (), rfl, rfl, by rw [ht]; exact hP4, va_K.moved hW.alike hKK, by rw [hAe]; exact hD4⟩, by rw [hAe]; exact hS4.F ht⟩) hS4.2.2 dL_side_20
