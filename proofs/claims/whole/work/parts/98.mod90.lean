/-! ===== FoamCells.cell and FoamCells.side ===== -/
abbrev wX (cA : Nat → ClassId) (ρX : Nat → Nat) (v : Value) (μX : mm_U) : va_W := mm_w 37 ρX cA (shL (xL v)) μX
def ceP (D : va_G) (cA : Nat → ClassId) (σ ρX : Nat → Nat) (v : Value) (μX : mm_U) (as : List Value) (sz sa : Nat) : Array Value → State → Prop := va_Pc (.ref (ρX 0) :: as) (fun U => U.heap.size = sz ∧ va_P D vwCl (wX cA ρX v μX) U.heap ∧ va_K D vwCl (mm_ty cA) U ∧ va_D (fun _ => True) (wX cA ρX v μX) ∧ mm_Z σ (va_A (wX cA ρX v μX) sz) U U.heap ∧ NXw sa (va_A (wX cA ρX v μX) sz) U U.heap)
def ceB (D : va_G) (cA : Nat → ClassId) (ρX : Nat → Nat) (v : Value) (μX : mm_U) (A : Nat → Prop) (t : State) : Prop := va_P D vwCl (wX cA ρX v μX) t.heap ∧ va_K D vwCl (mm_ty cA) t ∧ va_D A (wX cA ρX v μX)
def ceX (D : va_G) (cA : Nat → ClassId) (ρX : Nat → Nat) (v : Value) (μX : mm_U) (sz : Nat) : String → State → State → Prop := vx_X (fun (_ : Unit) => True) (fun E _ t => E = nE ∧ ceB D cA ρX v μX (va_A (wX cA ρX v μX) sz) t) (va_A (wX cA ρX v μX) sz)
def ceQ (D : va_G) (cA : Nat → ClassId) (ρX : Nat → Nat) (v : Value) (μX : mm_U) (sz : Nat) (P : Int32 → Prop) : Array Value → State → Outcome → State → Prop := va_Qi (fun r (_ : Unit) => P r) (fun _ t => ceB D cA ρX v μX (va_A (wX cA ρX v μX) sz) t) (va_A (wX cA ρX v μX) sz)
theorem pdc2 : (parseMethodDescriptor "(I)I").map (fun d => d.parameters.length + 1) = some 2 := by decide +kernel
theorem vX_130 : mm_VK RX5 130 zX2_border := ⟨okX2_border, (mm_t1 (mm_tq4 (List.mem_of_getElem? (i := 180) rfl)) rfl), (mm_t1 (mm_tq4 (List.mem_of_getElem? (i := 181) rfl)) rfl), (mm_t1 (mm_tq4 (List.mem_of_getElem? (i := 182) rfl)) rfl), ⟨_, rfl, rfl⟩, pdc2⟩
theorem vX_133 : mm_VK RX5 133 zX2_sidesAbout := ⟨okX2_sidesAbout, (mm_t1 (mm_tq4 (List.mem_of_getElem? (i := 184) rfl)) rfl), (mm_t1 (mm_tq4 (List.mem_of_getElem? (i := 185) rfl)) rfl), (mm_t1 (mm_tq4 (List.mem_of_getElem? (i := 186) rfl)) rfl), ⟨_, rfl, rfl⟩, pdc2⟩
theorem vX_136 : mm_VK RX5 136 zX2_unlikeAbout := ⟨okX2_unlikeAbout, (mm_t1 (mm_tq4 (List.mem_of_getElem? (i := 188) rfl)) rfl), (mm_t1 (mm_tq4 (List.mem_of_getElem? (i := 189) rfl)) rfl), (mm_t1 (mm_tq4 (List.mem_of_getElem? (i := 190) rfl)) rfl), ⟨_, rfl, rfl⟩, pdc2⟩
theorem vX_142 : mm_VK RX5 142 zX2_across := ⟨okX2_across, (mm_t1 (mm_tq4 (List.mem_of_getElem? (i := 200) rfl)) rfl), (mm_t1 (mm_tq2 (List.mem_of_getElem? (i := 90) rfl)) rfl), (mm_t1 (mm_tq2 (List.mem_of_getElem? (i := 91) rfl)) rfl), ⟨_, rfl, rfl⟩, pdc2⟩
set_option maxHeartbeats 4000000 in
set_option maxRecDepth 100000 in
theorem k_cellX (l : Launch) (hlt : l.stackTraces = false) (D : va_G) (cA : Nat → ClassId) (σ ρX : Nat → Nat) (v : Value) (μX : mm_U) (s0 : Fo) (hR : RepF s0 μX 1) (J : Inv s0.1) (x what : Int32) (hn : ceO s0.1 x = none) (sz sa : Nat) : vx_Met l yX5_cell (Cond.code yX5_cell cX5_cell 3 (some .int) :: mm_tb) { frames := 8, cells := 1, slots := 6, locals := 300 } (ceP D cA σ ρX v μX [.int x, .int what] sz sa) (ceQ D cA ρX v μX sz (fun _ => False)) (ceX D cA ρX v μX sz) 1 6 (va_A (wX cA ρX v μX) sz) := by
  refine vx_ofW (cc := cX5_cell) (maxL := 3) (ret := some .int) (by decide +kernel) rfl ?_
  intro p e s m args below meth c s₁ B hml hnt hv
  obtain ⟨rfl, hsz, hP, hK, hD0, hZ, hNX⟩ := hv
  have hx := B.exec
  have hb := B.bytes
  have hr := B.returns
  have hlk : meth.locks = false := BodyLoose.notSynchronized B
  have hts0 := atoms_spec (ws := Cond.code yX5_cell cX5_cell 3 (some .int) :: mm_tb) B.pre
  have hts : ∀ w ∈ mm_tb, w.before _ s = true := fun w hw => hts0 w (List.mem_cons_of_mem _ hw)
  have hown : s.vm.findClass RX5 = some m.cls := findClass_of_methodNamed B.named
  subst hsz
  have hD := hD0.self (sz := s.heap.size)
  have S : MeshSh (shL (xL v)) 2 := (shX_fo v).2.1
  generalize hAe : va_A (wX cA ρX v μX) s.heap.size = A at hD hZ hNX
  have hA : ∀ q : Nat, s.heap.size ≤ q → A q := fun q h => by rw [← hAe]; exact Or.inr h
  have hS : va_S A s.heap s.heap [] := va_S.rf
  have hl := lv_entry ([.ref (ρX 0), .int x, .int what]) (n := 3) (Nat.le_of_ble_eq_true rfl)
  rw [lg_entry_eq]
  generalize (lg_sl ([.ref (ρX 0), .int x, .int what]) ++ List.replicate (3 - (lg_sl ([.ref (ρX 0), .int x, .int what])).length) Slot.unset).toArray = ls at hl ⊢
  have hl : lv_has ls 3 [(0, .ref (ρX 0)), (1, .int x), (2, .int what)] := hl
  refine lv_aload_n hx hb dX5_cell_0 rfl (lv_at hl 0 rfl) ?_
  refine va_get (ci := 5) (v := .ref (ρX 1)) (C := RX5) (T := TX5) (N := 4) (ref := RX5) hx hb hts mm_uw5 hown hK hP 0 rfl rfl 0 (by decide) (hts _ (mm_t1 (mm_tq1 (List.mem_of_getElem? (i := 237) rfl)) rfl)) (fun _ h9 => h9) rfl dX5_cell_1 ?_
  refine va_get (ci := 1) (v := .ref (ρX 2)) (C := RX1) (T := TX1) (N := 11) (ref := RX1) hx hb hts mm_uw1 hown hK hP 1 rfl rfl 0 (by decide) (hts _ (mm_t1 (mm_tq1 (List.mem_of_getElem? (i := 100) rfl)) rfl)) (fun _ h9 => h9) rfl dX5_cell_4 ?_
  refine lv_iload_n hx hb dX5_cell_7 rfl (lv_at hl 1 rfl) ?_
  refine mm_goV (own := RX5) (idx := 50) (z := zX2_hasCell) (a := 2) (as := [.int x]) (rest := []) (ρ := ρX) (σ := σ) (R := []) ⟨hx, hb, hml, hts, hown, hK, hA, hZ⟩ (mm_LK.vk lk5_50) (svX v) (show cl _ _ _ _ (fun r μ' => r = some (.int (nI 0)) ∧ μ' = μX) by rw [c_hasCellN S hR.1 hn]; exact ⟨rfl, rfl⟩) rfl rfl rfl (by decide) ⟨by decide, by decide⟩ ⟨Nat.le_of_ble_eq_true rfl, Nat.le_of_ble_eq_true rfl⟩ hl.1 (Nat.le_of_ble_eq_true rfl) dX5_cell_8 (by rw [List.append_nil]; exact hP) (by rw [List.append_nil]; exact hD) hS (fun r μ' H1 locs1 hq hP hD hS => ?_)
  obtain ⟨rfl, hμ⟩ := hq
  rw [hμ, List.append_nil] at hP hD
  refine lv_if_ne (tgt := 24) hx hb dX5_cell_11 (by decide) (fun q => absurd rfl q) (fun _ => ?_)
  refine nx_throw hx hb hlt hown hts hNX hS (hl.1.trans hml.symm) dX5_cell_14 dX5_cell_17 dX5_cell_18 dX5_cell_20 dX5_cell_23 hnt (Nat.le_of_ble_eq_true rfl) (Nat.le_of_ble_eq_true rfl) (Nat.le_of_ble_eq_true rfl) (Nat.le_of_ble_eq_true rfl) hlk (fun t hv h1 h2 => ⟨(), trivial, ⟨rfl, hP.kept (fun k q hk => h2 q.1 (hP k q hk).lt), va_K.moved hv hK, by rw [hAe]; exact hD⟩, ?_⟩) hS.2.2 (Nat.le_refl _) (Nat.le_refl _)
  rw [hAe]
  exact ⟨Nat.le_trans hS.1 h1, fun q q1 q2 => by rw [h2 q (Nat.lt_of_lt_of_le q1 hS.1)]; exact hS.2.1 q q1 q2⟩
set_option maxHeartbeats 4000000 in
set_option maxRecDepth 100000 in
theorem k_sideX (l : Launch) (hlt : l.stackTraces = false) (D : va_G) (cA : Nat → ClassId) (σ ρX : Nat → Nat) (v : Value) (μX : mm_U) (s0 : Fo) (hR : RepF s0 μX 1) (J : Inv s0.1) (x y what : Int32) (hn : ceO s0.1 x = none) (sz sa : Nat) : vx_Met l yX5_side (Cond.code yX5_side cX5_side 5 (some .int) :: mm_tb) { frames := 8, cells := 1, slots := 6, locals := 300 } (ceP D cA σ ρX v μX [.int x, .int y, .int what] sz sa) (ceQ D cA ρX v μX sz (fun _ => False)) (ceX D cA ρX v μX sz) 1 6 (va_A (wX cA ρX v μX) sz) := by
  refine vx_ofW (cc := cX5_side) (maxL := 5) (ret := some .int) (by decide +kernel) rfl ?_
  intro p e s m args below meth c s₁ B hml hnt hv
  obtain ⟨rfl, hsz, hP, hK, hD0, hZ, hNX⟩ := hv
  have hx := B.exec
  have hb := B.bytes
  have hr := B.returns
  have hlk : meth.locks = false := BodyLoose.notSynchronized B
  have hts0 := atoms_spec (ws := Cond.code yX5_side cX5_side 5 (some .int) :: mm_tb) B.pre
  have hts : ∀ w ∈ mm_tb, w.before _ s = true := fun w hw => hts0 w (List.mem_cons_of_mem _ hw)
  have hown : s.vm.findClass RX5 = some m.cls := findClass_of_methodNamed B.named
  subst hsz
  have hD := hD0.self (sz := s.heap.size)
  have S : MeshSh (shL (xL v)) 2 := (shX_fo v).2.1
  generalize hAe : va_A (wX cA ρX v μX) s.heap.size = A at hD hZ hNX
  have hA : ∀ q : Nat, s.heap.size ≤ q → A q := fun q h => by rw [← hAe]; exact Or.inr h
  have hS : va_S A s.heap s.heap [] := va_S.rf
  have hl := lv_entry ([.ref (ρX 0), .int x, .int y, .int what]) (n := 5) (Nat.le_of_ble_eq_true rfl)
  rw [lg_entry_eq]
  generalize (lg_sl ([.ref (ρX 0), .int x, .int y, .int what]) ++ List.replicate (5 - (lg_sl ([.ref (ρX 0), .int x, .int y, .int what])).length) Slot.unset).toArray = ls at hl ⊢
  have hl : lv_has ls 5 [(0, .ref (ρX 0)), (1, .int x), (2, .int y), (3, .int what)] := hl
  refine lv_aload_n hx hb dX5_side_0 rfl (lv_at hl 0 rfl) ?_
  refine va_get (ci := 5) (v := .ref (ρX 1)) (C := RX5) (T := TX5) (N := 4) (ref := RX5) hx hb hts mm_uw5 hown hK hP 0 rfl rfl 0 (by decide) (hts _ (mm_t1 (mm_tq1 (List.mem_of_getElem? (i := 237) rfl)) rfl)) (fun _ h9 => h9) rfl dX5_side_1 ?_
  refine va_get (ci := 1) (v := .ref (ρX 2)) (C := RX1) (T := TX1) (N := 11) (ref := RX1) hx hb hts mm_uw1 hown hK hP 1 rfl rfl 0 (by decide) (hts _ (mm_t1 (mm_tq1 (List.mem_of_getElem? (i := 100) rfl)) rfl)) (fun _ h9 => h9) rfl dX5_side_4 ?_
  refine lv_iload_n hx hb dX5_side_7 rfl (lv_at hl 1 rfl) ?_
  refine mm_goV (own := RX5) (idx := 50) (z := zX2_hasCell) (a := 2) (as := [.int x]) (rest := []) (ρ := ρX) (σ := σ) (R := []) ⟨hx, hb, hml, hts, hown, hK, hA, hZ⟩ (mm_LK.vk lk5_50) (svX v) (show cl _ _ _ _ (fun r μ' => r = some (.int (nI 0)) ∧ μ' = μX) by rw [c_hasCellN S hR.1 hn]; exact ⟨rfl, rfl⟩) rfl rfl rfl (by decide) ⟨by decide, by decide⟩ ⟨Nat.le_of_ble_eq_true rfl, Nat.le_of_ble_eq_true rfl⟩ hl.1 (Nat.le_of_ble_eq_true rfl) dX5_side_8 (by rw [List.append_nil]; exact hP) (by rw [List.append_nil]; exact hD) hS (fun r μ' H1 locs1 hq hP hD hS => ?_)
  obtain ⟨rfl, hμ⟩ := hq
  rw [hμ, List.append_nil] at hP hD
  refine lv_if_ne (tgt := 24) hx hb dX5_side_11 (by decide) (fun q => absurd rfl q) (fun _ => ?_)
  refine nx_throw hx hb hlt hown hts hNX hS (hl.1.trans hml.symm) dX5_side_14 dX5_side_17 dX5_side_18 dX5_side_20 dX5_side_23 hnt (Nat.le_of_ble_eq_true rfl) (Nat.le_of_ble_eq_true rfl) (Nat.le_of_ble_eq_true rfl) (Nat.le_of_ble_eq_true rfl) hlk (fun t hv h1 h2 => ⟨(), trivial, ⟨rfl, hP.kept (fun k q hk => h2 q.1 (hP k q hk).lt), va_K.moved hv hK, by rw [hAe]; exact hD⟩, ?_⟩) hS.2.2 (Nat.le_refl _) (Nat.le_refl _)
  rw [hAe]
  exact ⟨Nat.le_trans hS.1 h1, fun q q1 q2 => by rw [h2 q (Nat.lt_of_lt_of_le q1 hS.1)]; exact hS.2.1 q q1 q2⟩
set_option maxHeartbeats 4000000 in
set_option maxRecDepth 100000 in
theorem k_cellS (l : Launch) (D : va_G) (cA : Nat → ClassId) (σ ρX : Nat → Nat) (v : Value) (μX : mm_U) (s0 : Fo) (hR : RepF s0 μX 1) (J : Inv s0.1) (c0 : Ce) (hc : 0 < sd s0.1 c0) (what : Int32) (sz sa : Nat) : Met l yX5_cell (Cond.code yX5_cell cX5_cell 3 (some .int) :: mm_tb) { frames := 8, cells := 0, slots := 0, locals := 300 } (ceP D cA σ ρX v μX [.int (nI c0.val), .int what] sz sa) (ceQ D cA ρX v μX sz (fun r => r = a_cell s0.1 c0 what)) 0 0 (va_A (wX cA ρX v μX) sz) := by
  refine Met.ofWF (cc := cX5_cell) (maxL := 3) (ret := some .int) (pl5 rfl) rfl ?_
  intro p e s m args below meth c s₁ B hml hv
  obtain ⟨rfl, hsz, hP, hK, hD0, hZ, hNX⟩ := hv
  have hx := B.exec
  have hb := B.bytes
  have hr := B.returns
  have hlk : meth.locks = false := BodyLoose.notSynchronized B
  have hts0 := atoms_spec (ws := Cond.code yX5_cell cX5_cell 3 (some .int) :: mm_tb) B.pre
  have hts : ∀ w ∈ mm_tb, w.before _ s = true := fun w hw => hts0 w (List.mem_cons_of_mem _ hw)
  have hown : s.vm.findClass RX5 = some m.cls := findClass_of_methodNamed B.named
  subst hsz
  have hD := hD0.self (sz := s.heap.size)
  have S : MeshSh (shL (xL v)) 2 := (shX_fo v).2.1
  generalize hAe : va_A (wX cA ρX v μX) s.heap.size = A at hD hZ hNX
  have hA : ∀ q : Nat, s.heap.size ≤ q → A q := fun q h => by rw [← hAe]; exact Or.inr h
  have hS : va_S A s.heap s.heap [] := va_S.rf
  have hl := lv_entry ([.ref (ρX 0), .int (nI c0.val), .int what]) (n := 3) (Nat.le_of_ble_eq_true rfl)
  rw [lg_entry_eq]
  generalize (lg_sl ([.ref (ρX 0), .int (nI c0.val), .int what]) ++ List.replicate (3 - (lg_sl ([.ref (ρX 0), .int (nI c0.val), .int what])).length) Slot.unset).toArray = ls at hl ⊢
  have hl : lv_has ls 3 [(0, .ref (ρX 0)), (1, .int (nI c0.val)), (2, .int what)] := hl
  refine lv_aload_n hx hb dX5_cell_0 rfl (lv_at hl 0 rfl) ?_
  refine va_get (ci := 5) (v := .ref (ρX 1)) (C := RX5) (T := TX5) (N := 4) (ref := RX5) hx hb hts mm_uw5 hown hK hP 0 rfl rfl 0 (by decide) (hts _ (mm_t1 (mm_tq1 (List.mem_of_getElem? (i := 237) rfl)) rfl)) (fun _ h9 => h9) rfl dX5_cell_1 ?_
  refine va_get (ci := 1) (v := .ref (ρX 2)) (C := RX1) (T := TX1) (N := 11) (ref := RX1) hx hb hts mm_uw1 hown hK hP 1 rfl rfl 0 (by decide) (hts _ (mm_t1 (mm_tq1 (List.mem_of_getElem? (i := 100) rfl)) rfl)) (fun _ h9 => h9) rfl dX5_cell_4 ?_
  refine lv_iload_n hx hb dX5_cell_7 rfl (lv_at hl 1 rfl) ?_
  refine mm_goV (own := RX5) (idx := 50) (z := zX2_hasCell) (a := 2) (as := [.int (nI c0.val)]) (rest := []) (ρ := ρX) (σ := σ) (R := []) ⟨hx, hb, hml, hts, hown, hK, hA, hZ⟩ (mm_LK.vk lk5_50) (svX v) (show cl _ _ _ _ (fun r μ' => r = some (.int (nI 1)) ∧ μ' = μX) by rw [c_hasCellS S hR.1 J.sdb hc]; exact ⟨rfl, rfl⟩) rfl rfl rfl (by decide) ⟨by decide, by decide⟩ ⟨Nat.le_of_ble_eq_true rfl, Nat.le_of_ble_eq_true rfl⟩ hl.1 (Nat.le_of_ble_eq_true rfl) dX5_cell_8 (by rw [List.append_nil]; exact hP) (by rw [List.append_nil]; exact hD) hS (fun r μ' H1 locs1 hq hP hD hS => ?_)
  obtain ⟨rfl, hμ⟩ := hq
  rw [hμ, List.append_nil] at hP hD
  refine lv_if_ne (tgt := 24) hx hb dX5_cell_11 (by decide) (fun _ => ?_) (fun q => absurd q (by decide))
  refine lv_iload_n hx hb dX5_cell_24 rfl (lv_at hl 2 rfl) ?_
  have cl0 := nI_clamp (show c0.val < 2147483648 by have := c0.isLt; omega)
  have r7 : μX 9 c0.val = nI (sd s0.1 c0) := hR.1.2.2.2.1 c0
  have r8 : μX 10 c0.val = ar s0.1 c0 := hR.1.2.2.2.2 c0 hc
  by_cases w0 : what = nI 0
  · subst w0
    refine lv_tableIn (tgt := 64) hx hb dX5_cell_25 (by decide) (by decide) rfl (by decide) ?_
    refine lv_aload_n hx hb dX5_cell_64 rfl (lv_at hl 0 rfl) ?_
    refine va_get (ci := 5) (v := .ref (ρX 1)) (C := RX5) (T := TX5) (N := 4) (ref := RX5) hx hb hts mm_uw5 hown hK hP 0 rfl rfl 0 (by decide) (hts _ (mm_t1 (mm_tq1 (List.mem_of_getElem? (i := 237) rfl)) rfl)) (fun _ h9 => h9) rfl dX5_cell_65 ?_
    refine va_get (ci := 1) (v := .ref (ρX 2)) (C := RX1) (T := TX1) (N := 11) (ref := RX1) hx hb hts mm_uw1 hown hK hP 1 rfl rfl 0 (by decide) (hts _ (mm_t1 (mm_tq1 (List.mem_of_getElem? (i := 100) rfl)) rfl)) (fun _ h9 => h9) rfl dX5_cell_68 ?_
    refine va_get (ci := 2) (v := .ref (ρX 9)) (C := RX2) (T := TX2) (N := 8) (ref := RX2) hx hb hts mm_uw2 hown hK hP 2 rfl rfl 6 (by decide) (hts _ (mm_t1 (mm_tq1 (List.mem_of_getElem? (i := 53) rfl)) rfl)) (fun _ h9 => h9) rfl dX5_cell_71 ?_
    refine lv_iload_n hx hb dX5_cell_74 rfl (lv_at hl 1 rfl) ?_
    refine va_iald hx hb hK hP 9 0 rfl rfl (vp_in_nI c0.isLt (by omega)) dX5_cell_75 ?_
    rw [cl0, r7]
    exact W.iret (v := (nI (sd s0.1 c0))) hx hb hr (fun t ht hW => ⟨⟨(nI (sd s0.1 c0)), (), rfl, (show _ = a_cell s0.1 c0 (nI 0) by unfold a_cell; rw [if_pos rfl]), by rw [ht]; exact hP, va_K.moved hW.alike hK, by rw [hAe]; exact hD⟩, by rw [hAe]; exact hS.F ht⟩) hS.2.2 dX5_cell_76
  · have _u := 0
    by_cases w1 : what = nI 1
    · subst w1
      refine lv_tableIn (tgt := 77) hx hb dX5_cell_25 (by decide) (by decide) rfl (by decide) ?_
      refine lv_aload_n hx hb dX5_cell_77 rfl (lv_at hl 0 rfl) ?_
      refine va_get (ci := 5) (v := .ref (ρX 1)) (C := RX5) (T := TX5) (N := 4) (ref := RX5) hx hb hts mm_uw5 hown hK hP 0 rfl rfl 0 (by decide) (hts _ (mm_t1 (mm_tq1 (List.mem_of_getElem? (i := 237) rfl)) rfl)) (fun _ h9 => h9) rfl dX5_cell_78 ?_
      refine va_get (ci := 1) (v := .ref (ρX 2)) (C := RX1) (T := TX1) (N := 11) (ref := RX1) hx hb hts mm_uw1 hown hK hP 1 rfl rfl 0 (by decide) (hts _ (mm_t1 (mm_tq1 (List.mem_of_getElem? (i := 100) rfl)) rfl)) (fun _ h9 => h9) rfl dX5_cell_81 ?_
      refine va_get (ci := 2) (v := .ref (ρX 10)) (C := RX2) (T := TX2) (N := 8) (ref := RX2) hx hb hts mm_uw2 hown hK hP 2 rfl rfl 7 (by decide) (hts _ (mm_t1 (mm_tq1 (List.mem_of_getElem? (i := 55) rfl)) rfl)) (fun _ h9 => h9) rfl dX5_cell_84 ?_
      refine lv_iload_n hx hb dX5_cell_87 rfl (lv_at hl 1 rfl) ?_
      refine va_iald hx hb hK hP 10 0 rfl rfl (vp_in_nI c0.isLt (by omega)) dX5_cell_88 ?_
      rw [cl0, r8]
      exact W.iret (v := (ar s0.1 c0)) hx hb hr (fun t ht hW => ⟨⟨(ar s0.1 c0), (), rfl, (show _ = a_cell s0.1 c0 (nI 1) by unfold a_cell; rw [if_neg (by decide)]; rw [if_pos rfl]), by rw [ht]; exact hP, va_K.moved hW.alike hK, by rw [hAe]; exact hD⟩, by rw [hAe]; exact hS.F ht⟩) hS.2.2 dX5_cell_89
    · have _u := 0
      by_cases w2 : what = nI 2
      · subst w2
        refine lv_tableIn (tgt := 90) hx hb dX5_cell_25 (by decide) (by decide) rfl (by decide) ?_
        refine lv_bipush (v := nI 6) hx hb dX5_cell_90 (by decide) ?_
        refine lv_aload_n hx hb dX5_cell_92 rfl (lv_at hl 0 rfl) ?_
        refine va_get (ci := 5) (v := .ref (ρX 1)) (C := RX5) (T := TX5) (N := 4) (ref := RX5) hx hb hts mm_uw5 hown hK hP 0 rfl rfl 0 (by decide) (hts _ (mm_t1 (mm_tq1 (List.mem_of_getElem? (i := 237) rfl)) rfl)) (fun _ h9 => h9) rfl dX5_cell_93 ?_
        refine va_get (ci := 1) (v := .ref (ρX 2)) (C := RX1) (T := TX1) (N := 11) (ref := RX1) hx hb hts mm_uw1 hown hK hP 1 rfl rfl 0 (by decide) (hts _ (mm_t1 (mm_tq1 (List.mem_of_getElem? (i := 100) rfl)) rfl)) (fun _ h9 => h9) rfl dX5_cell_96 ?_
        refine va_get (ci := 2) (v := .ref (ρX 9)) (C := RX2) (T := TX2) (N := 8) (ref := RX2) hx hb hts mm_uw2 hown hK hP 2 rfl rfl 6 (by decide) (hts _ (mm_t1 (mm_tq1 (List.mem_of_getElem? (i := 53) rfl)) rfl)) (fun _ h9 => h9) rfl dX5_cell_99 ?_
        refine lv_iload_n hx hb dX5_cell_102 rfl (lv_at hl 1 rfl) ?_
        refine va_iald hx hb hK hP 9 0 rfl rfl (vp_in_nI c0.isLt (by omega)) dX5_cell_103 ?_
        rw [cl0, r7]
        refine lv_isub hx hb dX5_cell_104 ?_
        exact W.iret (v := (nI 6 - nI (sd s0.1 c0))) hx hb hr (fun t ht hW => ⟨⟨(nI 6 - nI (sd s0.1 c0)), (), rfl, (show _ = a_cell s0.1 c0 (nI 2) by unfold a_cell; rw [if_neg (by decide)]; rw [if_neg (by decide)]; rw [if_pos rfl]), by rw [ht]; exact hP, va_K.moved hW.alike hK, by rw [hAe]; exact hD⟩, by rw [hAe]; exact hS.F ht⟩) hS.2.2 dX5_cell_105
      · have _u := 0
        by_cases w3 : what = nI 3
        · subst w3
          refine lv_tableIn (tgt := 106) hx hb dX5_cell_25 (by decide) (by decide) rfl (by decide) ?_
          refine lv_aload_n hx hb dX5_cell_106 rfl (lv_at hl 0 rfl) ?_
          refine va_get (ci := 5) (v := .ref (ρX 1)) (C := RX5) (T := TX5) (N := 4) (ref := RX5) hx hb hts mm_uw5 hown hK hP 0 rfl rfl 0 (by decide) (hts _ (mm_t1 (mm_tq1 (List.mem_of_getElem? (i := 237) rfl)) rfl)) (fun _ h9 => h9) rfl dX5_cell_107 ?_
          refine va_get (ci := 1) (v := .ref (ρX 2)) (C := RX1) (T := TX1) (N := 11) (ref := RX1) hx hb hts mm_uw1 hown hK hP 1 rfl rfl 0 (by decide) (hts _ (mm_t1 (mm_tq1 (List.mem_of_getElem? (i := 100) rfl)) rfl)) (fun _ h9 => h9) rfl dX5_cell_110 ?_
          refine lv_iload_n hx hb dX5_cell_113 rfl (lv_at hl 1 rfl) ?_
          refine mm_goV (own := RX5) (idx := 130) (z := zX2_border) (a := 2) (as := [.int (nI c0.val)]) (rest := []) (ρ := ρX) (σ := σ) (R := []) ⟨hx, hb, hml, hts, hown, hK, hA, hZ⟩ vX_130 (svX v) (show cl _ _ _ _ (fun r μ' => r = some (.int (sH s0.1 c0 (fun h => ln s0.1 (wl h)))) ∧ μ' = μX) by rw [c_border S hR.1 c0]; exact ⟨rfl, rfl⟩) rfl rfl rfl (by decide) ⟨by decide, by decide⟩ ⟨Nat.le_of_ble_eq_true rfl, Nat.le_of_ble_eq_true rfl⟩ hl.1 (Nat.le_of_ble_eq_true rfl) dX5_cell_114 (by rw [List.append_nil]; exact hP) (by rw [List.append_nil]; exact hD) hS (fun r μ' H1 locs1 hq hP hD hS => ?_)
          obtain ⟨rfl, hμ⟩ := hq
          rw [hμ, List.append_nil] at hP hD
          exact W.iret (v := (sH s0.1 c0 (fun h => ln s0.1 (wl h)))) hx hb hr (fun t ht hW => ⟨⟨(sH s0.1 c0 (fun h => ln s0.1 (wl h))), (), rfl, (show _ = a_cell s0.1 c0 (nI 3) by unfold a_cell; rw [if_neg (by decide)]; rw [if_neg (by decide)]; rw [if_neg (by decide)]; rw [if_pos rfl]), by rw [ht]; exact hP, va_K.moved hW.alike hK, by rw [hAe]; exact hD⟩, by rw [hAe]; exact hS.F ht⟩) hS.2.2 dX5_cell_117
        · have _u := 0
          by_cases w4 : what = nI 4
          · subst w4
            refine lv_tableIn (tgt := 118) hx hb dX5_cell_25 (by decide) (by decide) rfl (by decide) ?_
            refine lv_aload_n hx hb dX5_cell_118 rfl (lv_at hl 0 rfl) ?_
            refine va_get (ci := 5) (v := .ref (ρX 1)) (C := RX5) (T := TX5) (N := 4) (ref := RX5) hx hb hts mm_uw5 hown hK hP 0 rfl rfl 0 (by decide) (hts _ (mm_t1 (mm_tq1 (List.mem_of_getElem? (i := 237) rfl)) rfl)) (fun _ h9 => h9) rfl dX5_cell_119 ?_
            refine va_get (ci := 1) (v := .ref (ρX 2)) (C := RX1) (T := TX1) (N := 11) (ref := RX1) hx hb hts mm_uw1 hown hK hP 1 rfl rfl 0 (by decide) (hts _ (mm_t1 (mm_tq1 (List.mem_of_getElem? (i := 100) rfl)) rfl)) (fun _ h9 => h9) rfl dX5_cell_122 ?_
            refine lv_iload_n hx hb dX5_cell_125 rfl (lv_at hl 1 rfl) ?_
            refine mm_goV (own := RX5) (idx := 133) (z := zX2_sidesAbout) (a := 2) (as := [.int (nI c0.val)]) (rest := []) (ρ := ρX) (σ := σ) (R := []) ⟨hx, hb, hml, hts, hown, hK, hA, hZ⟩ vX_133 (svX v) (show cl _ _ _ _ (fun r μ' => r = some (.int (sH s0.1 c0 (fun h => nI (sd s0.1 (ow s0.1 (tw h)))))) ∧ μ' = μX) by rw [c_sidesAbout S hR.1 c0]; exact ⟨rfl, rfl⟩) rfl rfl rfl (by decide) ⟨by decide, by decide⟩ ⟨Nat.le_of_ble_eq_true rfl, Nat.le_of_ble_eq_true rfl⟩ hl.1 (Nat.le_of_ble_eq_true rfl) dX5_cell_126 (by rw [List.append_nil]; exact hP) (by rw [List.append_nil]; exact hD) hS (fun r μ' H1 locs1 hq hP hD hS => ?_)
            obtain ⟨rfl, hμ⟩ := hq
            rw [hμ, List.append_nil] at hP hD
            exact W.iret (v := (sH s0.1 c0 (fun h => nI (sd s0.1 (ow s0.1 (tw h)))))) hx hb hr (fun t ht hW => ⟨⟨(sH s0.1 c0 (fun h => nI (sd s0.1 (ow s0.1 (tw h))))), (), rfl, (show _ = a_cell s0.1 c0 (nI 4) by unfold a_cell; rw [if_neg (by decide)]; rw [if_neg (by decide)]; rw [if_neg (by decide)]; rw [if_neg (by decide)]; rw [if_pos rfl]), by rw [ht]; exact hP, va_K.moved hW.alike hK, by rw [hAe]; exact hD⟩, by rw [hAe]; exact hS.F ht⟩) hS.2.2 dX5_cell_129
          · have _u := 0
            by_cases w5 : what = nI 5
            · subst w5
              refine lv_tableIn (tgt := 130) hx hb dX5_cell_25 (by decide) (by decide) rfl (by decide) ?_
              refine lv_aload_n hx hb dX5_cell_130 rfl (lv_at hl 0 rfl) ?_
              refine va_get (ci := 5) (v := .ref (ρX 1)) (C := RX5) (T := TX5) (N := 4) (ref := RX5) hx hb hts mm_uw5 hown hK hP 0 rfl rfl 0 (by decide) (hts _ (mm_t1 (mm_tq1 (List.mem_of_getElem? (i := 237) rfl)) rfl)) (fun _ h9 => h9) rfl dX5_cell_131 ?_
              refine va_get (ci := 1) (v := .ref (ρX 2)) (C := RX1) (T := TX1) (N := 11) (ref := RX1) hx hb hts mm_uw1 hown hK hP 1 rfl rfl 0 (by decide) (hts _ (mm_t1 (mm_tq1 (List.mem_of_getElem? (i := 100) rfl)) rfl)) (fun _ h9 => h9) rfl dX5_cell_134 ?_
              refine lv_iload_n hx hb dX5_cell_137 rfl (lv_at hl 1 rfl) ?_
              refine mm_goV (own := RX5) (idx := 136) (z := zX2_unlikeAbout) (a := 2) (as := [.int (nI c0.val)]) (rest := []) (ρ := ρX) (σ := σ) (R := []) ⟨hx, hb, hml, hts, hown, hK, hA, hZ⟩ vX_136 (svX v) (show cl _ _ _ _ (fun r μ' => r = some (.int (unl s0.1 c0)) ∧ μ' = μX) by rw [c_unlikeAbout S hR.1 c0]; exact ⟨rfl, rfl⟩) rfl rfl rfl (by decide) ⟨by decide, by decide⟩ ⟨Nat.le_of_ble_eq_true rfl, Nat.le_of_ble_eq_true rfl⟩ hl.1 (Nat.le_of_ble_eq_true rfl) dX5_cell_138 (by rw [List.append_nil]; exact hP) (by rw [List.append_nil]; exact hD) hS (fun r μ' H1 locs1 hq hP hD hS => ?_)
              obtain ⟨rfl, hμ⟩ := hq
              rw [hμ, List.append_nil] at hP hD
              exact W.iret (v := (unl s0.1 c0)) hx hb hr (fun t ht hW => ⟨⟨(unl s0.1 c0), (), rfl, (show _ = a_cell s0.1 c0 (nI 5) by unfold a_cell; rw [if_neg (by decide)]; rw [if_neg (by decide)]; rw [if_neg (by decide)]; rw [if_neg (by decide)]; rw [if_neg (by decide)]; rw [if_pos rfl]), by rw [ht]; exact hP, va_K.moved hW.alike hK, by rw [hAe]; exact hD⟩, by rw [hAe]; exact hS.F ht⟩) hS.2.2 dX5_cell_141
            · have _u := 0
              have hts9 : what.toInt < 0 ∨ 5 < what.toInt := by
                rcases Int.lt_or_le what.toInt 0 with q | q
                · exact Or.inl q
                · rcases Int.lt_or_le 5 what.toInt with q2 | q2
                  · exact Or.inr q2
                  · exfalso
                    have hh : ∀ j : Nat, j < 6 → what.toInt = j → what = nI j := fun j hj e => Int32.toInt_inj.mp (by rw [e, nI_toInt (by omega)])
                    have : what.toInt = 0 ∨ what.toInt = 1 ∨ what.toInt = 2 ∨ what.toInt = 3 ∨ what.toInt = 4 ∨ what.toInt = 5 := by omega
                    rcases this with e | e | e | e | e | e
                    · exact w0 (hh 0 (by omega) e)
                    · exact w1 (hh 1 (by omega) e)
                    · exact w2 (hh 2 (by omega) e)
                    · exact w3 (hh 3 (by omega) e)
                    · exact w4 (hh 4 (by omega) e)
                    · exact w5 (hh 5 (by omega) e)
              refine lv_tableOut (tgt := 142) hx hb dX5_cell_25 hts9 (by decide) ?_
              refine lv_ldc (v := -2147483648) hx hb hown (hts _ (mm_t1 (mm_tq3 (List.mem_of_getElem? (i := 126) rfl)) rfl)) dX5_cell_142 ?_
              exact W.iret (v := (-2147483648)) hx hb hr (fun t ht hW => ⟨⟨(-2147483648), (), rfl, (show _ = a_cell s0.1 c0 what by unfold a_cell; rw [if_neg w0, if_neg w1, if_neg w2, if_neg w3, if_neg w4, if_neg w5]), by rw [ht]; exact hP, va_K.moved hW.alike hK, by rw [hAe]; exact hD⟩, by rw [hAe]; exact hS.F ht⟩) hS.2.2 dX5_cell_144
