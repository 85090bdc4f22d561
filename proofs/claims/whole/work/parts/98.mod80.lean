theorem pdI0 : (parseMethodDescriptor "()V").map (fun d => d.parameters.length) = some 0 := by decide +kernel
def μF : mm_U := mu z0 0 (upd (z0 0) 5 (nI 1))
def NwF (U : State) : Prop := va_Nw (.methodLinkNest RX1 11 yX2_init "FoamCells") U ∧ va_Nw (.methodLinkNest RX1 20 yX0_init "FoamCells") U
theorem NwF.mv {s U : State} (h : NwF s) (hW : s.WarmedH U.vm) : NwF U := ⟨va_Nw.warmM hW h.1, va_Nw.warmM hW h.2⟩
def foR (h0 q3 : Nat) (ρ1 ρ2 : Nat → Nat) : Nat → Nat := fun a => if a = 0 then h0 else if a < 10 then ρ1 (a - 1) else if a < 14 then ρ2 (a - 10) else q3
set_option maxHeartbeats 4000000 in
set_option maxRecDepth 100000 in
theorem k_Foam (l : Launch) (D : va_G) (cA : Nat → ClassId) (h0 sz : Nat) : Met l yX1_init (kw yX1_init cX1_init) { frames := 2, cells := 14, slots := 1787, locals := 32 } (kPc D cA h0 sz (.inr (1, [.null, .null, .null, .int (nI 0), .int (nI 0), .int (nI 0), .int (nI 0), .int (nI 0), .int (nI 0), .int (nI 0), .int (nI 0)])) NwF) (kQ D cA h0 sz (.inr (1, [.null, .null, .null, .int (nI 0), .int (nI 0), .int (nI 0), .int (nI 0), .int (nI 0), .int (nI 0), .int (nI 0), .int (nI 0)])) 15 (shL (foL 0)) μF) 14 1787 (va_A [(h0, .inr (1, [.null, .null, .null, .int (nI 0), .int (nI 0), .int (nI 0), .int (nI 0), .int (nI 0), .int (nI 0), .int (nI 0), .int (nI 0)]))] sz) := by
  refine Met.ofWF (cc := cX1_init) (maxL := 1) (ret := none) (pl1 rfl) rfl ?_
  intro p e s m args below meth c s₁ B hml hv
  obtain ⟨rfl, hsz, hP, hK, hD0, hN⟩ := hv
  have hx := B.exec
  have hb := B.bytes
  have hr := B.returns
  have hts0 := atoms_spec (ws := kw yX1_init cX1_init) B.pre
  have hts : ∀ w ∈ mm_tb, w.before _ s = true := fun w hw => hts0 w (List.mem_cons_of_mem _ hw)
  have hown : s.vm.findClass RX1 = some m.cls := findClass_of_methodNamed B.named
  have hin : meth.name = "<init>" := (name_of_methodNamed B.named B.method).1
  subst hsz
  have hD := hD0.self (sz := s.heap.size)
  generalize hAe : va_A [(h0, .inr (1, [.null, .null, .null, .int (nI 0), .int (nI 0), .int (nI 0), .int (nI 0), .int (nI 0), .int (nI 0), .int (nI 0), .int (nI 0)]))] s.heap.size = A at hD ⊢
  have hA : ∀ q : Nat, s.heap.size ≤ q → A q := fun q h => by rw [← hAe]; exact Or.inr h
  have hS : va_S A s.heap s.heap [] := va_S.rf
  have hl := lv_entry ([.ref h0]) (n := 1) (Nat.le_of_ble_eq_true rfl)
  rw [lg_entry_eq]
  generalize (lg_sl ([.ref h0]) ++ List.replicate (1 - (lg_sl ([.ref h0])).length) Slot.unset).toArray = ls at hl ⊢
  have hl : lv_has ls 1 [(0, .ref h0)] := hl
  refine lv_aload_n hx hb dX1_init_0 rfl (lv_at hl 0 rfl) ?_
  refine W.objInit hx hb hown (hts (.methodLink RX1 3 objectInit) (mm_t1 (mm_tq1 (List.mem_of_getElem? (i := 27) rfl)) rfl)) (hts _ oi_m) (hts _ oi_c) rfl (by rw [hml]; exact hl.1) rfl dX1_init_1 (Nat.le_of_ble_eq_true rfl) (Nat.le_of_ble_eq_true rfl) ?_
  refine W.eq (g2 := F0 m 4 ls []) rfl ?_
  refine lv_aload_n hx hb dX1_init_4 rfl (lv_at hl 0 rfl) ?_
  refine ct_new (ci := 1) (k := 0) (ty0 := tyX1) (ty2 := tyX2) (ci2 := 2) (fs2 := [.null, .null, .null, .null, .null, .null, .null, .null]) (rest := []) hx hb hml hts hown hin hK hA rfl mm_uw1 tyX1_ok nmX1 (by decide) (mm_t1 (mm_tq1 (List.mem_of_getElem? (i := 98) rfl)) rfl) rfl rfl rfl (Nat.le_of_ble_eq_true rfl) rfl mm_uw2 tyX2_ok (fun j hj => by
    have : j = 0 ∨ j = 1 ∨ j = 2 ∨ j = 3 ∨ j = 4 ∨ j = 5 ∨ j = 6 ∨ j = 7 := by omega
    rcases this with rfl | rfl | rfl | rfl | rfl | rfl | rfl | rfl <;> rfl) (mm_t1 (mm_tq1 (List.mem_of_getElem? (i := 28) rfl)) rfl) (mm_t1 (mm_tq1 (List.mem_of_getElem? (i := 29) rfl)) rfl) ic2 rfl rfl ne2 pdI0 (mm_t1 (mm_tq1 (List.mem_of_getElem? (i := 31) rfl)) rfl) (mm_t1 (mm_tq1 (List.mem_of_getElem? (i := 32) rfl)) rfl) hN.1 (k_Mesh l D cA) (fun _ _ => trivial) (fun _ _ _ _ _ => trivial) ⟨Nat.le_of_ble_eq_true rfl, Nat.le_of_ble_eq_true rfl⟩ rfl rfl ⟨Nat.le_of_ble_eq_true rfl, Nat.le_of_ble_eq_true rfl⟩ hl.1 (Nat.le_of_ble_eq_true rfl) dX1_init_5 dX1_init_8 dX1_init_9 dX1_init_12 hP hD hS (fun ρ1 H locs hP hD hS => ?_)
  refine lv_aload_n hx hb dX1_init_15 rfl (lv_at hl 0 rfl) ?_
  refine ct_new (ci := 1) (k := 1) (ty0 := tyX1) (ty2 := tyX0) (ci2 := 0) (fs2 := [.null, .null, .null, .int (nI 0), .int (nI 0)]) (rest := []) hx hb hml hts hown hin hK hA rfl mm_uw1 tyX1_ok nmX1 (by decide) (mm_t1 (mm_tq1 (List.mem_of_getElem? (i := 101) rfl)) rfl) rfl rfl rfl (Nat.le_of_ble_eq_true rfl) rfl mm_uw0 tyX0_ok (fun j hj => by
    have : j = 0 ∨ j = 1 ∨ j = 2 ∨ j = 3 ∨ j = 4 := by omega
    rcases this with rfl | rfl | rfl | rfl | rfl <;> rfl) (mm_t1 (mm_tq1 (List.mem_of_getElem? (i := 75) rfl)) rfl) (mm_t1 (mm_tq1 (List.mem_of_getElem? (i := 76) rfl)) rfl) ic0 rfl rfl ne0 pdI0 (mm_t1 (mm_tq1 (List.mem_of_getElem? (i := 78) rfl)) rfl) (mm_t1 (mm_tq1 (List.mem_of_getElem? (i := 79) rfl)) rfl) hN.2 (k_Diary l D cA) (fun _ _ => trivial) (fun _ _ _ _ _ => trivial) ⟨Nat.le_of_ble_eq_true rfl, Nat.le_of_ble_eq_true rfl⟩ rfl rfl ⟨Nat.le_of_ble_eq_true rfl, Nat.le_of_ble_eq_true rfl⟩ hl.1 (Nat.le_of_ble_eq_true rfl) dX1_init_16 dX1_init_19 dX1_init_20 dX1_init_23 hP hD hS (fun ρ2 H locs hP hD hS => ?_)
  refine lv_aload_n hx hb dX1_init_26 rfl (lv_at hl 0 rfl) ?_
  refine lv_iconst (v := nI 4) hx hb dX1_init_27 (by decide) ?_
  refine ct_arr (ci := 1) (k := 2) (ty0 := tyX1) hx hb hts hown hin hK hA rfl mm_uw1 tyX1_ok nmX1 (by decide) (mm_t1 (mm_tq1 (List.mem_of_getElem? (i := 103) rfl)) rfl) rfl rfl rfl (Nat.le_of_ble_eq_true rfl) (by decide) ⟨Nat.le_of_ble_eq_true rfl, Nat.le_of_ble_eq_true rfl⟩ dX1_init_28 dX1_init_30 hP hD hS (fun q3 H locs hP hD hS => ?_)
  refine lv_aload_n hx hb dX1_init_33 rfl (lv_at hl 0 rfl) ?_
  refine lv_iconst (v := nI 1) hx hb dX1_init_34 (by decide) ?_
  refine va_put (ci := 1) (v := .int (nI 1)) (ty := .int) (C := RX1) (T := TX1) (N := 11) (ref := RX1) hx hb hts mm_uw1 tyX1 tyX1_ok nmX1 hown hK hP hD hS 0 rfl rfl 5 (by decide) (hts _ (mm_t1 (mm_tq1 (List.mem_of_getElem? (i := 109) rfl)) rfl)) (fun _ h9 => h9) rfl (tyX1_ok 5 (by decide)) rfl rfl (Nat.le_of_ble_eq_true rfl) dX1_init_35 (fun H locs hP hD hS => ?_)
  refine W.widen (k := 14) (n := 1787) (Nat.le_of_ble_eq_true rfl) (Nat.le_of_ble_eq_true rfl) ?_
  exact W.vret hx hb hr (fun t ht hW => ⟨⟨foR h0 q3 ρ1 ρ2, rfl, rfl, by rw [ht]; exact hP, va_K.moved hW.alike hK, by rw [hAe]; exact hD⟩, by rw [hAe]; exact hS.F ht⟩) hS.2.2 dX1_init_38
def NwP (U : State) : Prop := va_Nw (.methodLinkNest RX3 11 yX1_init "FoamCells") U ∧ NwF U
theorem NwP.mv {s U : State} (h : NwP s) (hW : s.WarmedH U.vm) : NwP U := ⟨va_Nw.warmM hW h.1, h.2.mv hW⟩
def μP : mm_U := mu z0 1 (upd (z0 1) 5 (nI 1))
def paR (h0 : Nat) (ρ1 : Nat → Nat) : Nat → Nat := fun a => if a = 0 then h0 else ρ1 (a - 1)
set_option maxHeartbeats 4000000 in
set_option maxRecDepth 100000 in
theorem k_Paper (l : Launch) (D : va_G) (cA : Nat → ClassId) (h0 sz : Nat) : Met l yX3_init (kw yX3_init cX3_init) { frames := 3, cells := 15, slots := 1798, locals := 52 } (kPc D cA h0 sz (.inr (3, [.null, .int (nI 0)])) NwP) (kQ D cA h0 sz (.inr (3, [.null, .int (nI 0)])) 16 (shL (paL 0)) μP) 15 1798 (va_A [(h0, .inr (3, [.null, .int (nI 0)]))] sz) := by
  refine Met.ofWF (cc := cX3_init) (maxL := 1) (ret := none) (pl3 rfl) rfl ?_
  intro p e s m args below meth c s₁ B hml hv
  obtain ⟨rfl, hsz, hP, hK, hD0, hN⟩ := hv
  have hx := B.exec
  have hb := B.bytes
  have hr := B.returns
  have hts0 := atoms_spec (ws := kw yX3_init cX3_init) B.pre
  have hts : ∀ w ∈ mm_tb, w.before _ s = true := fun w hw => hts0 w (List.mem_cons_of_mem _ hw)
  have hown : s.vm.findClass RX3 = some m.cls := findClass_of_methodNamed B.named
  have hin : meth.name = "<init>" := (name_of_methodNamed B.named B.method).1
  subst hsz
  have hD := hD0.self (sz := s.heap.size)
  generalize hAe : va_A [(h0, .inr (3, [.null, .int (nI 0)]))] s.heap.size = A at hD ⊢
  have hA : ∀ q : Nat, s.heap.size ≤ q → A q := fun q h => by rw [← hAe]; exact Or.inr h
  have hS : va_S A s.heap s.heap [] := va_S.rf
  have hl := lv_entry ([.ref h0]) (n := 1) (Nat.le_of_ble_eq_true rfl)
  rw [lg_entry_eq]
  generalize (lg_sl ([.ref h0]) ++ List.replicate (1 - (lg_sl ([.ref h0])).length) Slot.unset).toArray = ls at hl ⊢
  have hl : lv_has ls 1 [(0, .ref h0)] := hl
  refine lv_aload_n hx hb dX3_init_0 rfl (lv_at hl 0 rfl) ?_
  refine W.objInit hx hb hown (hts (.methodLink RX3 3 objectInit) (mm_t1 (mm_tq1 (List.mem_of_getElem? (i := 151) rfl)) rfl)) (hts _ oi_m) (hts _ oi_c) rfl (by rw [hml]; exact hl.1) rfl dX3_init_1 (Nat.le_of_ble_eq_true rfl) (Nat.le_of_ble_eq_true rfl) ?_
  refine W.eq (g2 := F0 m 4 ls []) rfl ?_
  refine lv_aload_n hx hb dX3_init_4 rfl (lv_at hl 0 rfl) ?_
  refine ct_new (ci := 3) (k := 0) (ty0 := tyX3) (ty2 := tyX1) (ci2 := 1) (fs2 := [.null, .null, .null, .int (nI 0), .int (nI 0), .int (nI 0), .int (nI 0), .int (nI 0), .int (nI 0), .int (nI 0), .int (nI 0)]) (rest := []) hx hb hml hts hown hin hK hA rfl mm_uw3 tyX3_ok nmX3 (by decide) (mm_t1 (mm_tq1 (List.mem_of_getElem? (i := 154) rfl)) rfl) rfl rfl rfl (Nat.le_of_ble_eq_true rfl) rfl mm_uw1 tyX1_ok (fun j hj => by
    have : j = 0 ∨ j = 1 ∨ j = 2 ∨ j = 3 ∨ j = 4 ∨ j = 5 ∨ j = 6 ∨ j = 7 ∨ j = 8 ∨ j = 9 ∨ j = 10 := by omega
    rcases this with rfl | rfl | rfl | rfl | rfl | rfl | rfl | rfl | rfl | rfl | rfl <;> rfl) (mm_t1 (mm_tq1 (List.mem_of_getElem? (i := 152) rfl)) rfl) (mm_t1 (mm_tq1 (List.mem_of_getElem? (i := 23) rfl)) rfl) ic1 rfl rfl ne1 pdI0 (mm_t1 (mm_tq1 (List.mem_of_getElem? (i := 25) rfl)) rfl) (mm_t1 (mm_tq1 (List.mem_of_getElem? (i := 26) rfl)) rfl) hN.1 (k_Foam l D cA) (fun U hW => hN.2.mv hW) (fun U g mk a h => h.mv (U := U.calling g mk a) (State.WarmedH.refl U)) ⟨Nat.le_of_ble_eq_true rfl, Nat.le_of_ble_eq_true rfl⟩ rfl rfl ⟨Nat.le_of_ble_eq_true rfl, Nat.le_of_ble_eq_true rfl⟩ hl.1 (Nat.le_of_ble_eq_true rfl) dX3_init_5 dX3_init_8 dX3_init_9 dX3_init_12 hP hD hS (fun ρ1 H locs hP hD hS => ?_)
  refine W.widen (k := 15) (n := 1798) (Nat.le_of_ble_eq_true rfl) (Nat.le_of_ble_eq_true rfl) ?_
  exact W.vret hx hb hr (fun t ht hW => ⟨⟨paR h0 ρ1, rfl, rfl, by rw [ht]; exact hP, va_K.moved hW.alike hK, by rw [hAe]; exact hD⟩, by rw [hAe]; exact hS.F ht⟩) hS.2.2 dX3_init_15
