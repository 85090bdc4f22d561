def meL (b : Nat) : List mm_Sc := [.inr (2, [some (.inl (b + 1)), some (.inl (b + 2)), some (.inl (b + 3)), some (.inl (b + 4)), some (.inl (b + 5)), some (.inl (b + 6)), some (.inl (b + 7)), some (.inl (b + 8))]), .inl (0, 288), .inl (0, 288), .inl (0, 288), .inl (0, 288), .inl (0, 288), .inl (0, 144), .inl (0, 48), .inl (0, 48)]
def diL (d : Nat) : List mm_Sc := [.inr (0, [some (.inl (d + 1)), some (.inl (d + 2)), some (.inl (d + 3)), none, none]), .inl (0, 30), .inl (0, 30), .inl (0, 30)]
set_option maxHeartbeats 4000000 in
set_option maxRecDepth 100000 in
theorem k_Mesh (l : Launch) (D : va_G) (cA : Nat → ClassId) (h0 sz : Nat) : Met l yX2_init (kw yX2_init cX2_init) { frames := 1, cells := 8, slots := 1680, locals := 12 } (kPc D cA h0 sz (.inr (2, [.null, .null, .null, .null, .null, .null, .null, .null])) (fun _ => True)) (kQ D cA h0 sz (.inr (2, [.null, .null, .null, .null, .null, .null, .null, .null])) 9 (shL (meL 0)) z0) 8 1680 (va_A [(h0, .inr (2, [.null, .null, .null, .null, .null, .null, .null, .null]))] sz) := by
  refine Met.ofWF (cc := cX2_init) (maxL := 1) (ret := none) (pl2 rfl) rfl ?_
  intro p e s m args below meth c s₁ B hml hv
  obtain ⟨rfl, hsz, hP, hK, hD0, _⟩ := hv
  have hx := B.exec
  have hb := B.bytes
  have hr := B.returns
  have hts0 := atoms_spec (ws := kw yX2_init cX2_init) B.pre
  have hts : ∀ w ∈ mm_tb, w.before _ s = true := fun w hw => hts0 w (List.mem_cons_of_mem _ hw)
  have hown : s.vm.findClass RX2 = some m.cls := findClass_of_methodNamed B.named
  have hin : meth.name = "<init>" := (name_of_methodNamed B.named B.method).1
  subst hsz
  have hD := hD0.self (sz := s.heap.size)
  generalize hAe : va_A [(h0, .inr (2, [.null, .null, .null, .null, .null, .null, .null, .null]))] s.heap.size = A at hD ⊢
  have hA : ∀ q : Nat, s.heap.size ≤ q → A q := fun q h => by rw [← hAe]; exact Or.inr h
  have hS : va_S A s.heap s.heap [] := va_S.rf
  have hl := lv_entry ([.ref h0]) (n := 1) (Nat.le_of_ble_eq_true rfl)
  rw [lg_entry_eq]
  generalize (lg_sl ([.ref h0]) ++ List.replicate (1 - (lg_sl ([.ref h0])).length) Slot.unset).toArray = ls at hl ⊢
  have hl : lv_has ls 1 [(0, .ref h0)] := hl
  refine lv_aload_n hx hb dX2_init_0 rfl (lv_at hl 0 rfl) ?_
  refine W.objInit hx hb hown (hts (.methodLink RX2 3 objectInit) (mm_t1 (mm_tq1 (List.mem_of_getElem? (i := 33) rfl)) rfl)) (hts _ oi_m) (hts _ oi_c) rfl (by rw [hml]; exact hl.1) rfl dX2_init_1 (Nat.le_of_ble_eq_true rfl) (Nat.le_of_ble_eq_true rfl) ?_
  refine W.eq (g2 := F0 m 4 ls []) rfl ?_
  refine lv_aload_n hx hb dX2_init_4 rfl (lv_at hl 0 rfl) ?_
  refine lv_sipush (v := nI 288) hx hb dX2_init_5 (by decide) ?_
  refine ct_arr (ci := 2) (k := 0) (ty0 := tyX2) hx hb hts hown hin hK hA rfl mm_uw2 tyX2_ok nmX2 (by decide) (mm_t1 (mm_tq1 (List.mem_of_getElem? (i := 34) rfl)) rfl) rfl rfl rfl (Nat.le_of_ble_eq_true rfl) (by decide) ⟨Nat.le_of_ble_eq_true rfl, Nat.le_of_ble_eq_true rfl⟩ dX2_init_8 dX2_init_10 hP hD hS (fun q1 H locs hP hD hS => ?_)
  refine lv_aload_n hx hb dX2_init_13 rfl (lv_at hl 0 rfl) ?_
  refine lv_sipush (v := nI 288) hx hb dX2_init_14 (by decide) ?_
  refine ct_arr (ci := 2) (k := 1) (ty0 := tyX2) hx hb hts hown hin hK hA rfl mm_uw2 tyX2_ok nmX2 (by decide) (mm_t1 (mm_tq1 (List.mem_of_getElem? (i := 37) rfl)) rfl) rfl rfl rfl (Nat.le_of_ble_eq_true rfl) (by decide) ⟨Nat.le_of_ble_eq_true rfl, Nat.le_of_ble_eq_true rfl⟩ dX2_init_17 dX2_init_19 hP hD hS (fun q2 H locs hP hD hS => ?_)
  refine lv_aload_n hx hb dX2_init_22 rfl (lv_at hl 0 rfl) ?_
  refine lv_sipush (v := nI 288) hx hb dX2_init_23 (by decide) ?_
  refine ct_arr (ci := 2) (k := 2) (ty0 := tyX2) hx hb hts hown hin hK hA rfl mm_uw2 tyX2_ok nmX2 (by decide) (mm_t1 (mm_tq1 (List.mem_of_getElem? (i := 39) rfl)) rfl) rfl rfl rfl (Nat.le_of_ble_eq_true rfl) (by decide) ⟨Nat.le_of_ble_eq_true rfl, Nat.le_of_ble_eq_true rfl⟩ dX2_init_26 dX2_init_28 hP hD hS (fun q3 H locs hP hD hS => ?_)
  refine lv_aload_n hx hb dX2_init_31 rfl (lv_at hl 0 rfl) ?_
  refine lv_sipush (v := nI 288) hx hb dX2_init_32 (by decide) ?_
  refine ct_arr (ci := 2) (k := 3) (ty0 := tyX2) hx hb hts hown hin hK hA rfl mm_uw2 tyX2_ok nmX2 (by decide) (mm_t1 (mm_tq1 (List.mem_of_getElem? (i := 40) rfl)) rfl) rfl rfl rfl (Nat.le_of_ble_eq_true rfl) (by decide) ⟨Nat.le_of_ble_eq_true rfl, Nat.le_of_ble_eq_true rfl⟩ dX2_init_35 dX2_init_37 hP hD hS (fun q4 H locs hP hD hS => ?_)
  refine lv_aload_n hx hb dX2_init_40 rfl (lv_at hl 0 rfl) ?_
  refine lv_sipush (v := nI 288) hx hb dX2_init_41 (by decide) ?_
  refine ct_arr (ci := 2) (k := 4) (ty0 := tyX2) hx hb hts hown hin hK hA rfl mm_uw2 tyX2_ok nmX2 (by decide) (mm_t1 (mm_tq1 (List.mem_of_getElem? (i := 43) rfl)) rfl) rfl rfl rfl (Nat.le_of_ble_eq_true rfl) (by decide) ⟨Nat.le_of_ble_eq_true rfl, Nat.le_of_ble_eq_true rfl⟩ dX2_init_44 dX2_init_46 hP hD hS (fun q5 H locs hP hD hS => ?_)
  refine lv_aload_n hx hb dX2_init_49 rfl (lv_at hl 0 rfl) ?_
  refine lv_sipush (v := nI 144) hx hb dX2_init_50 (by decide) ?_
  refine ct_arr (ci := 2) (k := 5) (ty0 := tyX2) hx hb hts hown hin hK hA rfl mm_uw2 tyX2_ok nmX2 (by decide) (mm_t1 (mm_tq1 (List.mem_of_getElem? (i := 46) rfl)) rfl) rfl rfl rfl (Nat.le_of_ble_eq_true rfl) (by decide) ⟨Nat.le_of_ble_eq_true rfl, Nat.le_of_ble_eq_true rfl⟩ dX2_init_53 dX2_init_55 hP hD hS (fun q6 H locs hP hD hS => ?_)
  refine lv_aload_n hx hb dX2_init_58 rfl (lv_at hl 0 rfl) ?_
  refine lv_bipush (v := nI 48) hx hb dX2_init_59 (by decide) ?_
  refine ct_arr (ci := 2) (k := 6) (ty0 := tyX2) hx hb hts hown hin hK hA rfl mm_uw2 tyX2_ok nmX2 (by decide) (mm_t1 (mm_tq1 (List.mem_of_getElem? (i := 49) rfl)) rfl) rfl rfl rfl (Nat.le_of_ble_eq_true rfl) (by decide) ⟨Nat.le_of_ble_eq_true rfl, Nat.le_of_ble_eq_true rfl⟩ dX2_init_61 dX2_init_63 hP hD hS (fun q7 H locs hP hD hS => ?_)
  refine lv_aload_n hx hb dX2_init_66 rfl (lv_at hl 0 rfl) ?_
  refine lv_bipush (v := nI 48) hx hb dX2_init_67 (by decide) ?_
  refine ct_arr (ci := 2) (k := 7) (ty0 := tyX2) hx hb hts hown hin hK hA rfl mm_uw2 tyX2_ok nmX2 (by decide) (mm_t1 (mm_tq1 (List.mem_of_getElem? (i := 54) rfl)) rfl) rfl rfl rfl (Nat.le_of_ble_eq_true rfl) (by decide) ⟨Nat.le_of_ble_eq_true rfl, Nat.le_of_ble_eq_true rfl⟩ dX2_init_69 dX2_init_71 hP hD hS (fun q8 H locs hP hD hS => ?_)
  refine W.widen (k := 8) (n := 1680) (Nat.le_of_ble_eq_true rfl) (Nat.le_of_ble_eq_true rfl) ?_
  exact W.vret hx hb hr (fun t ht hW => ⟨⟨(fun a => [h0, q1, q2, q3, q4, q5, q6, q7, q8].getD a 0), rfl, rfl, by rw [ht]; exact hP, va_K.moved hW.alike hK, by rw [hAe]; exact hD⟩, by rw [hAe]; exact hS.F ht⟩) hS.2.2 dX2_init_74
set_option maxHeartbeats 4000000 in
set_option maxRecDepth 100000 in
theorem k_Diary (l : Launch) (D : va_G) (cA : Nat → ClassId) (h0 sz : Nat) : Met l yX0_init (kw yX0_init cX0_init) { frames := 1, cells := 3, slots := 90, locals := 12 } (kPc D cA h0 sz (.inr (0, [.null, .null, .null, .int (nI 0), .int (nI 0)])) (fun _ => True)) (kQ D cA h0 sz (.inr (0, [.null, .null, .null, .int (nI 0), .int (nI 0)])) 4 (shL (diL 0)) z0) 3 90 (va_A [(h0, .inr (0, [.null, .null, .null, .int (nI 0), .int (nI 0)]))] sz) := by
  refine Met.ofWF (cc := cX0_init) (maxL := 1) (ret := none) (pl0 rfl) rfl ?_
  intro p e s m args below meth c s₁ B hml hv
  obtain ⟨rfl, hsz, hP, hK, hD0, _⟩ := hv
  have hx := B.exec
  have hb := B.bytes
  have hr := B.returns
  have hts0 := atoms_spec (ws := kw yX0_init cX0_init) B.pre
  have hts : ∀ w ∈ mm_tb, w.before _ s = true := fun w hw => hts0 w (List.mem_cons_of_mem _ hw)
  have hown : s.vm.findClass RX0 = some m.cls := findClass_of_methodNamed B.named
  have hin : meth.name = "<init>" := (name_of_methodNamed B.named B.method).1
  subst hsz
  have hD := hD0.self (sz := s.heap.size)
  generalize hAe : va_A [(h0, .inr (0, [.null, .null, .null, .int (nI 0), .int (nI 0)]))] s.heap.size = A at hD ⊢
  have hA : ∀ q : Nat, s.heap.size ≤ q → A q := fun q h => by rw [← hAe]; exact Or.inr h
  have hS : va_S A s.heap s.heap [] := va_S.rf
  have hl := lv_entry ([.ref h0]) (n := 1) (Nat.le_of_ble_eq_true rfl)
  rw [lg_entry_eq]
  generalize (lg_sl ([.ref h0]) ++ List.replicate (1 - (lg_sl ([.ref h0])).length) Slot.unset).toArray = ls at hl ⊢
  have hl : lv_has ls 1 [(0, .ref h0)] := hl
  refine lv_aload_n hx hb dX0_init_0 rfl (lv_at hl 0 rfl) ?_
  refine W.objInit hx hb hown (hts (.methodLink RX0 3 objectInit) (mm_t1 (mm_tq1 (List.mem_of_getElem? (i := 80) rfl)) rfl)) (hts _ oi_m) (hts _ oi_c) rfl (by rw [hml]; exact hl.1) rfl dX0_init_1 (Nat.le_of_ble_eq_true rfl) (Nat.le_of_ble_eq_true rfl) ?_
  refine W.eq (g2 := F0 m 4 ls []) rfl ?_
  refine lv_aload_n hx hb dX0_init_4 rfl (lv_at hl 0 rfl) ?_
  refine lv_bipush (v := nI 30) hx hb dX0_init_5 (by decide) ?_
  refine ct_arr (ci := 0) (k := 0) (ty0 := tyX0) hx hb hts hown hin hK hA rfl mm_uw0 tyX0_ok nmX0 (by decide) (mm_t1 (mm_tq1 (List.mem_of_getElem? (i := 81) rfl)) rfl) rfl rfl rfl (Nat.le_of_ble_eq_true rfl) (by decide) ⟨Nat.le_of_ble_eq_true rfl, Nat.le_of_ble_eq_true rfl⟩ dX0_init_7 dX0_init_9 hP hD hS (fun q1 H locs hP hD hS => ?_)
  refine lv_aload_n hx hb dX0_init_12 rfl (lv_at hl 0 rfl) ?_
  refine lv_bipush (v := nI 30) hx hb dX0_init_13 (by decide) ?_
  refine ct_arr (ci := 0) (k := 1) (ty0 := tyX0) hx hb hts hown hin hK hA rfl mm_uw0 tyX0_ok nmX0 (by decide) (mm_t1 (mm_tq1 (List.mem_of_getElem? (i := 82) rfl)) rfl) rfl rfl rfl (Nat.le_of_ble_eq_true rfl) (by decide) ⟨Nat.le_of_ble_eq_true rfl, Nat.le_of_ble_eq_true rfl⟩ dX0_init_15 dX0_init_17 hP hD hS (fun q2 H locs hP hD hS => ?_)
  refine lv_aload_n hx hb dX0_init_20 rfl (lv_at hl 0 rfl) ?_
  refine lv_bipush (v := nI 30) hx hb dX0_init_21 (by decide) ?_
  refine ct_arr (ci := 0) (k := 2) (ty0 := tyX0) hx hb hts hown hin hK hA rfl mm_uw0 tyX0_ok nmX0 (by decide) (mm_t1 (mm_tq1 (List.mem_of_getElem? (i := 83) rfl)) rfl) rfl rfl rfl (Nat.le_of_ble_eq_true rfl) (by decide) ⟨Nat.le_of_ble_eq_true rfl, Nat.le_of_ble_eq_true rfl⟩ dX0_init_23 dX0_init_25 hP hD hS (fun q3 H locs hP hD hS => ?_)
  refine W.widen (k := 3) (n := 90) (Nat.le_of_ble_eq_true rfl) (Nat.le_of_ble_eq_true rfl) ?_
  exact W.vret hx hb hr (fun t ht hW => ⟨⟨(fun a => [h0, q1, q2, q3].getD a 0), rfl, rfl, by rw [ht]; exact hP, va_K.moved hW.alike hK, by rw [hAe]; exact hD⟩, by rw [hAe]; exact hS.F ht⟩) hS.2.2 dX0_init_28
set_option maxHeartbeats 4000000 in
set_option maxRecDepth 100000 in
theorem k_Ways (l : Launch) (D : va_G) (cA : Nat → ClassId) (h0 sz : Nat) : Met l yX4_init (kw yX4_init cX4_init) { frames := 1, cells := 4, slots := 2496, locals := 12 } (kPc D cA h0 sz (.inr (4, [.null, .null, .null, .null, .int (nI 0), .int (nI 0), .int (nI 0), .int (nI 0)])) (fun _ => True)) (kQ D cA h0 sz (.inr (4, [.null, .null, .null, .null, .int (nI 0), .int (nI 0), .int (nI 0), .int (nI 0)])) 5 (shL (waL 0)) z0) 4 2496 (va_A [(h0, .inr (4, [.null, .null, .null, .null, .int (nI 0), .int (nI 0), .int (nI 0), .int (nI 0)]))] sz) := by
  refine Met.ofWF (cc := cX4_init) (maxL := 1) (ret := none) (pl4 rfl) rfl ?_
  intro p e s m args below meth c s₁ B hml hv
  obtain ⟨rfl, hsz, hP, hK, hD0, _⟩ := hv
  have hx := B.exec
  have hb := B.bytes
  have hr := B.returns
  have hts0 := atoms_spec (ws := kw yX4_init cX4_init) B.pre
  have hts : ∀ w ∈ mm_tb, w.before _ s = true := fun w hw => hts0 w (List.mem_cons_of_mem _ hw)
  have hown : s.vm.findClass RX4 = some m.cls := findClass_of_methodNamed B.named
  have hin : meth.name = "<init>" := (name_of_methodNamed B.named B.method).1
  subst hsz
  have hD := hD0.self (sz := s.heap.size)
  generalize hAe : va_A [(h0, .inr (4, [.null, .null, .null, .null, .int (nI 0), .int (nI 0), .int (nI 0), .int (nI 0)]))] s.heap.size = A at hD ⊢
  have hA : ∀ q : Nat, s.heap.size ≤ q → A q := fun q h => by rw [← hAe]; exact Or.inr h
  have hS : va_S A s.heap s.heap [] := va_S.rf
  have hl := lv_entry ([.ref h0]) (n := 1) (Nat.le_of_ble_eq_true rfl)
  rw [lg_entry_eq]
  generalize (lg_sl ([.ref h0]) ++ List.replicate (1 - (lg_sl ([.ref h0])).length) Slot.unset).toArray = ls at hl ⊢
  have hl : lv_has ls 1 [(0, .ref h0)] := hl
  refine lv_aload_n hx hb dX4_init_0 rfl (lv_at hl 0 rfl) ?_
  refine W.objInit hx hb hown (hts (.methodLink RX4 3 objectInit) (mm_t1 (mm_tq1 (List.mem_of_getElem? (i := 168) rfl)) rfl)) (hts _ oi_m) (hts _ oi_c) rfl (by rw [hml]; exact hl.1) rfl dX4_init_1 (Nat.le_of_ble_eq_true rfl) (Nat.le_of_ble_eq_true rfl) ?_
  refine W.eq (g2 := F0 m 4 ls []) rfl ?_
  refine lv_aload_n hx hb dX4_init_4 rfl (lv_at hl 0 rfl) ?_
  refine lv_bipush (v := nI 48) hx hb dX4_init_5 (by decide) ?_
  refine ct_arr (ci := 4) (k := 0) (ty0 := tyX4) hx hb hts hown hin hK hA rfl mm_uw4 tyX4_ok nmX4 (by decide) (mm_t1 (mm_tq1 (List.mem_of_getElem? (i := 169) rfl)) rfl) rfl rfl rfl (Nat.le_of_ble_eq_true rfl) (by decide) ⟨Nat.le_of_ble_eq_true rfl, Nat.le_of_ble_eq_true rfl⟩ dX4_init_7 dX4_init_9 hP hD hS (fun q1 H locs hP hD hS => ?_)
  refine lv_aload_n hx hb dX4_init_12 rfl (lv_at hl 0 rfl) ?_
  refine lv_sipush (v := nI 1200) hx hb dX4_init_13 (by decide) ?_
  refine ct_arr (ci := 4) (k := 1) (ty0 := tyX4) hx hb hts hown hin hK hA rfl mm_uw4 tyX4_ok nmX4 (by decide) (mm_t1 (mm_tq1 (List.mem_of_getElem? (i := 171) rfl)) rfl) rfl rfl rfl (Nat.le_of_ble_eq_true rfl) (by decide) ⟨Nat.le_of_ble_eq_true rfl, Nat.le_of_ble_eq_true rfl⟩ dX4_init_16 dX4_init_18 hP hD hS (fun q2 H locs hP hD hS => ?_)
  refine lv_aload_n hx hb dX4_init_21 rfl (lv_at hl 0 rfl) ?_
  refine lv_sipush (v := nI 1200) hx hb dX4_init_22 (by decide) ?_
  refine ct_arr (ci := 4) (k := 2) (ty0 := tyX4) hx hb hts hown hin hK hA rfl mm_uw4 tyX4_ok nmX4 (by decide) (mm_t1 (mm_tq1 (List.mem_of_getElem? (i := 173) rfl)) rfl) rfl rfl rfl (Nat.le_of_ble_eq_true rfl) (by decide) ⟨Nat.le_of_ble_eq_true rfl, Nat.le_of_ble_eq_true rfl⟩ dX4_init_25 dX4_init_27 hP hD hS (fun q3 H locs hP hD hS => ?_)
  refine lv_aload_n hx hb dX4_init_30 rfl (lv_at hl 0 rfl) ?_
  refine lv_bipush (v := nI 48) hx hb dX4_init_31 (by decide) ?_
  refine ct_arr (ci := 4) (k := 3) (ty0 := tyX4) hx hb hts hown hin hK hA rfl mm_uw4 tyX4_ok nmX4 (by decide) (mm_t1 (mm_tq1 (List.mem_of_getElem? (i := 174) rfl)) rfl) rfl rfl rfl (Nat.le_of_ble_eq_true rfl) (by decide) ⟨Nat.le_of_ble_eq_true rfl, Nat.le_of_ble_eq_true rfl⟩ dX4_init_33 dX4_init_35 hP hD hS (fun q4 H locs hP hD hS => ?_)
  refine W.widen (k := 4) (n := 2496) (Nat.le_of_ble_eq_true rfl) (Nat.le_of_ble_eq_true rfl) ?_
  exact W.vret hx hb hr (fun t ht hW => ⟨⟨(fun a => [h0, q1, q2, q3, q4].getD a 0), rfl, rfl, by rw [ht]; exact hP, va_K.moved hW.alike hK, by rw [hAe]; exact hD⟩, by rw [hAe]; exact hS.F ht⟩) hS.2.2 dX4_init_38
