theorem mm_LK.vk {o idx : Nat} {z : mm_Y} (h : mm_LK o idx true z) : mm_VK (mm_cn o) idx z := by
  obtain ⟨a, b, q⟩ := h
  rw [if_pos rfl] at q
  exact ⟨a, b, q.1, q.2.1, q.2.2.1, q.2.2.2⟩
def NwX (U : State) : Prop := va_Nw (.methodLinkNest RX5 9 yX1_init "FoamCells") U ∧ va_Nw (.methodLinkNest RX5 18 yX3_init "FoamCells") U ∧ va_Nw (.methodLinkNest RX5 25 yX4_init "FoamCells") U ∧ NwP U ∧ va_AO "FoamCells$Foam" U
theorem NwX.mv {s U : State} (h : NwX s) (hW : s.WarmedH U.vm) : NwX U := ⟨va_Nw.warmM hW h.1, va_Nw.warmM hW h.2.1, va_Nw.warmM hW h.2.2.1, h.2.2.2.1.mv hW, h.2.2.2.2.moved hW.alike⟩
def μX0 : mm_U := mu (mu z0 1 (upd (z0 1) 5 (nI 1))) 17 (upd (z0 17) 5 (nI 1))
def xR (h0 : Nat) (ρ1 ρ2 ρ3 : Nat → Nat) : Nat → Nat := fun a => if a = 0 then h0 else if a < 16 then ρ1 (a - 1) else if a < 32 then ρ2 (a - 16) else ρ3 (a - 32)
/-- a foam as it is made, before it begins -/
def mI : Ms := (fun _ => true, fun _ => cI 0, fun _ => hI 0, fun _ => hI 0, fun _ => nI 0, fun _ => nI 0, fun _ => nI 0, fun _ => 0, fun _ => nI 0)
def sI : Fo := (mI, [], fun _ => nI 0, fun k => if k = 5 then nI 1 else nI 0)
theorem sI_rep : RepF sI μX0 1 := by
  refine ⟨⟨fun h _ => ⟨rfl, rfl, rfl, rfl, rfl⟩, fun h q => Bool.noConfusion q, fun w _ => rfl, fun c => rfl, fun c q => absurd q (Nat.lt_irrefl _)⟩, ⟨Nat.zero_le _, rfl, 0, by omega, rfl, fun i e q => (by cases q)⟩, fun k hk => rfl, fun k h1 h2 => ?_⟩
  show (upd (z0 1) 5 (nI 1)) k = if k = 5 then nI 1 else nI 0
  by_cases z : k = 5
  · rw [z, upd_s, if_pos rfl]
  · rw [upd_n _ _ z, if_neg z]
    rfl
/-- the world behind FoamCells(): x, and its row of kept ones -/
def xW (cA : Nat → ClassId) (u : (Nat → Nat) × Nat × ClassId × mm_U) : va_W := mm_w 37 u.1 cA (shL (xL (.ref u.2.1))) u.2.2.2 ++ [(u.2.1, .inl (u.2.2.1, 2, .inr (.inr (.inr (.inr (fun _ => none))))))]
def xQ (D : va_G) (cA : Nat → ClassId) (h0 sz : Nat) : Array Value → State → Outcome → State → Prop := va_Qv (fun u : (Nat → Nat) × Nat × ClassId × mm_U => u.1 0 = h0 ∧ RepF (fBg sI 4 4) u.2.2.2 1) (fun u t => va_P D vwCl (xW cA u) t.heap ∧ va_K D vwCl (mm_ty cA ++ [(u.2.2.1, .object "FoamCells$Foam")]) t ∧ va_D (va_A [(h0, .inr (5, [.null, .null, .null, .null]))] sz) (xW cA u)) (va_A [(h0, .inr (5, [.null, .null, .null, .null]))] sz)
set_option maxHeartbeats 4000000 in
set_option maxRecDepth 100000 in
theorem k_X (l : Launch) (D : va_G) (cA : Nat → ClassId) (σ : Nat → Nat) (h0 sz : Nat) : Met l yX5_init (kw yX5_init cX5_init) { frames := 8, cells := 37, slots := 6104, locals := 300 } (kPc D cA h0 sz (.inr (5, [.null, .null, .null, .null])) (fun U => NwX U ∧ mm_Z σ (va_A [(h0, .inr (5, [.null, .null, .null, .null]))] sz) U U.heap)) (xQ D cA h0 sz) 37 6104 (va_A [(h0, .inr (5, [.null, .null, .null, .null]))] sz) := by
  refine Met.ofWF (cc := cX5_init) (maxL := 1) (ret := none) (pl5 rfl) rfl ?_
  intro p e s m args below meth c s₁ B hml hv
  obtain ⟨rfl, hsz, hP, hK, hD0, hN, hZ⟩ := hv
  have hx := B.exec
  have hb := B.bytes
  have hr := B.returns
  have hts0 := atoms_spec (ws := kw yX5_init cX5_init) B.pre
  have hts : ∀ w ∈ mm_tb, w.before _ s = true := fun w hw => hts0 w (List.mem_cons_of_mem _ hw)
  have hown : s.vm.findClass RX5 = some m.cls := findClass_of_methodNamed B.named
  have hin : meth.name = "<init>" := (name_of_methodNamed B.named B.method).1
  subst hsz
  have hD := hD0.self (sz := s.heap.size)
  generalize hAe : va_A [(h0, .inr (5, [.null, .null, .null, .null]))] s.heap.size = A at hD hZ ⊢
  have hA : ∀ q : Nat, s.heap.size ≤ q → A q := fun q h => by rw [← hAe]; exact Or.inr h
  have hS : va_S A s.heap s.heap [] := va_S.rf
  have hl := lv_entry ([.ref h0]) (n := 1) (Nat.le_of_ble_eq_true rfl)
  rw [lg_entry_eq]
  generalize (lg_sl ([.ref h0]) ++ List.replicate (1 - (lg_sl ([.ref h0])).length) Slot.unset).toArray = ls at hl ⊢
  have hl : lv_has ls 1 [(0, .ref h0)] := hl
  refine lv_aload_n hx hb dX5_init_0 rfl (lv_at hl 0 rfl) ?_
  refine W.objInit hx hb hown (hts (.methodLink RX5 1 objectInit) (mm_t1 (mm_tq1 (List.mem_of_getElem? (i := 19) rfl)) rfl)) (hts _ oi_m) (hts _ oi_c) rfl (by rw [hml]; exact hl.1) rfl dX5_init_1 (Nat.le_of_ble_eq_true rfl) (Nat.le_of_ble_eq_true rfl) ?_
  refine W.eq (g2 := F0 m 4 ls []) rfl ?_
  refine lv_aload_n hx hb dX5_init_4 rfl (lv_at hl 0 rfl) ?_
  refine ct_new (ci := 5) (k := 0) (ty0 := tyX5) (ty2 := tyX1) (ci2 := 1) (fs2 := [.null, .null, .null, .int (nI 0), .int (nI 0), .int (nI 0), .int (nI 0), .int (nI 0), .int (nI 0), .int (nI 0), .int (nI 0)]) (rest := []) hx hb hml hts hown hin hK hA rfl mm_uw5 tyX5_ok nmX5 (by decide) (mm_t1 (mm_tq1 (List.mem_of_getElem? (i := 237) rfl)) rfl) rfl rfl rfl (Nat.le_of_ble_eq_true rfl) rfl mm_uw1 tyX1_ok (fun j hj => by
    have : j = 0 ∨ j = 1 ∨ j = 2 ∨ j = 3 ∨ j = 4 ∨ j = 5 ∨ j = 6 ∨ j = 7 ∨ j = 8 ∨ j = 9 ∨ j = 10 := by omega
    rcases this with rfl | rfl | rfl | rfl | rfl | rfl | rfl | rfl | rfl | rfl | rfl <;> rfl) (mm_t1 (mm_tq1 (List.mem_of_getElem? (i := 22) rfl)) rfl) (mm_t1 (mm_tq1 (List.mem_of_getElem? (i := 23) rfl)) rfl) ic1 rfl rfl ne1 pdI0 (mm_t1 (mm_tq1 (List.mem_of_getElem? (i := 25) rfl)) rfl) (mm_t1 (mm_tq1 (List.mem_of_getElem? (i := 26) rfl)) rfl) hN.1 (k_Foam l D cA) (fun U hW => hN.2.2.2.1.2.mv hW) (fun U g mk a h => h.mv (U := U.calling g mk a) (State.WarmedH.refl U)) ⟨Nat.le_of_ble_eq_true rfl, Nat.le_of_ble_eq_true rfl⟩ rfl rfl ⟨Nat.le_of_ble_eq_true rfl, Nat.le_of_ble_eq_true rfl⟩ hl.1 (Nat.le_of_ble_eq_true rfl) dX5_init_5 dX5_init_8 dX5_init_9 dX5_init_12 hP hD hS (fun ρ1 H locs hP hD hS => ?_)
  refine lv_aload_n hx hb dX5_init_15 rfl (lv_at hl 0 rfl) ?_
  refine ct_new (ci := 5) (k := 1) (ty0 := tyX5) (ty2 := tyX3) (ci2 := 3) (fs2 := [.null, .int (nI 0)]) (rest := []) hx hb hml hts hown hin hK hA rfl mm_uw5 tyX5_ok nmX5 (by decide) (mm_t1 (mm_tq1 (List.mem_of_getElem? (i := 238) rfl)) rfl) rfl rfl rfl (Nat.le_of_ble_eq_true rfl) rfl mm_uw3 tyX3_ok (fun j hj => by
    have : j = 0 ∨ j = 1 := by omega
    rcases this with rfl | rfl <;> rfl) (mm_t1 (mm_tq1 (List.mem_of_getElem? (i := 146) rfl)) rfl) (mm_t1 (mm_tq1 (List.mem_of_getElem? (i := 147) rfl)) rfl) ic3 rfl rfl ne3 pdI0 (mm_t1 (mm_tq1 (List.mem_of_getElem? (i := 149) rfl)) rfl) (mm_t1 (mm_tq1 (List.mem_of_getElem? (i := 150) rfl)) rfl) hN.2.1 (k_Paper l D cA) (fun U hW => hN.2.2.2.1.mv hW) (fun U g mk a h => h.mv (U := U.calling g mk a) (State.WarmedH.refl U)) ⟨Nat.le_of_ble_eq_true rfl, Nat.le_of_ble_eq_true rfl⟩ rfl rfl ⟨Nat.le_of_ble_eq_true rfl, Nat.le_of_ble_eq_true rfl⟩ hl.1 (Nat.le_of_ble_eq_true rfl) dX5_init_16 dX5_init_19 dX5_init_20 dX5_init_23 hP hD hS (fun ρ2 H locs hP hD hS => ?_)
  refine lv_aload_n hx hb dX5_init_26 rfl (lv_at hl 0 rfl) ?_
  refine ct_new (ci := 5) (k := 2) (ty0 := tyX5) (ty2 := tyX4) (ci2 := 4) (fs2 := [.null, .null, .null, .null, .int (nI 0), .int (nI 0), .int (nI 0), .int (nI 0)]) (rest := []) hx hb hml hts hown hin hK hA rfl mm_uw5 tyX5_ok nmX5 (by decide) (mm_t1 (mm_tq1 (List.mem_of_getElem? (i := 239) rfl)) rfl) rfl rfl rfl (Nat.le_of_ble_eq_true rfl) rfl mm_uw4 tyX4_ok (fun j hj => by
    have : j = 0 ∨ j = 1 ∨ j = 2 ∨ j = 3 ∨ j = 4 ∨ j = 5 ∨ j = 6 ∨ j = 7 := by omega
    rcases this with rfl | rfl | rfl | rfl | rfl | rfl | rfl | rfl <;> rfl) (mm_t1 (mm_tq1 (List.mem_of_getElem? (i := 163) rfl)) rfl) (mm_t1 (mm_tq1 (List.mem_of_getElem? (i := 164) rfl)) rfl) ic4 rfl rfl ne4 pdI0 (mm_t1 (mm_tq1 (List.mem_of_getElem? (i := 166) rfl)) rfl) (mm_t1 (mm_tq1 (List.mem_of_getElem? (i := 167) rfl)) rfl) hN.2.2.1 (k_Ways l D cA) (fun _ _ => trivial) (fun _ _ _ _ _ => trivial) ⟨Nat.le_of_ble_eq_true rfl, Nat.le_of_ble_eq_true rfl⟩ rfl rfl ⟨Nat.le_of_ble_eq_true rfl, Nat.le_of_ble_eq_true rfl⟩ hl.1 (Nat.le_of_ble_eq_true rfl) dX5_init_27 dX5_init_30 dX5_init_31 dX5_init_34 hP hD hS (fun ρ3 H locs hP hD hS => ?_)
  refine lv_aload_n hx hb dX5_init_37 rfl (lv_at hl 0 rfl) ?_
  refine lv_iconst (v := nI 2) hx hb dX5_init_38 (by decide) ?_
  refine va_newq (C := "FoamCells$Foam") (N' := 2) hx hb hown (hts _ (mm_t1 (mm_tq1 (List.mem_of_getElem? (i := 22) rfl)) rfl)) hN.2.2.2.2 hK hP hD hS hA (by decide) (by decide) (by decide) (Nat.le_of_ble_eq_true rfl) (Nat.le_of_ble_eq_true rfl) dX5_init_39 (fun kA cK H hK2 hP hD hS => ?_)
  refine va_putF (ci := 5) (v := .ref kA) (ty := .array (.object "FoamCells$Foam")) (C := RX5) (T := TX5) (N := 4) (ref := RX5) hx hb hts mm_uw5 tyX5 tyX5_ok nmX5 hown hK hP hD hS 0 rfl rfl 3 (by decide) (hts _ (mm_t1 (mm_tq2 (List.mem_of_getElem? (i := 0) rfl)) rfl)) (fun _ h9 => h9) rfl hin rfl (tyX5_ok 3 (by decide)) rfl rfl (Nat.le_of_ble_eq_true rfl) dX5_init_42 (fun H locs hP hD hS => ?_)
  have hP : va_P D vwCl (mm_w 37 (xR h0 ρ1 ρ2 ρ3) cA (shL (xL (.ref kA))) μX0 ++ [(kA, .inl (cK, 2, .inr (.inr (.inr (.inr (fun _ => none))))))]) H := hP
  have hD : va_D A (mm_w 37 (xR h0 ρ1 ρ2 ρ3) cA (shL (xL (.ref kA))) μX0 ++ [(kA, .inl (cK, 2, .inr (.inr (.inr (.inr (fun _ => none))))))]) := hD
  refine lv_aload_n hx hb dX5_init_45 rfl (lv_at hl 0 rfl) ?_
  refine va_get (ci := 5) (v := .ref (ρ1 0)) (C := RX5) (T := TX5) (N := 4) (ref := RX5) hx hb hts mm_uw5 hown hK hP 0 rfl rfl 0 (by decide) (hts _ (mm_t1 (mm_tq1 (List.mem_of_getElem? (i := 237) rfl)) rfl)) (fun _ h9 => h9) rfl dX5_init_46 ?_
  refine lv_iconst (v := nI 4) hx hb dX5_init_49 (by decide) ?_
  refine lv_iconst (v := nI 4) hx hb dX5_init_50 (by decide) ?_
  refine mm_goV (own := RX5) (idx := 34) (z := zX1_begin) (a := 1) (as := [.int (nI 4), .int (nI 4)]) (rest := []) (ρ := xR h0 ρ1 ρ2 ρ3) (σ := σ) ⟨hx, hb, hml, hts, hown, hK, hA, hZ⟩ (mm_LK.vk lk5_34) (svX (.ref kA)) (c_begin (shX_fo (.ref kA)) sI_rep (w := 4) (h := 4) (by omega) (by omega) (by omega) (by omega)) rfl rfl rfl (by decide) ⟨by decide, by decide⟩ ⟨Nat.le_of_ble_eq_true rfl, Nat.le_of_ble_eq_true rfl⟩ hl.1 (Nat.le_of_ble_eq_true rfl) dX5_init_51 hP hD hS (fun r μ' H1 locs1 hq hP hD hS => ?_)
  obtain ⟨rfl, R1, _⟩ := hq
  refine W.widen (k := 37) (n := 6104) (Nat.le_of_ble_eq_true rfl) (Nat.le_of_ble_eq_true rfl) ?_
  exact W.vret hx hb hr (fun t ht hW => ⟨⟨(xR h0 ρ1 ρ2 ρ3, kA, cK, μ'), rfl, ⟨rfl, R1⟩, by rw [ht]; exact hP, va_K.moved hW.alike hK2, by rw [hAe]; exact hD⟩, by rw [hAe]; exact hS.F ht⟩) hS.2.2 dX5_init_54
