theorem pd116 : (parseMethodDescriptor "(LFoamCells$Foam;)V").map (fun d => d.parameters.length + 1) = some 2 := by decide +kernel
theorem vX_116 : mm_VK RX5 116 zX1_copyOf := ⟨okX1_copyOf, (mm_t1 (mm_tq3 (List.mem_of_getElem? (i := 11) rfl)) rfl), (mm_t1 (mm_tq3 (List.mem_of_getElem? (i := 12) rfl)) rfl), (mm_t1 (mm_tq3 (List.mem_of_getElem? (i := 13) rfl)) rfl), ⟨_, rfl, rfl⟩, pd116⟩
abbrev kArr (kA : Nat) (cK : ClassId) (f : Nat → Option Nat) : Nat × va_E := (kA, .inl (cK, 2, .inr (.inr (.inr (.inr f)))))
abbrev kWd (cA : Nat → ClassId) (ρX : Nat → Nat) (kA : Nat) (μX : mm_U) (cK : ClassId) (f : Nat → Option Nat) (F O : va_W) : va_W := kArr kA cK f :: (mm_w 37 ρX cA (shL (xL (.ref kA))) μX ++ (F ++ O))
abbrev wF (cA : Nat → ClassId) (ρ : Nat → Nat) (μ : mm_U) : va_W := mm_w 15 ρ cA (shL (foL 0)) μ
def kpPc (D : va_G) (cA : Nat → ClassId) (σ ρX : Nat → Nat) (kA : Nat) (μX : mm_U) (cK : ClassId) (f : Nat → Option Nat) (F O : va_W) (k : Int32) (sz : Nat) : Array Value → State → Prop := va_Pc [.ref (ρX 0), .int k] (fun U => U.heap.size = sz ∧ va_P D vwCl (kWd cA ρX kA μX cK f F O) U.heap ∧ va_K D vwCl (mm_ty cA ++ [(cK, .object "FoamCells$Foam")]) U ∧ va_D (fun _ => True) (kWd cA ρX kA μX cK f F O) ∧ va_Nw (.methodLinkNest RX5 9 yX1_init "FoamCells") U ∧ NwF U ∧ mm_Z σ (va_A (kWd cA ρX kA μX cK f F O) sz) U U.heap)
/-- the class's numbers, where nothing is kept or got back -/
def kpQn (D : va_G) (cA : Nat → ClassId) (ρX : Nat → Nat) (kA : Nat) (μX : mm_U) (cK : ClassId) (f : Nat → Option Nat) (F O : va_W) (sz : Nat) : Array Value → State → Outcome → State → Prop := va_Qi (fun r (_ : Unit) => r = nI 0) (fun _ t => va_P D vwCl (kWd cA ρX kA μX cK f F O) t.heap ∧ va_K D vwCl (mm_ty cA ++ [(cK, .object "FoamCells$Foam")]) t ∧ va_D (va_A (kWd cA ρX kA μX cK f F O) sz) (kWd cA ρX kA μX cK f F O)) (va_A (kWd cA ρX kA μX cK f F O) sz)
def kpQs (D : va_G) (cA : Nat → ClassId) (ρX : Nat → Nat) (kA : Nat) (μX : mm_U) (cK : ClassId) (f : Nat → Option Nat) (F O : va_W) (sz j : Nat) (s0 : Fo) : Array Value → State → Outcome → State → Prop := va_Qi (fun r (u : (Nat → Nat) × mm_U) => r = nI 1 ∧ RepF s0 u.2 0) (fun u t => va_P D vwCl (kWd cA ρX kA μX cK (va_up f j (some (u.1 0))) (wF cA u.1 u.2) O) t.heap ∧ va_K D vwCl (mm_ty cA ++ [(cK, .object "FoamCells$Foam")]) t ∧ va_D (va_A (kWd cA ρX kA μX cK f F O) sz) (kWd cA ρX kA μX cK (va_up f j (some (u.1 0))) (wF cA u.1 u.2) O)) (va_A (kWd cA ρX kA μX cK f F O) sz)
def agQs (D : va_G) (cA : Nat → ClassId) (ρX : Nat → Nat) (kA : Nat) (μX : mm_U) (cK : ClassId) (f : Nat → Option Nat) (F O : va_W) (sz : Nat) (t0 : Fo) : Array Value → State → Outcome → State → Prop := va_Qi (fun r (μ1 : mm_U) => r = nI 1 ∧ RepF t0 μ1 1) (fun μ1 t => va_P D vwCl (kWd cA ρX kA μ1 cK f F O) t.heap ∧ va_K D vwCl (mm_ty cA ++ [(cK, .object "FoamCells$Foam")]) t ∧ va_D (va_A (kWd cA ρX kA μX cK f F O) sz) (kWd cA ρX kA μ1 cK f F O)) (va_A (kWd cA ρX kA μX cK f F O) sz)
section NWO
variable {p : Program} {l : Launch} {e : Env} {Rm : Room} {s : State} {m : MethodId} {args : Array Value} {below : List Frame} {meth : Method} {c : Code} {Q : State → Prop} {D : va_G} {cA : Nat → ClassId} {A : Nat → Prop} {cc : ByteArray} {tys : List (ClassId × FieldType)}
/-- 'new Foam()' in FoamCells -/
theorem nw_foam {pc cells slots nL : Nat} {rest : List Value} {ws : va_W} {ls : Array Slot} {H : Heap} {locs : List Loc}
    (hx : p.tables.exec = Jvm.exec) (hb : c.code = cc) (hml : c.maxLocals = nL) (hts : ∀ w ∈ mm_tb, w.before args s = true) (hown : s.vm.findClass RX5 = some m.cls) (hK : va_K D vwCl (mm_ty cA) s) (hA : ∀ q, s.heap.size ≤ q → A q)
    (hNw : va_Nw (.methodLinkNest RX5 9 yX1_init "FoamCells") s) (hN : NwF s) (hrm : 3 ≤ Rm.frames ∧ 52 ≤ Rm.locals) (hcs : cells + 15 ≤ Rm.cells ∧ slots + 1798 ≤ Rm.slots) (hls : ls.size = nL) (h4 : (rest.map fun v => v.category).sum ≤ 7)
    (dn : decode cc pc = .ok (.new 7, 3)) (dd : decode cc (pc + 3) = .ok (.dup, 1)) (di : decode cc (pc + 4) = .ok (.invokespecial 9, 3))
    (hP : va_P D vwCl ws H) (hD : va_D A ws) (hS : va_S A s.heap H locs)
    (kk : ∀ (ρ : Nat → Nat) (H1 : Heap) (locs1 : List Loc), va_P D vwCl (ws ++ wF cA ρ μF) H1 → va_D A (ws ++ wF cA ρ μF) → va_S A s.heap H1 locs1 → W p l e Rm s m args below meth c H1 locs1 (cells + 15) (slots + 1798) Q (F0 m (pc + 7) ls (.ref (ρ 0) :: rest))) :
    W p l e Rm s m args below meth c H locs cells slots Q (F0 m pc ls rest) := by
  refine va_new (ci := 1) (fs := [.null, .null, .null, .int (nI 0), .int (nI 0), .int (nI 0), .int (nI 0), .int (nI 0), .int (nI 0), .int (nI 0), .int (nI 0)]) (C := RX1) (T := TX1) (N := 11) hx hb hts mm_uw1 tyX1 tyX1_ok hown (hts _ (mm_t1 (mm_tq1 (List.mem_of_getElem? (i := 22) rfl)) rfl)) (hts _ (mm_t1 (mm_tq1 (List.mem_of_getElem? (i := 23) rfl)) rfl)) (hts _ ic1) hK hP hD hS hA rfl (fun j hj => by
    have : j = 0 ∨ j = 1 ∨ j = 2 ∨ j = 3 ∨ j = 4 ∨ j = 5 ∨ j = 6 ∨ j = 7 ∨ j = 8 ∨ j = 9 ∨ j = 10 := by omega
    rcases this with rfl | rfl | rfl | rfl | rfl | rfl | rfl | rfl | rfl | rfl | rfl <;> rfl) (by omega) (by omega) dn (fun q H hP hD hS => ?_)
  refine lv_dup hx hb dd rfl ?_
  have hM := k_Foam l D cA q H.size
  unfold kQ at hM
  obtain ⟨hPw, hPq⟩ := ww_P hP
  obtain ⟨hDw, hDq, hap⟩ := ww_D hD
  have hF : ∀ x, va_A [(q, .inr (1, [.null, .null, .null, .int (nI 0), .int (nI 0), .int (nI 0), .int (nI 0), .int (nI 0), .int (nI 0), .int (nI 0), .int (nI 0)]))] H.size x → A x := fun x h => by
    rcases h with ⟨i, e', hi⟩ | hge
    · exact hDq.2 i (x, e') hi
    · exact hA _ (Nat.le_trans hS.1 hge)
  have cn : va_CN Rm s args RX5 9 yX1_init "FoamCells" cX1_init 1 none (kw yX1_init cX1_init) { frames := 2, cells := 14, slots := 1787, locals := 32 } 14 1787 0 := va_cnB 0 hts (mm_gin (mm_t1 (mm_tq1 (List.mem_of_getElem? (i := 26) rfl)) rfl)) rfl rfl rfl hNw (hts _ ic1) ⟨ne1.1, ne1.2, pdI0⟩ ⟨hrm.1, hrm.2⟩
  have hst2 : ((.ref q :: rest).map fun v => v.category).sum ≤ 8 := by
    rw [List.map_cons, List.sum_cons]
    have h1 : (Value.ref q).category = 1 := rfl
    omega
  refine va_callv (va_runIN (As := []) (rest := .ref q :: rest) ⟨hx, hb, hml, hown, hts⟩ hM ⟨cn, rfl, hts _ (mm_t1 (mm_tq1 (List.mem_of_getElem? (i := 25) rfl)) rfl)⟩ ⟨fun a U g mk qq => by
    obtain ⟨q0, q1, qP, qK, qD, qN⟩ := qq
    exact ⟨q0, q1, qP, va_K.moved (u := U) (U := U.calling g mk a) (Vm.Alike.refl U.vm) qK, qD, qN.mv (U := U.calling g mk a) (State.WarmedH.refl U)⟩, fun U hU hW => ⟨rfl, by rw [hU], by rw [hU]; exact hPq, va_K.moved hW.alike hK, hDq.weaken (fun _ _ _ _ => trivial), hN.mv hW⟩⟩ rfl rfl hls rfl (lv_room hst2) di ⟨by omega, by omega⟩) hS (fun x _ h => hF x h) hF (fun ρ t H1 locs1 ht hvm hw hB hz1 hk1 hS => ?_)
  obtain ⟨hP1, hK1, hD1⟩ := hB
  rw [ht] at hP1
  obtain ⟨hP2, hD2⟩ := ww_new hP hD ‹va_S A s.heap H _› hA hk1 hP1 hD1
  have hw : ρ 0 = q := hw
  rw [← hw]
  exact kk ρ H1 locs1 hP2 hD2 hS
end NWO
set_option maxHeartbeats 4000000 in
set_option maxRecDepth 100000 in
theorem k_keepN (l : Launch) (D : va_G) (cA : Nat → ClassId) (σ ρX : Nat → Nat) (kA : Nat) (μX : mm_U) (cK : ClassId) (f : Nat → Option Nat) (F O : va_W) (k : Int32) (sz : Nat) (hk : k < 0 ∨ nI 1 < k) : Met l yX5_keep (Cond.code yX5_keep cX5_keep 2 (some .boolean) :: mm_tb) { frames := 8, cells := 15, slots := 1798, locals := 300 } (kpPc D cA σ ρX kA μX cK f F O k sz) (kpQn D cA ρX kA μX cK f F O sz) 15 1798 (va_A (kWd cA ρX kA μX cK f F O) sz) := by
  refine Met.ofWF (cc := cX5_keep) (maxL := 2) (ret := some .boolean) (pl5 rfl) rfl ?_
  intro p e s m args below meth c s₁ B hml hv
  obtain ⟨rfl, hsz, hP, hK, hD0, hN1, hN2, hZ⟩ := hv
  have hx := B.exec
  have hb := B.bytes
  have hr := B.returns
  have hts0 := atoms_spec (ws := Cond.code yX5_keep cX5_keep 2 (some .boolean) :: mm_tb) B.pre
  have hts : ∀ w ∈ mm_tb, w.before _ s = true := fun w hw => hts0 w (List.mem_cons_of_mem _ hw)
  have hown : s.vm.findClass RX5 = some m.cls := findClass_of_methodNamed B.named
  subst hsz
  have hD := hD0.self (sz := s.heap.size)
  generalize hAe : va_A (kWd cA ρX kA μX cK f F O) s.heap.size = A at hD hZ ⊢
  have hA : ∀ q : Nat, s.heap.size ≤ q → A q := fun q h => by rw [← hAe]; exact Or.inr h
  have hS : va_S A s.heap s.heap [] := va_S.rf
  have hK1 : va_K D vwCl (mm_ty cA) s := hK.sub [0, 1] rfl
  have hl := lv_entry ([.ref (ρX 0), .int k]) (n := 2) (Nat.le_of_ble_eq_true rfl)
  rw [lg_entry_eq]
  generalize (lg_sl ([.ref (ρX 0), .int k]) ++ List.replicate (2 - (lg_sl ([.ref (ρX 0), .int k])).length) Slot.unset).toArray = ls at hl ⊢
  have hl : lv_has ls 2 [(0, .ref (ρX 0)), (1, .int k)] := hl
  refine lv_iload_n hx hb dX5_keep_0 rfl (lv_at hl 1 rfl) ?_
  refine lv_if_lt (tgt := 9) hx hb dX5_keep_1 (by decide) (fun _ => ?_) (fun h1 => ?_)
  · refine lv_iconst (v := nI 0) hx hb dX5_keep_9 (by decide) ?_
    refine W.widen (k := 15) (n := 1798) (Nat.le_of_ble_eq_true rfl) (Nat.le_of_ble_eq_true rfl) ?_
    exact W.zret (v := nI 0) hx hb hr (by decide) (fun t ht hW => ⟨⟨nI 0, (), rfl, rfl, by rw [ht]; exact hP, va_K.moved hW.alike hK, by rw [hAe]; exact hD⟩, by rw [hAe]; exact hS.F ht⟩) hS.2.2 dX5_keep_10
  refine lv_iload_n hx hb dX5_keep_4 rfl (lv_at hl 1 rfl) ?_
  refine lv_iconst (v := nI 2) hx hb dX5_keep_5 (by decide) ?_
  refine lv_icmp_lt (tgt := 11) hx hb dX5_keep_6 (by decide) (fun h2 => ?_) (fun _ => ?_)
  · exfalso
    rcases hk with q | q
    · exact h1 q
    · rw [Int32.lt_iff_toInt_lt, show (nI 1).toInt = 1 from rfl] at q
      rw [Int32.lt_iff_toInt_lt, show (nI 2).toInt = 2 from rfl] at h2
      omega
  · refine lv_iconst (v := nI 0) hx hb dX5_keep_9 (by decide) ?_
    refine W.widen (k := 15) (n := 1798) (Nat.le_of_ble_eq_true rfl) (Nat.le_of_ble_eq_true rfl) ?_
    exact W.zret (v := nI 0) hx hb hr (by decide) (fun t ht hW => ⟨⟨nI 0, (), rfl, rfl, by rw [ht]; exact hP, va_K.moved hW.alike hK, by rw [hAe]; exact hD⟩, by rw [hAe]; exact hS.F ht⟩) hS.2.2 dX5_keep_10
set_option maxHeartbeats 4000000 in
set_option maxRecDepth 100000 in
theorem k_againN (l : Launch) (D : va_G) (cA : Nat → ClassId) (σ ρX : Nat → Nat) (kA : Nat) (μX : mm_U) (cK : ClassId) (f : Nat → Option Nat) (F O : va_W) (k : Int32) (sz : Nat) (hk : k < 0 ∨ nI 1 < k) : Met l yX5_again (Cond.code yX5_again cX5_again 2 (some .boolean) :: mm_tb) { frames := 8, cells := 0, slots := 0, locals := 300 } (kpPc D cA σ ρX kA μX cK f F O k sz) (kpQn D cA ρX kA μX cK f F O sz) 0 0 (va_A (kWd cA ρX kA μX cK f F O) sz) := by
  refine Met.ofWF (cc := cX5_again) (maxL := 2) (ret := some .boolean) (pl5 rfl) rfl ?_
  intro p e s m args below meth c s₁ B hml hv
  obtain ⟨rfl, hsz, hP, hK, hD0, hN1, hN2, hZ⟩ := hv
  have hx := B.exec
  have hb := B.bytes
  have hr := B.returns
  have hts0 := atoms_spec (ws := Cond.code yX5_again cX5_again 2 (some .boolean) :: mm_tb) B.pre
  have hts : ∀ w ∈ mm_tb, w.before _ s = true := fun w hw => hts0 w (List.mem_cons_of_mem _ hw)
  have hown : s.vm.findClass RX5 = some m.cls := findClass_of_methodNamed B.named
  subst hsz
  have hD := hD0.self (sz := s.heap.size)
  generalize hAe : va_A (kWd cA ρX kA μX cK f F O) s.heap.size = A at hD hZ ⊢
  have hA : ∀ q : Nat, s.heap.size ≤ q → A q := fun q h => by rw [← hAe]; exact Or.inr h
  have hS : va_S A s.heap s.heap [] := va_S.rf
  have hK1 : va_K D vwCl (mm_ty cA) s := hK.sub [0, 1] rfl
  have hl := lv_entry ([.ref (ρX 0), .int k]) (n := 2) (Nat.le_of_ble_eq_true rfl)
  rw [lg_entry_eq]
  generalize (lg_sl ([.ref (ρX 0), .int k]) ++ List.replicate (2 - (lg_sl ([.ref (ρX 0), .int k])).length) Slot.unset).toArray = ls at hl ⊢
  have hl : lv_has ls 2 [(0, .ref (ρX 0)), (1, .int k)] := hl
  refine lv_iload_n hx hb dX5_again_0 rfl (lv_at hl 1 rfl) ?_
  refine lv_if_lt (tgt := 18) hx hb dX5_again_1 (by decide) (fun _ => ?_) (fun h1 => ?_)
  · refine lv_iconst (v := nI 0) hx hb dX5_again_18 (by decide) ?_
    exact W.zret (v := nI 0) hx hb hr (by decide) (fun t ht hW => ⟨⟨nI 0, (), rfl, rfl, by rw [ht]; exact hP, va_K.moved hW.alike hK, by rw [hAe]; exact hD⟩, by rw [hAe]; exact hS.F ht⟩) hS.2.2 dX5_again_19
  refine lv_iload_n hx hb dX5_again_4 rfl (lv_at hl 1 rfl) ?_
  refine lv_iconst (v := nI 2) hx hb dX5_again_5 (by decide) ?_
  refine lv_icmp_ge (tgt := 18) hx hb dX5_again_6 (by decide) (fun _ => ?_) (fun h2 => ?_)
  · refine lv_iconst (v := nI 0) hx hb dX5_again_18 (by decide) ?_
    exact W.zret (v := nI 0) hx hb hr (by decide) (fun t ht hW => ⟨⟨nI 0, (), rfl, rfl, by rw [ht]; exact hP, va_K.moved hW.alike hK, by rw [hAe]; exact hD⟩, by rw [hAe]; exact hS.F ht⟩) hS.2.2 dX5_again_19
  · exfalso
    rcases hk with q | q
    · exact h1 q
    · rw [Int32.lt_iff_toInt_lt, show (nI 1).toInt = 1 from rfl] at q
      rw [Int32.le_iff_toInt_le, show (nI 2).toInt = 2 from rfl] at h2
      omega
set_option maxHeartbeats 4000000 in
set_option maxRecDepth 100000 in
theorem k_againZ (l : Launch) (D : va_G) (cA : Nat → ClassId) (σ ρX : Nat → Nat) (kA : Nat) (μX : mm_U) (cK : ClassId) (f : Nat → Option Nat) (F O : va_W) (j sz : Nat) (hj : j < 2) (hf : f j = none) : Met l yX5_again (Cond.code yX5_again cX5_again 2 (some .boolean) :: mm_tb) { frames := 8, cells := 0, slots := 0, locals := 300 } (kpPc D cA σ ρX kA μX cK f F O (nI j) sz) (kpQn D cA ρX kA μX cK f F O sz) 0 0 (va_A (kWd cA ρX kA μX cK f F O) sz) := by
  refine Met.ofWF (cc := cX5_again) (maxL := 2) (ret := some .boolean) (pl5 rfl) rfl ?_
  intro p e s m args below meth c s₁ B hml hv
  obtain ⟨rfl, hsz, hP, hK, hD0, hN1, hN2, hZ⟩ := hv
  have hx := B.exec
  have hb := B.bytes
  have hr := B.returns
  have hts0 := atoms_spec (ws := Cond.code yX5_again cX5_again 2 (some .boolean) :: mm_tb) B.pre
  have hts : ∀ w ∈ mm_tb, w.before _ s = true := fun w hw => hts0 w (List.mem_cons_of_mem _ hw)
  have hown : s.vm.findClass RX5 = some m.cls := findClass_of_methodNamed B.named
  subst hsz
  have hD := hD0.self (sz := s.heap.size)
  generalize hAe : va_A (kWd cA ρX kA μX cK f F O) s.heap.size = A at hD hZ ⊢
  have hA : ∀ q : Nat, s.heap.size ≤ q → A q := fun q h => by rw [← hAe]; exact Or.inr h
  have hS : va_S A s.heap s.heap [] := va_S.rf
  have hK1 : va_K D vwCl (mm_ty cA) s := hK.sub [0, 1] rfl
  have hl := lv_entry ([.ref (ρX 0), .int (nI j)]) (n := 2) (Nat.le_of_ble_eq_true rfl)
  rw [lg_entry_eq]
  generalize (lg_sl ([.ref (ρX 0), .int (nI j)]) ++ List.replicate (2 - (lg_sl ([.ref (ρX 0), .int (nI j)])).length) Slot.unset).toArray = ls at hl ⊢
  have hl : lv_has ls 2 [(0, .ref (ρX 0)), (1, .int (nI j))] := hl
  have k2 : nI j < nI 2 := by rw [Int32.lt_iff_toInt_lt, nI_toInt (by omega), show (nI 2).toInt = 2 from rfl]; omega
  have k0 : ¬ nI j < 0 := nI_pos (by omega)
  refine lv_iload_n hx hb dX5_again_0 rfl (lv_at hl 1 rfl) ?_
  refine lv_if_lt (tgt := 18) hx hb dX5_again_1 (by decide) (fun q => absurd q k0) (fun _ => ?_)
  refine lv_iload_n hx hb dX5_again_4 rfl (lv_at hl 1 rfl) ?_
  refine lv_iconst (v := nI 2) hx hb dX5_again_5 (by decide) ?_
  refine lv_icmp_ge (tgt := 18) hx hb dX5_again_6 (by decide) (fun q => absurd q (by rw [Int32.le_iff_toInt_le]; rw [Int32.lt_iff_toInt_lt] at k2; omega)) (fun _ => ?_)
  refine lv_aload_n hx hb dX5_again_9 rfl (lv_at hl 0 rfl) ?_
  refine va_get (ci := 5) (v := .ref kA) (C := RX5) (T := TX5) (N := 4) (ref := RX5) hx hb hts mm_uw5 hown hK hP 1 rfl rfl 3 (by decide) (hts _ (mm_t1 (mm_tq2 (List.mem_of_getElem? (i := 0) rfl)) rfl)) (fun _ h9 => h9) rfl dX5_again_10 ?_
  refine lv_iload_n hx hb dX5_again_13 rfl (lv_at hl 1 rfl) ?_
  refine va_aldq hx hb hK hP 0 2 rfl rfl (vp_in_nI hj (by omega)) dX5_again_14 ?_
  rw [nI_clamp (by omega), hf]
  refine lv_ifnonnullN hx hb dX5_again_15 ?_
  refine lv_iconst (v := nI 0) hx hb dX5_again_18 (by decide) ?_
  exact W.zret (v := nI 0) hx hb hr (by decide) (fun t ht hW => ⟨⟨nI 0, (), rfl, rfl, by rw [ht]; exact hP, va_K.moved hW.alike hK, by rw [hAe]; exact hD⟩, by rw [hAe]; exact hS.F ht⟩) hS.2.2 dX5_again_19
set_option maxHeartbeats 4000000 in
set_option maxRecDepth 100000 in
theorem k_againS (l : Launch) (D : va_G) (cA : Nat → ClassId) (σ ρX : Nat → Nat) (kA : Nat) (μX : mm_U) (cK : ClassId) (f : Nat → Option Nat) (O : va_W) (ρK : Nat → Nat) (μK : mm_U) (t0 : Fo) (hR : RepF t0 μK 0) (j sz : Nat) (hj : j < 2) (hf : f j = some (ρK 0)) : Met l yX5_again (Cond.code yX5_again cX5_again 2 (some .boolean) :: mm_tb) { frames := 8, cells := 0, slots := 0, locals := 300 } (kpPc D cA σ ρX kA μX cK f (wF cA ρK μK) O (nI j) sz) (agQs D cA ρX kA μX cK f (wF cA ρK μK) O sz t0) 0 0 (va_A (kWd cA ρX kA μX cK f (wF cA ρK μK) O) sz) := by
  refine Met.ofWF (cc := cX5_again) (maxL := 2) (ret := some .boolean) (pl5 rfl) rfl ?_
  intro p e s m args below meth c s₁ B hml hv
  obtain ⟨rfl, hsz, hP, hK, hD0, hN1, hN2, hZ⟩ := hv
  have hx := B.exec
  have hb := B.bytes
  have hr := B.returns
  have hts0 := atoms_spec (ws := Cond.code yX5_again cX5_again 2 (some .boolean) :: mm_tb) B.pre
  have hts : ∀ w ∈ mm_tb, w.before _ s = true := fun w hw => hts0 w (List.mem_cons_of_mem _ hw)
  have hown : s.vm.findClass RX5 = some m.cls := findClass_of_methodNamed B.named
  subst hsz
  have hD := hD0.self (sz := s.heap.size)
  generalize hAe : va_A (kWd cA ρX kA μX cK f (wF cA ρK μK) O) s.heap.size = A at hD hZ ⊢
  have hA : ∀ q : Nat, s.heap.size ≤ q → A q := fun q h => by rw [← hAe]; exact Or.inr h
  have hS : va_S A s.heap s.heap [] := va_S.rf
  have hK1 : va_K D vwCl (mm_ty cA) s := hK.sub [0, 1] rfl
  have hl := lv_entry ([.ref (ρX 0), .int (nI j)]) (n := 2) (Nat.le_of_ble_eq_true rfl)
  rw [lg_entry_eq]
  generalize (lg_sl ([.ref (ρX 0), .int (nI j)]) ++ List.replicate (2 - (lg_sl ([.ref (ρX 0), .int (nI j)])).length) Slot.unset).toArray = ls at hl ⊢
  have hl : lv_has ls 2 [(0, .ref (ρX 0)), (1, .int (nI j))] := hl
  have k2 : nI j < nI 2 := by rw [Int32.lt_iff_toInt_lt, nI_toInt (by omega), show (nI 2).toInt = 2 from rfl]; omega
  have k0 : ¬ nI j < 0 := nI_pos (by omega)
  refine lv_iload_n hx hb dX5_again_0 rfl (lv_at hl 1 rfl) ?_
  refine lv_if_lt (tgt := 18) hx hb dX5_again_1 (by decide) (fun q => absurd q k0) (fun _ => ?_)
  refine lv_iload_n hx hb dX5_again_4 rfl (lv_at hl 1 rfl) ?_
  refine lv_iconst (v := nI 2) hx hb dX5_again_5 (by decide) ?_
  refine lv_icmp_ge (tgt := 18) hx hb dX5_again_6 (by decide) (fun q => absurd q (by rw [Int32.le_iff_toInt_le]; rw [Int32.lt_iff_toInt_lt] at k2; omega)) (fun _ => ?_)
  refine lv_aload_n hx hb dX5_again_9 rfl (lv_at hl 0 rfl) ?_
  refine va_get (ci := 5) (v := .ref kA) (C := RX5) (T := TX5) (N := 4) (ref := RX5) hx hb hts mm_uw5 hown hK hP 1 rfl rfl 3 (by decide) (hts _ (mm_t1 (mm_tq2 (List.mem_of_getElem? (i := 0) rfl)) rfl)) (fun _ h9 => h9) rfl dX5_again_10 ?_
  refine lv_iload_n hx hb dX5_again_13 rfl (lv_at hl 1 rfl) ?_
  refine va_aldq hx hb hK hP 0 2 rfl rfl (vp_in_nI hj (by omega)) dX5_again_14 ?_
  rw [nI_clamp (by omega), hf]
  refine lv_ifnonnull (x := ρK 0) (tgt := 20) hx hb dX5_again_15 (by decide) ?_
  refine lv_aload_n hx hb dX5_again_20 rfl (lv_at hl 0 rfl) ?_
  refine va_get (ci := 5) (v := .ref (ρX 1)) (C := RX5) (T := TX5) (N := 4) (ref := RX5) hx hb hts mm_uw5 hown hK hP 1 rfl rfl 0 (by decide) (hts _ (mm_t1 (mm_tq1 (List.mem_of_getElem? (i := 237) rfl)) rfl)) (fun _ h9 => h9) rfl dX5_again_21 ?_
  refine lv_aload_n hx hb dX5_again_24 rfl (lv_at hl 0 rfl) ?_
  refine va_get (ci := 5) (v := .ref kA) (C := RX5) (T := TX5) (N := 4) (ref := RX5) hx hb hts mm_uw5 hown hK hP 1 rfl rfl 3 (by decide) (hts _ (mm_t1 (mm_tq2 (List.mem_of_getElem? (i := 0) rfl)) rfl)) (fun _ h9 => h9) rfl dX5_again_25 ?_
  refine lv_iload_n hx hb dX5_again_28 rfl (lv_at hl 1 rfl) ?_
  refine va_aldq hx hb hK hP 0 2 rfl rfl (vp_in_nI hj (by omega)) dX5_again_29 ?_
  rw [nI_clamp (by omega), hf]
  have pm : (kWd cA ρX kA μX cK f (wF cA ρK μK) O).Perm (mm_w 52 (j52 ρX ρK) cA (shL (xL (.ref kA) ++ foL 37)) (jm52 μX μK) ++ (kArr kA cK f :: O)) := by
    rw [w52m, List.append_assoc]
    exact (List.perm_middle (l₁ := mm_w 37 ρX cA (shL (xL (.ref kA))) μX) (l₂ := wF cA ρK μK ++ O) (a := kArr kA cK f)).symm.trans ((List.Perm.refl _).append (List.perm_middle (l₁ := wF cA ρK μK) (l₂ := O) (a := kArr kA cK f)).symm)
  refine mm_goV (own := RX5) (idx := 116) (z := zX1_copyOf) (a := 1) (as := [.ref 37]) (rest := []) (ρ := j52 ρX ρK) (σ := σ) ⟨hx, hb, hml, hts, hown, hK1, hA, hZ⟩ vX_116 (sv52 (.ref kA)) (c_copyFoam (g := 37) (sh52_n (.ref kA)) (sh52_k (.ref kA)) (RepF.un37 hR) (Or.inl (by omega))) rfl rfl rfl (by decide) ⟨by decide, by decide⟩ ⟨Nat.le_of_ble_eq_true rfl, Nat.le_of_ble_eq_true rfl⟩ hl.1 (Nat.le_of_ble_eq_true rfl) dX5_again_30 (pw_P pm hP) (pw_D pm hD) hS (fun r μ' H1 locs1 hq hP hD hS => ?_)
  obtain ⟨rfl, R1, F1⟩ := hq
  have pm2 : (mm_w 52 (j52 ρX ρK) cA (shL (xL (.ref kA) ++ foL 37)) μ' ++ (kArr kA cK f :: O)).Perm (kWd cA ρX kA μ' cK f (wF cA ρK μK) O) := by
    rw [w52, List.append_assoc, show mm_w 15 ρK cA (shL (foL 0)) (fun a => μ' (37 + a)) = wF cA ρK μK from mm_w_cg (fun a ha => by rw [F1 (37 + a) (by omega)]; unfold jm52; rw [if_neg (by omega), Nat.add_sub_cancel_left])]
    exact ((List.Perm.refl _).append (List.perm_middle (l₁ := wF cA ρK μK) (l₂ := O) (a := kArr kA cK f))).trans (List.perm_middle (l₁ := mm_w 37 ρX cA (shL (xL (.ref kA))) μ') (l₂ := wF cA ρK μK ++ O) (a := kArr kA cK f))
  have hP := pw_P pm2 hP
  have hD := pw_D pm2 hD
  refine lv_iconst (v := nI 1) hx hb dX5_again_33 (by decide) ?_
  exact W.zret (v := nI 1) hx hb hr (by decide) (fun t ht hW => ⟨⟨nI 1, μ', rfl, ⟨rfl, R1⟩, by rw [ht]; exact hP, va_K.moved hW.alike hK, by rw [hAe]; exact hD⟩, by rw [hAe]; exact hS.F ht⟩) hS.2.2 dX5_again_34
set_option maxHeartbeats 4000000 in
set_option maxRecDepth 100000 in
theorem k_keepS (l : Launch) (D : va_G) (cA : Nat → ClassId) (σ ρX : Nat → Nat) (kA : Nat) (μX : mm_U) (cK : ClassId) (f : Nat → Option Nat) (F O : va_W) (s0 : Fo) (hR : RepF s0 μX 1) (j sz : Nat) (hj : j < 2) (hf : (F = [] ∧ f j = none) ∨ ∃ (ρK : Nat → Nat) (μK : mm_U), F = wF cA ρK μK ∧ f j = some (ρK 0)) : Met l yX5_keep (Cond.code yX5_keep cX5_keep 2 (some .boolean) :: mm_tb) { frames := 8, cells := 15, slots := 1798, locals := 300 } (kpPc D cA σ ρX kA μX cK f F O (nI j) sz) (kpQs D cA ρX kA μX cK f F O sz j s0) 15 1798 (va_A (kWd cA ρX kA μX cK f F O) sz) := by
  refine Met.ofWF (cc := cX5_keep) (maxL := 2) (ret := some .boolean) (pl5 rfl) rfl ?_
  intro p e s m args below meth c s₁ B hml hv
  obtain ⟨rfl, hsz, hP, hK, hD0, hN1, hN2, hZ⟩ := hv
  have hx := B.exec
  have hb := B.bytes
  have hr := B.returns
  have hts0 := atoms_spec (ws := Cond.code yX5_keep cX5_keep 2 (some .boolean) :: mm_tb) B.pre
  have hts : ∀ w ∈ mm_tb, w.before _ s = true := fun w hw => hts0 w (List.mem_cons_of_mem _ hw)
  have hown : s.vm.findClass RX5 = some m.cls := findClass_of_methodNamed B.named
  subst hsz
  have hD := hD0.self (sz := s.heap.size)
  generalize hAe : va_A (kWd cA ρX kA μX cK f F O) s.heap.size = A at hD hZ ⊢
  have hA : ∀ q : Nat, s.heap.size ≤ q → A q := fun q h => by rw [← hAe]; exact Or.inr h
  have hS : va_S A s.heap s.heap [] := va_S.rf
  have hK1 : va_K D vwCl (mm_ty cA) s := hK.sub [0, 1] rfl
  have hl := lv_entry ([.ref (ρX 0), .int (nI j)]) (n := 2) (Nat.le_of_ble_eq_true rfl)
  rw [lg_entry_eq]
  generalize (lg_sl ([.ref (ρX 0), .int (nI j)]) ++ List.replicate (2 - (lg_sl ([.ref (ρX 0), .int (nI j)])).length) Slot.unset).toArray = ls at hl ⊢
  have hl : lv_has ls 2 [(0, .ref (ρX 0)), (1, .int (nI j))] := hl
  have k2 : nI j < nI 2 := by rw [Int32.lt_iff_toInt_lt, nI_toInt (by omega), show (nI 2).toInt = 2 from rfl]; omega
  have k0 : ¬ nI j < 0 := nI_pos (by omega)
  have ends : ∀ (ρK : Nat → Nat) (μK : mm_U) (g : Nat → Option Nat) (H : Heap) (locs : List Loc), g j = some (ρK 0) → g = va_up f j (some (ρK 0)) → va_P D vwCl (kWd cA ρX kA μX cK g (wF cA ρK μK) O) H → va_D A (kWd cA ρX kA μX cK g (wF cA ρK μK) O) → va_S A s.heap H locs → W p l e { frames := 8, cells := 15, slots := 1798, locals := 300 } s m #[.ref (ρX 0), .int (nI j)] below meth c H locs 15 1798 (MQ below (kpQs D cA ρX kA μX cK f F O s.heap.size j s0) #[.ref (ρX 0), .int (nI j)] s 15 1798 A) (F0 m 33 ls []) := by
    intro ρK μK g H locs hg eg hP hD hS
    refine lv_aload_n hx hb dX5_keep_33 rfl (lv_at hl 0 rfl) ?_
    refine va_get (ci := 5) (v := .ref kA) (C := RX5) (T := TX5) (N := 4) (ref := RX5) hx hb hts mm_uw5 hown hK hP 1 rfl rfl 3 (by decide) (hts _ (mm_t1 (mm_tq2 (List.mem_of_getElem? (i := 0) rfl)) rfl)) (fun _ h9 => h9) rfl dX5_keep_34 ?_
    refine lv_iload_n hx hb dX5_keep_37 rfl (lv_at hl 1 rfl) ?_
    refine va_aldq hx hb hK hP 0 2 rfl rfl (vp_in_nI hj (by omega)) dX5_keep_38 ?_
    rw [nI_clamp (by omega), hg]
    refine lv_aload_n hx hb dX5_keep_39 rfl (lv_at hl 0 rfl) ?_
    refine va_get (ci := 5) (v := .ref (ρX 1)) (C := RX5) (T := TX5) (N := 4) (ref := RX5) hx hb hts mm_uw5 hown hK hP 1 rfl rfl 0 (by decide) (hts _ (mm_t1 (mm_tq1 (List.mem_of_getElem? (i := 237) rfl)) rfl)) (fun _ h9 => h9) rfl dX5_keep_40 ?_
    have pm : (kWd cA ρX kA μX cK g (wF cA ρK μK) O).Perm (mm_w 52 (j52 ρX ρK) cA (shL (xL (.ref kA) ++ foL 37)) (jm52 μX μK) ++ (kArr kA cK g :: O)) := by
      rw [w52m, List.append_assoc]
      exact (List.perm_middle (l₁ := mm_w 37 ρX cA (shL (xL (.ref kA))) μX) (l₂ := wF cA ρK μK ++ O) (a := kArr kA cK g)).symm.trans ((List.Perm.refl _).append (List.perm_middle (l₁ := wF cA ρK μK) (l₂ := O) (a := kArr kA cK g)).symm)
    refine mm_goV (own := RX5) (idx := 116) (z := zX1_copyOf) (a := 37) (as := [.ref 1]) (rest := []) (ρ := j52 ρX ρK) (σ := σ) ⟨hx, hb, hml, hts, hown, hK1, hA, hZ⟩ vX_116 (sv52 (.ref kA)) (c_copyFoam (g := 1) (sh52_k (.ref kA)) (sh52_n (.ref kA)) (RepF.jn1 hR) (Or.inr (by omega))) rfl rfl rfl (by decide) ⟨by decide, by decide⟩ ⟨Nat.le_of_ble_eq_true rfl, Nat.le_of_ble_eq_true rfl⟩ hl.1 (Nat.le_of_ble_eq_true rfl) dX5_keep_43 (pw_P pm hP) (pw_D pm hD) hS (fun r μ' H1 locs1 hq hP hD hS => ?_)
    obtain ⟨rfl, R1, F1⟩ := hq
    have pm2 : (mm_w 52 (j52 ρX ρK) cA (shL (xL (.ref kA) ++ foL 37)) μ' ++ (kArr kA cK g :: O)).Perm (kWd cA ρX kA μX cK g (wF cA ρK (fun a => μ' (37 + a))) O) := by
      rw [w52, List.append_assoc, show mm_w 37 ρX cA (shL (xL (.ref kA))) μ' = mm_w 37 ρX cA (shL (xL (.ref kA))) μX from mm_w_cg (fun a ha => by rw [F1 a (by omega)]; unfold jm52; rw [if_pos ha])]
      exact ((List.Perm.refl _).append (List.perm_middle (l₁ := wF cA ρK (fun a => μ' (37 + a))) (l₂ := O) (a := kArr kA cK g))).trans (List.perm_middle (l₁ := mm_w 37 ρX cA (shL (xL (.ref kA))) μX) (l₂ := wF cA ρK (fun a => μ' (37 + a)) ++ O) (a := kArr kA cK g))
    have hP := pw_P pm2 hP
    have hD := pw_D pm2 hD
    rw [eg] at hP hD
    refine lv_iconst (v := nI 1) hx hb dX5_keep_46 (by decide) ?_
    exact W.zret (v := nI 1) hx hb hr (by decide) (fun t ht hW => ⟨⟨nI 1, (ρK, fun a => μ' (37 + a)), rfl, ⟨rfl, RepF.sh37 R1⟩, by rw [ht]; exact hP, va_K.moved hW.alike hK, by rw [hAe]; exact hD⟩, by rw [hAe]; exact hS.F ht⟩) hS.2.2 dX5_keep_47
  refine lv_iload_n hx hb dX5_keep_0 rfl (lv_at hl 1 rfl) ?_
  refine lv_if_lt (tgt := 9) hx hb dX5_keep_1 (by decide) (fun q => absurd q k0) (fun _ => ?_)
  refine lv_iload_n hx hb dX5_keep_4 rfl (lv_at hl 1 rfl) ?_
  refine lv_iconst (v := nI 2) hx hb dX5_keep_5 (by decide) ?_
  refine lv_icmp_lt (tgt := 11) hx hb dX5_keep_6 (by decide) (fun _ => ?_) (fun q => absurd k2 q)
  refine lv_aload_n hx hb dX5_keep_11 rfl (lv_at hl 0 rfl) ?_
  refine va_get (ci := 5) (v := .ref kA) (C := RX5) (T := TX5) (N := 4) (ref := RX5) hx hb hts mm_uw5 hown hK hP 1 rfl rfl 3 (by decide) (hts _ (mm_t1 (mm_tq2 (List.mem_of_getElem? (i := 0) rfl)) rfl)) (fun _ h9 => h9) rfl dX5_keep_12 ?_
  refine lv_iload_n hx hb dX5_keep_15 rfl (lv_at hl 1 rfl) ?_
  refine va_aldq hx hb hK hP 0 2 rfl rfl (vp_in_nI hj (by omega)) dX5_keep_16 ?_
  rw [nI_clamp (by omega)]
  rcases hf with ⟨hF, hf⟩ | ⟨ρK, μK, hF, hf⟩
  · rw [hf]
    refine lv_ifnonnullN hx hb dX5_keep_17 ?_
    refine lv_aload_n hx hb dX5_keep_20 rfl (lv_at hl 0 rfl) ?_
    refine va_get (ci := 5) (v := .ref kA) (C := RX5) (T := TX5) (N := 4) (ref := RX5) hx hb hts mm_uw5 hown hK hP 1 rfl rfl 3 (by decide) (hts _ (mm_t1 (mm_tq2 (List.mem_of_getElem? (i := 0) rfl)) rfl)) (fun _ h9 => h9) rfl dX5_keep_21 ?_
    refine lv_iload_n hx hb dX5_keep_24 rfl (lv_at hl 1 rfl) ?_
    refine nw_foam hx hb hml hts hown hK1 hA hN1 hN2 ⟨Nat.le_of_ble_eq_true rfl, Nat.le_of_ble_eq_true rfl⟩ ⟨Nat.le_of_ble_eq_true rfl, Nat.le_of_ble_eq_true rfl⟩ hl.1 (Nat.le_of_ble_eq_true rfl) dX5_keep_25 dX5_keep_28 dX5_keep_29 hP hD hS (fun ρ H1 locs1 hP hD hS => ?_)
    have pm : (kWd cA ρX kA μX cK f F O ++ wF cA ρ μF).Perm (kWd cA ρX kA μX cK f (wF cA ρ μF) O) := by
      rw [hF]
      refine List.Perm.cons _ ?_
      show (mm_w 37 ρX cA (shL (xL (.ref kA))) μX ++ O ++ wF cA ρ μF).Perm (mm_w 37 ρX cA (shL (xL (.ref kA))) μX ++ (wF cA ρ μF ++ O))
      rw [List.append_assoc]
      exact (List.Perm.refl _).append List.perm_append_comm
    have hP := pw_P pm hP
    have hD := pw_D pm hD
    refine va_astq hx hb hK hP hD hS 0 2 38 1 (r := (RX1, TX1, 11)) rfl rfl rfl rfl (vp_in_nI hj (by omega)) dX5_keep_32 (fun H locs hP hD hS => ?_)
    rw [nI_clamp (by omega)] at hP hD
    exact ends ρ μF (va_up f j (some (ρ 0))) H locs (va_up_self _ _ _) rfl hP hD hS
  · rw [hf]
    refine lv_ifnonnull (x := ρK 0) (tgt := 33) hx hb dX5_keep_17 (by decide) ?_
    refine W.widen (k := 15) (n := 1798) (Nat.le_of_ble_eq_true rfl) (Nat.le_of_ble_eq_true rfl) ?_
    rw [hF] at hP hD
    exact ends ρK μK f _ _ hf (by
      funext x
      by_cases z : x = j
      · rw [z, va_up_self, hf]
      · rw [va_up_ne _ _ z]) hP hD hS
