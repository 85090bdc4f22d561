set_option maxHeartbeats 4000000 in
set_option maxRecDepth 100000 in
theorem k_sideS (l : Launch) (D : va_G) (cA : Nat → ClassId) (σ ρX : Nat → Nat) (v : Value) (μX : mm_U) (s0 : Fo) (hR : RepF s0 μX 1) (J : Inv s0.1) (c0 : Ce) (hc : 0 < sd s0.1 c0) (y what : Int32) (sz sa : Nat) : Met l yX5_side (Cond.code yX5_side cX5_side 5 (some .int) :: mm_tb) { frames := 8, cells := 0, slots := 0, locals := 300 } (ceP D cA σ ρX v μX [.int (nI c0.val), .int y, .int what] sz sa) (ceQ D cA ρX v μX sz (fun r => r = a_side s0.1 c0 y what)) 0 0 (va_A (wX cA ρX v μX) sz) := by
  refine Met.ofWF (cc := cX5_side) (maxL := 5) (ret := some .int) (pl5 rfl) rfl ?_
  intro p e s m args below meth c s₁ B hml hv
  obtain ⟨rfl, hsz, hP, hK, hD0, hZ, hNX⟩ := hv
  have hx := B.exec
  have hb := B.bytes
  have hr := B.returns
  have hlk : meth.locks = false := BodyLoose.notSynchronized B
  have hts0 := atoms_spec (ws := Cond.code yX5_side cX5_side 5 (some .int) :: mm_tb) B.pre
  have hts : ∀ w ∈ mm_tb, w.before _ s = true := fun w hw => hts0 w (List.mem_cons_of_mem _ hw)
  have hown : s.vm.findClass RX5 = some m.cls := findClass_of_methodNamed B.named
  subst hsz
  have hD := hD0.self (sz := s.heap.size)
  have S : MeshSh (shL (xL v)) 2 := (shX_fo v).2.1
  generalize hAe : va_A (wX cA ρX v μX) s.heap.size = A at hD hZ hNX
  have hA : ∀ q : Nat, s.heap.size ≤ q → A q := fun q h => by rw [← hAe]; exact Or.inr h
  have hS : va_S A s.heap s.heap [] := va_S.rf
  have hl := lv_entry ([.ref (ρX 0), .int (nI c0.val), .int y, .int what]) (n := 5) (Nat.le_of_ble_eq_true rfl)
  rw [lg_entry_eq]
  generalize (lg_sl ([.ref (ρX 0), .int (nI c0.val), .int y, .int what]) ++ List.replicate (5 - (lg_sl ([.ref (ρX 0), .int (nI c0.val), .int y, .int what])).length) Slot.unset).toArray = ls at hl ⊢
  have hl : lv_has ls 5 [(0, .ref (ρX 0)), (1, .int (nI c0.val)), (2, .int y), (3, .int what)] := hl
  refine lv_aload_n hx hb dX5_side_0 rfl (lv_at hl 0 rfl) ?_
  refine va_get (ci := 5) (v := .ref (ρX 1)) (C := RX5) (T := TX5) (N := 4) (ref := RX5) hx hb hts mm_uw5 hown hK hP 0 rfl rfl 0 (by decide) (hts _ (mm_t1 (mm_tq1 (List.mem_of_getElem? (i := 237) rfl)) rfl)) (fun _ h9 => h9) rfl dX5_side_1 ?_
  refine va_get (ci := 1) (v := .ref (ρX 2)) (C := RX1) (T := TX1) (N := 11) (ref := RX1) hx hb hts mm_uw1 hown hK hP 1 rfl rfl 0 (by decide) (hts _ (mm_t1 (mm_tq1 (List.mem_of_getElem? (i := 100) rfl)) rfl)) (fun _ h9 => h9) rfl dX5_side_4 ?_
  refine lv_iload_n hx hb dX5_side_7 rfl (lv_at hl 1 rfl) ?_
  refine mm_goV (own := RX5) (idx := 50) (z := zX2_hasCell) (a := 2) (as := [.int (nI c0.val)]) (rest := []) (ρ := ρX) (σ := σ) (R := []) ⟨hx, hb, hml, hts, hown, hK, hA, hZ⟩ (mm_LK.vk lk5_50) (svX v) (show cl _ _ _ _ (fun r μ' => r = some (.int (nI 1)) ∧ μ' = μX) by rw [c_hasCellS S hR.1 J.sdb hc]; exact ⟨rfl, rfl⟩) rfl rfl rfl (by decide) ⟨by decide, by decide⟩ ⟨Nat.le_of_ble_eq_true rfl, Nat.le_of_ble_eq_true rfl⟩ hl.1 (Nat.le_of_ble_eq_true rfl) dX5_side_8 (by rw [List.append_nil]; exact hP) (by rw [List.append_nil]; exact hD) hS (fun r μ' H1 locs1 hq hP hD hS => ?_)
  obtain ⟨rfl, hμ⟩ := hq
  rw [hμ, List.append_nil] at hP hD
  refine lv_if_ne (tgt := 24) hx hb dX5_side_11 (by decide) (fun _ => ?_) (fun q => absurd q (by decide))
  refine lv_aload_n hx hb dX5_side_24 rfl (lv_at hl 0 rfl) ?_
  refine va_get (ci := 5) (v := .ref (ρX 1)) (C := RX5) (T := TX5) (N := 4) (ref := RX5) hx hb hts mm_uw5 hown hK hP 0 rfl rfl 0 (by decide) (hts _ (mm_t1 (mm_tq1 (List.mem_of_getElem? (i := 237) rfl)) rfl)) (fun _ h9 => h9) rfl dX5_side_25 ?_
  refine va_get (ci := 1) (v := .ref (ρX 2)) (C := RX1) (T := TX1) (N := 11) (ref := RX1) hx hb hts mm_uw1 hown hK hP 1 rfl rfl 0 (by decide) (hts _ (mm_t1 (mm_tq1 (List.mem_of_getElem? (i := 100) rfl)) rfl)) (fun _ h9 => h9) rfl dX5_side_28 ?_
  refine lv_iload_n hx hb dX5_side_31 rfl (lv_at hl 1 rfl) ?_
  refine lv_iload_n hx hb dX5_side_32 rfl (lv_at hl 2 rfl) ?_
  have sb := J.sdb c0
  by_cases hy : y < 0 ∨ nI (sd s0.1 c0) ≤ y
  · have _u := 0
    refine mm_goV (own := RX5) (idx := 82) (z := zX2_halfAt) (a := 2) (as := [.int (nI c0.val), .int y]) (rest := []) (ρ := ρX) (σ := σ) (R := []) ⟨hx, hb, hml, hts, hown, hK, hA, hZ⟩ (mm_LK.vk lk5_82) (svX v) (show cl _ _ _ _ (fun r μ' => r = some (.int (-1)) ∧ μ' = μX) by rw [c_halfAtX S hR.1 c0 hy]; exact ⟨rfl, rfl⟩) rfl rfl rfl (by decide) ⟨by decide, by decide⟩ ⟨Nat.le_of_ble_eq_true rfl, Nat.le_of_ble_eq_true rfl⟩ hl.1 (Nat.le_of_ble_eq_true rfl) dX5_side_33 (by rw [List.append_nil]; exact hP) (by rw [List.append_nil]; exact hD) hS (fun r μ' H1 locs1 hq hP hD hS => ?_)
    obtain ⟨rfl, hμ⟩ := hq
    rw [hμ, List.append_nil] at hP hD
    refine lv_istore hx hb dX5_side_36 hl (by omega) (show _ = [(4, .int (-1)), (0, .ref (ρX 0)), (1, .int (nI c0.val)), (2, .int y), (3, .int what)] from rfl) (fun ls hl => ?_)
    refine lv_iload hx hb dX5_side_38 (lv_at hl 0 rfl) ?_
    refine lv_if_ge (tgt := 45) hx hb dX5_side_40 (by decide) (fun q => absurd q (by decide)) (fun _ => ?_)
    refine lv_iconst (v := -1) hx hb dX5_side_43 (by decide) ?_
    exact W.iret (v := (-1)) hx hb hr (fun t ht hW => ⟨⟨(-1), (), rfl, (show _ = a_side s0.1 c0 y what by unfold a_side; rw [if_pos hy]), by rw [ht]; exact hP, va_K.moved hW.alike hK, by rw [hAe]; exact hD⟩, by rw [hAe]; exact hS.F ht⟩) hS.2.2 dX5_side_44
  · obtain ⟨n, hn, rfl⟩ : ∃ n, n < sd s0.1 c0 ∧ y = nI n := by
      rw [Int32.lt_iff_toInt_lt, Int32.le_iff_toInt_le, nI_toInt (by omega), show (0 : Int32).toInt = 0 from rfl] at hy
      refine ⟨y.toInt.toNat, by omega, Int32.toInt_inj.mp ?_⟩
      rw [nI_toInt (by omega)]
      omega
    obtain ⟨f, fh, lf, of⟩ := J.hasf c0 hc
    have lg : LvH s0.1 (nxi s0.1 n f) := by rw [nxi_itn]; exact (J.1.lit n f lf).1
    have ea : a_side s0.1 c0 (nI n) what = if what = nI 0 then nI (wl (nxi s0.1 n f)).val else if what = nI 1 then nI (ow s0.1 (tw (nxi s0.1 n f))).val else if what = nI 2 then nI (en s0.1 (nxi s0.1 n f)).val else -1 := by
      unfold a_side
      rw [if_neg hy, nI_clamp (by omega), show hI ((fH s0.1 c0).getD 0) = f by rw [fh]; exact hI_val f]
    refine mm_goV (own := RX5) (idx := 82) (z := zX2_halfAt) (a := 2) (as := [.int (nI c0.val), .int (nI n)]) (rest := []) (ρ := ρX) (σ := σ) (R := []) ⟨hx, hb, hml, hts, hown, hK, hA, hZ⟩ (mm_LK.vk lk5_82) (svX v) (show cl _ _ _ _ (fun r μ' => r = some (.int (nI (nxi s0.1 n f).val)) ∧ μ' = μX) by rw [c_halfAt S hR.1 J.sdb (fun h q => J.nl q) c0 f fh lf hn]; exact ⟨rfl, rfl⟩) rfl rfl rfl (by decide) ⟨by decide, by decide⟩ ⟨Nat.le_of_ble_eq_true rfl, Nat.le_of_ble_eq_true rfl⟩ hl.1 (Nat.le_of_ble_eq_true rfl) dX5_side_33 (by rw [List.append_nil]; exact hP) (by rw [List.append_nil]; exact hD) hS (fun r μ' H1 locs1 hq hP hD hS => ?_)
    obtain ⟨rfl, hμ⟩ := hq
    rw [hμ, List.append_nil] at hP hD
    rw [ea]
    clear ea
    generalize nxi s0.1 n f = g at lg ⊢
    have gb := g.isLt
    refine lv_istore hx hb dX5_side_36 hl (by omega) (show _ = [(4, .int (nI g.val)), (0, .ref (ρX 0)), (1, .int (nI c0.val)), (2, .int (nI n)), (3, .int what)] from rfl) (fun ls hl => ?_)
    refine lv_iload hx hb dX5_side_38 (lv_at hl 0 rfl) ?_
    refine lv_if_ge (tgt := 45) hx hb dX5_side_40 (by decide) (fun _ => ?_) (fun q => absurd (Int32.le_iff_toInt_le.mpr (by rw [nI_toInt (by omega), show (0 : Int32).toInt = 0 from rfl]; omega)) q)
    refine lv_iload_n hx hb dX5_side_45 rfl (lv_at hl 4 rfl) ?_
    by_cases w0 : what = nI 0
    · subst w0
      refine lv_tableIn (tgt := 72) hx hb dX5_side_46 (by decide) (by decide) rfl (by decide) ?_
      refine lv_iload hx hb dX5_side_72 (lv_at hl 0 rfl) ?_
      refine lv_iconst (v := nI 2) hx hb dX5_side_74 (by decide) ?_
      refine lv_idiv hx hb dX5_side_75 (by decide) ?_
      rw [wl_div g]
      exact W.iret (v := (nI (wl g).val)) hx hb hr (fun t ht hW => ⟨⟨(nI (wl g).val), (), rfl, (by rw [if_pos rfl]), by rw [ht]; exact hP, va_K.moved hW.alike hK, by rw [hAe]; exact hD⟩, by rw [hAe]; exact hS.F ht⟩) hS.2.2 dX5_side_76
    · have _u := 0
      by_cases w1 : what = nI 1
      · subst w1
        refine lv_tableIn (tgt := 77) hx hb dX5_side_46 (by decide) (by decide) rfl (by decide) ?_
        refine lv_aload_n hx hb dX5_side_77 rfl (lv_at hl 1 rfl) ?_
        refine va_get (ci := 5) (v := .ref (ρX 1)) (C := RX5) (T := TX5) (N := 4) (ref := RX5) hx hb hts mm_uw5 hown hK hP 0 rfl rfl 0 (by decide) (hts _ (mm_t1 (mm_tq1 (List.mem_of_getElem? (i := 237) rfl)) rfl)) (fun _ h9 => h9) rfl dX5_side_78 ?_
        refine va_get (ci := 1) (v := .ref (ρX 2)) (C := RX1) (T := TX1) (N := 11) (ref := RX1) hx hb hts mm_uw1 hown hK hP 1 rfl rfl 0 (by decide) (hts _ (mm_t1 (mm_tq1 (List.mem_of_getElem? (i := 100) rfl)) rfl)) (fun _ h9 => h9) rfl dX5_side_81 ?_
        refine lv_iload hx hb dX5_side_84 (lv_at hl 0 rfl) ?_
        refine mm_goV (own := RX5) (idx := 142) (z := zX2_across) (a := 2) (as := [.int (nI g.val)]) (rest := []) (ρ := ρX) (σ := σ) (R := []) ⟨hx, hb, hml, hts, hown, hK, hA, hZ⟩ vX_142 (svX v) (show cl _ _ _ _ (fun r μ' => r = some (.int (nI (ow s0.1 (tw g)).val)) ∧ μ' = μX) by rw [c_across S hR.1 g lg]; exact ⟨rfl, rfl⟩) rfl rfl rfl (by decide) ⟨by decide, by decide⟩ ⟨Nat.le_of_ble_eq_true rfl, Nat.le_of_ble_eq_true rfl⟩ hl.1 (Nat.le_of_ble_eq_true rfl) dX5_side_86 (by rw [List.append_nil]; exact hP) (by rw [List.append_nil]; exact hD) hS (fun r μ' H1 locs1 hq hP hD hS => ?_)
        obtain ⟨rfl, hμ⟩ := hq
        rw [hμ, List.append_nil] at hP hD
        exact W.iret (v := (nI (ow s0.1 (tw g)).val)) hx hb hr (fun t ht hW => ⟨⟨(nI (ow s0.1 (tw g)).val), (), rfl, (by rw [if_neg (by decide)]; rw [if_pos rfl]), by rw [ht]; exact hP, va_K.moved hW.alike hK, by rw [hAe]; exact hD⟩, by rw [hAe]; exact hS.F ht⟩) hS.2.2 dX5_side_89
      · have _u := 0
        by_cases w2 : what = nI 2
        · subst w2
          refine lv_tableIn (tgt := 90) hx hb dX5_side_46 (by decide) (by decide) rfl (by decide) ?_
          refine lv_aload_n hx hb dX5_side_90 rfl (lv_at hl 1 rfl) ?_
          refine va_get (ci := 5) (v := .ref (ρX 1)) (C := RX5) (T := TX5) (N := 4) (ref := RX5) hx hb hts mm_uw5 hown hK hP 0 rfl rfl 0 (by decide) (hts _ (mm_t1 (mm_tq1 (List.mem_of_getElem? (i := 237) rfl)) rfl)) (fun _ h9 => h9) rfl dX5_side_91 ?_
          refine va_get (ci := 1) (v := .ref (ρX 2)) (C := RX1) (T := TX1) (N := 11) (ref := RX1) hx hb hts mm_uw1 hown hK hP 1 rfl rfl 0 (by decide) (hts _ (mm_t1 (mm_tq1 (List.mem_of_getElem? (i := 100) rfl)) rfl)) (fun _ h9 => h9) rfl dX5_side_94 ?_
          refine lv_iload hx hb dX5_side_97 (lv_at hl 0 rfl) ?_
          refine mm_goV (own := RX5) (idx := 145) (z := zX2_endOf) (a := 2) (as := [.int (nI g.val)]) (rest := []) (ρ := ρX) (σ := σ) (R := []) ⟨hx, hb, hml, hts, hown, hK, hA, hZ⟩ (mm_LK.vk lk5_145) (svX v) (show cl _ _ _ _ (fun r μ' => r = some (.int (nI (en s0.1 g).val)) ∧ μ' = μX) by rw [c_endOf S hR.1 g lg (J.nl lg)]; exact ⟨rfl, rfl⟩) rfl rfl rfl (by decide) ⟨by decide, by decide⟩ ⟨Nat.le_of_ble_eq_true rfl, Nat.le_of_ble_eq_true rfl⟩ hl.1 (Nat.le_of_ble_eq_true rfl) dX5_side_99 (by rw [List.append_nil]; exact hP) (by rw [List.append_nil]; exact hD) hS (fun r μ' H1 locs1 hq hP hD hS => ?_)
          obtain ⟨rfl, hμ⟩ := hq
          rw [hμ, List.append_nil] at hP hD
          exact W.iret (v := (nI (en s0.1 g).val)) hx hb hr (fun t ht hW => ⟨⟨(nI (en s0.1 g).val), (), rfl, (by rw [if_neg (by decide)]; rw [if_neg (by decide)]; rw [if_pos rfl]), by rw [ht]; exact hP, va_K.moved hW.alike hK, by rw [hAe]; exact hD⟩, by rw [hAe]; exact hS.F ht⟩) hS.2.2 dX5_side_102
        · have _u := 0
          have hts9 : what.toInt < 0 ∨ 2 < what.toInt := by
            rcases Int.lt_or_le what.toInt 0 with q | q
            · exact Or.inl q
            · rcases Int.lt_or_le 2 what.toInt with q2 | q2
              · exact Or.inr q2
              · exfalso
                have hh : ∀ j : Nat, j < 3 → what.toInt = j → what = nI j := fun j hj e => Int32.toInt_inj.mp (by rw [e, nI_toInt (by omega)])
                have : what.toInt = 0 ∨ what.toInt = 1 ∨ what.toInt = 2 := by omega
                rcases this with e | e | e
                · exact w0 (hh 0 (by omega) e)
                · exact w1 (hh 1 (by omega) e)
                · exact w2 (hh 2 (by omega) e)
          refine lv_tableOut (tgt := 103) hx hb dX5_side_46 hts9 (by decide) ?_
          refine lv_iconst (v := -1) hx hb dX5_side_103 (by decide) ?_
          exact W.iret (v := (-1)) hx hb hr (fun t ht hW => ⟨⟨(-1), (), rfl, (by rw [if_neg w0, if_neg w1, if_neg w2]), by rw [ht]; exact hP, va_K.moved hW.alike hK, by rw [hAe]; exact hD⟩, by rw [hAe]; exact hS.F ht⟩) hS.2.2 dX5_side_104
