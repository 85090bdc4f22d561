/-! ===== the start ===== -/
theorem lw_len {args : Array Value} {s : State} {t : Term} {q : Nat} {cell : Cell} (h : (Term.length t).eval args s none [] s = some (.int 6)) (ht : t.eval args s none [] s = some (.ref q)) (hat : s.arrayAt? q = some cell) : cell.slots.size = 6 := by
  simp only [Term.eval, Option.bind_eq_bind, ht, hat, Option.bind_some] at h
  by_cases hn : cell.slots.size < 2147483648
  · rw [if_pos hn] at h
    have h2 : cell.slots.size.toInt32 = 6 := by injection h with h; injection h
    have h3 : (nI cell.slots.size).toInt = 6 := by
      rw [show nI cell.slots.size = cell.slots.size.toInt32 from rfl, h2]
      rfl
    rw [nI_toInt (by omega)] at h3
    omega
  · rw [if_neg hn] at h
    cases h
theorem lw_el {args : Array Value} {s : State} {t : Term} {q k : Nat} {cell : Cell} {w i : Int32} (hi : i.toNatClampNeg = k) (ht : t.eval args s none [] s = some (.ref q)) (hat : s.arrayAt? q = some cell) (h : (Cond.eq (.elem t (.int i)) (.int w)).before args s = true) : cell.slots[k]? = some (.int w) := by
  obtain ⟨y, e1, e2⟩ := Cond.eq_one h
  have e3 : some (Value.int w) = some y := e2
  cases e3
  obtain ⟨a, j, c2, a1, a2, a3, -, a4⟩ := Term.elem_spec e1
  cases Option.some.inj (a1.symm.trans ht)
  cases Option.some.inj (a3.symm.trans hat)
  have a5 : some (Value.int i) = some (.int j) := a2
  cases a5
  rw [← hi]
  exact a4
theorem lw_sx {args : Array Value} {s : State} {t : Term} {f : Nat → Int32} (ha : (Cond.arrayOf t .int).before args s = true) (hn : (Cond.eq (.length t) (.int 6)).before args s = true) (e0 : (Cond.eq (.elem t (.int 0)) (.int (f 0))).before args s = true) (e1 : (Cond.eq (.elem t (.int 1)) (.int (f 1))).before args s = true) (e2 : (Cond.eq (.elem t (.int 2)) (.int (f 2))).before args s = true) (e3 : (Cond.eq (.elem t (.int 3)) (.int (f 3))).before args s = true) (e4 : (Cond.eq (.elem t (.int 4)) (.int (f 4))).before args s = true) (e5 : (Cond.eq (.elem t (.int 5)) (.int (f 5))).before args s = true) :
    ∃ q, t.eval args s none [] s = some (.ref q) ∧ va_X q 6 f s s.heap ∧ q < s.heap.size := by
  obtain ⟨y, h1, h2⟩ := Cond.eq_one hn
  have h3 : some (Value.int 6) = some y := h2
  cases h3
  obtain ⟨q, cell, ht, hat, -⟩ := Term.length_spec h1
  obtain ⟨hcb, hkn, -, -⟩ := State.arrayAt?_spec hat
  obtain ⟨hof, -⟩ := Cond.arrayOf_spec ha ht hcb
  refine ⟨q, ht, ⟨cell, hcb, hof, hkn, lw_len h1 ht hat, fun j hj => ?_⟩, (Array.getElem?_eq_some_iff.mp hcb).1⟩
  have : j = 0 ∨ j = 1 ∨ j = 2 ∨ j = 3 ∨ j = 4 ∨ j = 5 := by omega
  rcases this with rfl | rfl | rfl | rfl | rfl | rfl
  · exact lw_el (by decide) ht hat e0
  · exact lw_el (by decide) ht hat e1
  · exact lw_el (by decide) ht hat e2
  · exact lw_el (by decide) ht hat e3
  · exact lw_el (by decide) ht hat e4
  · exact lw_el (by decide) ht hat e5
theorem lw_aof {args : Array Value} {s : State} {ty : FieldType} (h : (Cond.arrayClass ty).before args s = true) : ∃ cA : ClassId, ArrOfT s cA ty ∧ s.vm.findClass ("[" ++ ty.toString) = some cA := by
  obtain ⟨cA, kA, comp, h1, h2, h3⟩ := Cond.arrayClass_spec h
  exact ⟨cA, fun n z => ⟨fun k h => (by cases h), kA, h2, comp, h3⟩, h1⟩
theorem lw_K {args : Array Value} {s : State} (hts : ∀ w ∈ mm_tb, w.before args s = true) : ∃ (D : va_G) (cA : Nat → ClassId), va_K D vwCl (mm_ty cA) s := by
  obtain ⟨d0, i0, k0⟩ := u_known (C := RX0) (T := TX0) (N := 5) hts mm_uw0 (hts _ (mm_t1 (mm_tq1 (List.mem_of_getElem? (i := 76) rfl)) rfl))
  obtain ⟨d1, i1, k1⟩ := u_known (C := RX1) (T := TX1) (N := 11) hts mm_uw1 (hts _ (mm_t1 (mm_tq1 (List.mem_of_getElem? (i := 23) rfl)) rfl))
  obtain ⟨d2, i2, k2⟩ := u_known (C := RX2) (T := TX2) (N := 8) hts mm_uw2 (hts _ (mm_t1 (mm_tq1 (List.mem_of_getElem? (i := 29) rfl)) rfl))
  obtain ⟨d3, i3, k3⟩ := u_known (C := RX3) (T := TX3) (N := 2) hts mm_uw3 (hts _ (mm_t1 (mm_tq1 (List.mem_of_getElem? (i := 147) rfl)) rfl))
  obtain ⟨d4, i4, k4⟩ := u_known (C := RX4) (T := TX4) (N := 8) hts mm_uw4 (hts _ (mm_t1 (mm_tq1 (List.mem_of_getElem? (i := 164) rfl)) rfl))
  obtain ⟨d5, i5, k5⟩ := u_known (C := RX5) (T := TX5) (N := 4) hts mm_uw5 (hts _ (mm_t1 (mm_tq1 (List.mem_of_getElem? (i := 15) rfl)) rfl))
  obtain ⟨d6, i6, k6⟩ := u_known (C := RX6) (T := TX6) (N := 12) hts mm_uw6 (hts _ (mm_t1 (mm_tq4 (List.mem_of_getElem? (i := 202) rfl)) rfl))
  obtain ⟨c0, a0, b0⟩ := lw_aof (hts _ (mm_t1 (mm_tq1 (List.mem_of_getElem? (i := 74) rfl)) rfl))
  obtain ⟨c1, a1, b1⟩ := lw_aof (hts _ (mm_t1 (mm_tq5 (List.mem_of_getElem? (i := 19) rfl)) rfl))
  refine ⟨(fun c => [d0, d1, d2, d3, d4, d5, d6].getD c 0, fun c => [i0, i1, i2, i3, i4, i5, i6].getD c (fun _ => 0)), fun i => if i = 0 then c0 else c1, fun c q hq => ?_, fun k q hq => ?_⟩
  · match c, hq with
    | 0, hq => cases hq; exact k0
    | 1, hq => cases hq; exact k1
    | 2, hq => cases hq; exact k2
    | 3, hq => cases hq; exact k3
    | 4, hq => cases hq; exact k4
    | 5, hq => cases hq; exact k5
    | 6, hq => cases hq; exact k6
    | n + 7, hq => cases hq
  · match k, hq with
    | 0, hq => cases hq; exact ⟨a0, b0⟩
    | 1, hq => cases hq; exact ⟨a1, b1⟩
    | n + 2, hq => cases hq
theorem lw_new (s : State) : ∀ a : Nat, a < s.heap.size → ¬ lwA s a := fun a h => Nat.not_le.mpr h
set_option maxRecDepth 100000 in
theorem lw_Zs {args : Array Value} {s : State} (hts0 : ∀ w ∈ lw_tbl, w.before args s = true) (hgv : (Jvm.Cond.and given_1 narrow_1).before args s = true) : ∃ σ : Nat → Nat, mm_Z σ (lwA s) s s.heap := by
  have hs := flat_of_before _ hgv
  obtain ⟨qX, vX, xX, lX⟩ := lw_sx (t := (.static "FoamCells" "TO_X" "[I")) (f := mm_to 0) (hs (Cond.arrayOf (.static "FoamCells" "TO_X" "[I") .int) (by decide +kernel)) (hs (Cond.eq (.length (.static "FoamCells" "TO_X" "[I")) (.int 6)) (by decide +kernel)) (hs (Cond.eq (.elem (.static "FoamCells" "TO_X" "[I") (.int 0)) (.int (1))) (by decide +kernel)) (hs (Cond.eq (.elem (.static "FoamCells" "TO_X" "[I") (.int 1)) (.int (0))) (by decide +kernel)) (hs (Cond.eq (.elem (.static "FoamCells" "TO_X" "[I") (.int 2)) (.int (-1))) (by decide +kernel)) (hs (Cond.eq (.elem (.static "FoamCells" "TO_X" "[I") (.int 3)) (.int (-1))) (by decide +kernel)) (hs (Cond.eq (.elem (.static "FoamCells" "TO_X" "[I") (.int 4)) (.int (0))) (by decide +kernel)) (hs (Cond.eq (.elem (.static "FoamCells" "TO_X" "[I") (.int 5)) (.int (1))) (by decide +kernel))
  obtain ⟨qY, vY, xY, lY⟩ := lw_sx (t := (.static "FoamCells" "TO_Y" "[I")) (f := mm_to 1) (hs (Cond.arrayOf (.static "FoamCells" "TO_Y" "[I") .int) (by decide +kernel)) (hs (Cond.eq (.length (.static "FoamCells" "TO_Y" "[I")) (.int 6)) (by decide +kernel)) (hs (Cond.eq (.elem (.static "FoamCells" "TO_Y" "[I") (.int 0)) (.int (0))) (by decide +kernel)) (hs (Cond.eq (.elem (.static "FoamCells" "TO_Y" "[I") (.int 1)) (.int (1))) (by decide +kernel)) (hs (Cond.eq (.elem (.static "FoamCells" "TO_Y" "[I") (.int 2)) (.int (1))) (by decide +kernel)) (hs (Cond.eq (.elem (.static "FoamCells" "TO_Y" "[I") (.int 3)) (.int (0))) (by decide +kernel)) (hs (Cond.eq (.elem (.static "FoamCells" "TO_Y" "[I") (.int 4)) (.int (-1))) (by decide +kernel)) (hs (Cond.eq (.elem (.static "FoamCells" "TO_Y" "[I") (.int 5)) (.int (-1))) (by decide +kernel))
  refine ⟨fun t => if t = 0 then qX else qY, ⟨va_Nw.of rfl (hts0 _ (List.mem_append_right _ (mm_tq1 (List.mem_of_getElem? (i := 219) rfl)))), va_Nw.of rfl (hts0 _ (List.mem_append_right _ (mm_tq1 (List.mem_of_getElem? (i := 224) rfl))))⟩, fun t ht => ?_⟩
  have : t = 0 ∨ t = 1 := by omega
  rcases this with rfl | rfl
  · exact ⟨va_Zof (hts0 _ (List.mem_append_right _ (mm_tq1 (List.mem_of_getElem? (i := 220) rfl)))) (hts0 _ (List.mem_append_right _ (mm_tq1 (List.mem_of_getElem? (i := 1) rfl)))) vX (lw_new s), xX, lX, lw_new s _ lX⟩
  · exact ⟨va_Zof (hts0 _ (List.mem_append_right _ (mm_tq1 (List.mem_of_getElem? (i := 225) rfl)))) (hts0 _ (List.mem_append_right _ (mm_tq1 (List.mem_of_getElem? (i := 1) rfl)))) vY (lw_new s), xY, lY, lw_new s _ lY⟩
set_option maxRecDepth 100000 in
theorem lw_NX {args : Array Value} {s : State} (hts0 : ∀ w ∈ lw_tbl, w.before args s = true) (hgv : (Jvm.Cond.and given_1 narrow_1).before args s = true) : ∃ sa : Nat, NXw sa (lwA s) s s.heap := by
  have hs := flat_of_before _ hgv
  have he : (Cond.exactly (.string "FoamCells" 122) "java/lang/String").before args s = true := hs _ (by decide +kernel)
  obtain ⟨sa, h1⟩ : ∃ sa, (Term.string "FoamCells" 122).eval args s none [] s = some (.ref sa) := by
    obtain ⟨a, _, _, _, h, _⟩ := Cond.exactly_spec he
    exact ⟨a, h⟩
  exact ⟨sa, ⟨va_Nw.of rfl (hts0 _ (List.mem_append_right _ (mm_tq4 (List.mem_of_getElem? (i := 118) rfl)))), va_Nw.of rfl (hts0 _ (List.mem_append_right _ (mm_tq4 (List.mem_of_getElem? (i := 120) rfl)))), va_Nw.of rfl (hts0 _ (List.mem_append_right _ (mm_tq4 (List.mem_of_getElem? (i := 122) rfl)))), va_Nw.of rfl (hts0 _ (List.mem_append_right _ (mm_tq4 (List.mem_of_getElem? (i := 116) rfl))))⟩, vx_Zqof (hts0 _ (List.mem_append_right _ (mm_tq4 (List.mem_of_getElem? (i := 141) rfl)))) (hts0 _ (List.mem_append_right _ (mm_tq1 (List.mem_of_getElem? (i := 10) rfl)))) (hs _ (by decide +kernel)) (lw_new s), vx_Zqof (hts0 _ (List.mem_append_right _ (mm_tq4 (List.mem_of_getElem? (i := 143) rfl)))) (hts0 _ (List.mem_append_right _ (mm_tq1 (List.mem_of_getElem? (i := 10) rfl)))) (hs _ (by decide +kernel)) (lw_new s), vk_R.of (hts0 _ (List.mem_append_right _ (mm_tq4 (List.mem_of_getElem? (i := 153) rfl)))) h1⟩
theorem lw_NwX {args : Array Value} {s : State} (hts0 : ∀ w ∈ lw_tbl, w.before args s = true) : NwX s := ⟨va_Nw.of rfl (hts0 _ (List.mem_append_right _ (mm_tq1 (List.mem_of_getElem? (i := 24) rfl)))), va_Nw.of rfl (hts0 _ (List.mem_append_right _ (mm_tq1 (List.mem_of_getElem? (i := 148) rfl)))), va_Nw.of rfl (hts0 _ (List.mem_append_right _ (mm_tq1 (List.mem_of_getElem? (i := 165) rfl)))), ⟨va_Nw.of rfl (hts0 _ (List.mem_append_right _ (mm_tq1 (List.mem_of_getElem? (i := 153) rfl)))), va_Nw.of rfl (hts0 _ (List.mem_append_right _ (mm_tq1 (List.mem_of_getElem? (i := 30) rfl)))), va_Nw.of rfl (hts0 _ (List.mem_append_right _ (mm_tq1 (List.mem_of_getElem? (i := 77) rfl))))⟩, va_AO.of (hts0 _ (List.mem_append_right _ (mm_tq1 (List.mem_of_getElem? (i := 199) rfl))))⟩
theorem lw_trc {l : Launch} (h : l.flags = flags0) : l.stackTraces = false := by unfold Launch.stackTraces; rw [h]; decide +kernel
