/-- the three halves round a cell of three, seen from outside, by their walls -/
def vu (M : Ms) (c : Ce) : Hf × Hf × Hf :=
  let h := hI ((fH M c).getD 0)
  if (wl (nx M h)).val < (wl (pv M h)).val then (tw h, tw (nx M h), tw (pv M h)) else (tw h, tw (pv M h), tw (nx M h))
def vaC (M : Ms) (c : Ce) : Ms := vaM M c (vu M c).1 (vu M c).2.1 (vu M c).2.2
/-- what every mesh of a run must keep -/
def GoodI (I : Ms → Prop) : Prop :=
  (∀ M, I M → SdB M ∧ LvN M)
  ∧ (∀ M w, I M → lv M w = true → can M w = true → FlOk M w ∧ I (flM M w))
  ∧ (∀ M p, I M → I (groM M p 48)) ∧ (∀ M, I M → I (strM M 144))
  ∧ (∀ M c, I M → 0 < sd M c → 3 ≤ sd M c)
  ∧ (∀ M c, I M → 0 < sd M c → ∃ h : Hf, fH M c = some h.val ∧ lv M (wl h) = true ∧ lv M (wl (nx M h)) = true ∧ lv M (wl (pv M h)) = true ∧ (canS M c h = true → VaOk M c (vu M c).1 (vu M c).2.1 (vu M c).2.2 ∧ I (vaC M c)))
  ∧ (∀ M c w, I M → shs M c = some w → lv M w = true ∧ can M w = true)
  ∧ (∀ M, I M → ¬ (es M).1 < 0 → ∃ w : Wa, (es M).1 = nI w.val ∧ lv M w = true ∧ can M w = true)
/-- a cell gives way -/
def gvW (s : Fo) (c : Ce) : Fo :=
  if 3 < sd s.1 c then (match shs s.1 c with
    | some w => fEv s (flM s.1 w) 0 7 (nI w.val)
    | none => s)
  else if canS s.1 c (hI ((fH s.1 c).getD 0)) = true then fEv s (vaC s.1 c) 1 8 (nI c.val) else s
def goW (i : Nat) (s : Fo) : Fo := if lv s.1 (wI i) = true then (if ln s.1 (wI i) = 0 then (if can s.1 (wI i) = true then fEv s (flM s.1 (wI i)) 0 7 (nI i) else s) else s) else s
def goC (i : Nat) (s : Fo) : Fo := if 0 < sd s.1 (cI i) then (if 0 < ar s.1 (cI i) then s else gvW s (cI i)) else s
/-- one STEP -/
def goS (s : Fo) : Fo := (strM (groM s.1 (s.2.2.2 5) 48) 144, s.2.1, s.2.2.1, upd s.2.2.2 6 (s.2.2.2 6 + nI 1))
def goF (s : Fo) : Fo := it goC 48 0 (it goW 144 0 (goS s))
section FO3
variable {sh : mm_Sh} {f : Nat} {μ μ1 : mm_U} {s : Fo} {I : Ms → Prop}
theorem c_giveWay (F : FoSh sh f) (G : GoodI I) (R : RepF s μ f) (hI_ : I s.1) (c : Ce) (hc : 0 < sd s.1 c) : cl sh zX1_giveWay [.ref f, .int (nI c.val)] μ (fun r μ' => r = none ∧ (RepF (gvW s c) μ' f ∧ I (gvW s c).1) ∧ FrF μ μ' f) := by
  obtain ⟨g1, g2, g3, g4, g5, g6, g7, g8⟩ := G
  obtain ⟨B, L⟩ := g1 _ hI_
  have S := F.2.1
  have cb := c.isLt
  have rs := R.1.2.2.2.1 c
  have bs := B c
  show wp sh zX1_giveWay 0 [.ref f, .int (nI c.val), .null] [] μ _
  unfold gvW
  by_cases h3 : 3 < sd s.1 c
  · have h4 : (sd s.1 c ≤ 3) = False := eq_false (by omega)
    have E1 : ∀ Q', cl sh zX2_shortestSide [.ref (f + 1), .int (nI c.val)] μ Q' = Q' (some (.int (wo (shs s.1 c)))) μ := fun Q' => c_shortestSide S R.1 B L c
    simp only [h3, if_true]
    cases hs : shs s.1 c with
    | none =>
      rw [hs] at E1
      simp (disch := first | omega | assumption) only [wp_al0 (y := zX1_giveWay) dX1_giveWay_0, wp_getf (y := zX1_giveWay) kF1_12 dX1_giveWay_1, wp_getf (y := zX1_giveWay) kF1_121 dX1_giveWay_4, wp_il1 (y := zX1_giveWay) dX1_giveWay_7, wp_iald (y := zX1_giveWay) dX1_giveWay_8, wp_iconst (y := zX1_giveWay) (nI 3) ki_3 dX1_giveWay_9, wp_icmp_le (y := zX1_giveWay) 34 (by decide) dX1_giveWay_10, wp_al0 (y := zX1_giveWay) dX1_giveWay_13, wp_getf (y := zX1_giveWay) kF1_12 dX1_giveWay_14, wp_il1 (y := zX1_giveWay) dX1_giveWay_17, wp_cv1 (y := zX1_giveWay) kM1_124 (by decide) dX1_giveWay_18, (show yo zX2_shortestSide = 2 from rfl), wp_is2 (y := zX1_giveWay) dX1_giveWay_21, wp_il2 (y := zX1_giveWay) dX1_giveWay_22, wp_if_lt (y := zX1_giveWay) 31 (by decide) dX1_giveWay_23, wp_al0 (y := zX1_giveWay) dX1_giveWay_26, wp_il2 (y := zX1_giveWay) dX1_giveWay_27, wp_cv1 (y := zX1_giveWay) kM1_109 (by decide) dX1_giveWay_28, (show yo zX1_flipWall = 1 from rfl), wp_goto (y := zX1_giveWay) 51 (by decide) dX1_giveWay_31, wp_vret (y := zX1_giveWay) rfl dX1_giveWay_51, mm_op_some, true_and, and_true, mm_rc_some, mm_rc_none, nI_xor, tw_xor, pk_mul, nI_add, mm_in_t, nI_clamp, ok0, ok1, ok2, ok3, ok4, n1_0, n0_0, n0_zz, n1_zz, bI_eq0, bI_ne0, bI_zz, nI_le_, nI_lt_, nI_eq_, nI_lt0, nI_ge0, nI_gt0, nI_le0, nI_eq0, m1_lt0, m1_ge0, if_true, if_false, not_true, not_false_eq_true, Classical.not_not, true_or, or_true, false_or, n1_1, k10, Bool.true_eq_false, Bool.false_eq_true, Nat.le_refl, and_self, and_false, false_and, or_self, or_false, i_irr, i_rfl, F.oc, F.g0, F.g1, F.g2, F.g3, F.g4, F.g5, F.g6, F.g7, F.g8, F.g9, F.g10, F.p3, F.p4, F.p5, F.p6, F.p7, F.p8, F.p9, F.p10, F.a14, S.oc, S.g0, S.g1, S.g2, S.g3, S.g4, S.g5, S.g6, S.g7, S.a1, S.a2, S.a3, S.a4, S.a5, S.a6, S.a7, S.a8, rs, h4, E1, wo_n]
      exact ⟨⟨R, hI_⟩, FrF.refl _ _⟩
    | some w =>
      rw [hs] at E1
      have wb := w.isLt
      obtain ⟨q1, q2⟩ := g7 _ c w hI_ hs
      obtain ⟨q3, q4⟩ := g2 _ w hI_ q1 q2
      simp (disch := first | omega | assumption) only [wp_al0 (y := zX1_giveWay) dX1_giveWay_0, wp_getf (y := zX1_giveWay) kF1_12 dX1_giveWay_1, wp_getf (y := zX1_giveWay) kF1_121 dX1_giveWay_4, wp_il1 (y := zX1_giveWay) dX1_giveWay_7, wp_iald (y := zX1_giveWay) dX1_giveWay_8, wp_iconst (y := zX1_giveWay) (nI 3) ki_3 dX1_giveWay_9, wp_icmp_le (y := zX1_giveWay) 34 (by decide) dX1_giveWay_10, wp_al0 (y := zX1_giveWay) dX1_giveWay_13, wp_getf (y := zX1_giveWay) kF1_12 dX1_giveWay_14, wp_il1 (y := zX1_giveWay) dX1_giveWay_17, wp_cv1 (y := zX1_giveWay) kM1_124 (by decide) dX1_giveWay_18, (show yo zX2_shortestSide = 2 from rfl), wp_is2 (y := zX1_giveWay) dX1_giveWay_21, wp_il2 (y := zX1_giveWay) dX1_giveWay_22, wp_if_lt (y := zX1_giveWay) 31 (by decide) dX1_giveWay_23, wp_al0 (y := zX1_giveWay) dX1_giveWay_26, wp_il2 (y := zX1_giveWay) dX1_giveWay_27, wp_cv1 (y := zX1_giveWay) kM1_109 (by decide) dX1_giveWay_28, (show yo zX1_flipWall = 1 from rfl), mm_op_some, true_and, and_true, mm_rc_some, mm_rc_none, nI_xor, tw_xor, pk_mul, nI_add, mm_in_t, nI_clamp, ok0, ok1, ok2, ok3, ok4, n1_0, n0_0, n0_zz, n1_zz, bI_eq0, bI_ne0, bI_zz, nI_le_, nI_lt_, nI_eq_, nI_lt0, nI_ge0, nI_gt0, nI_le0, nI_eq0, m1_lt0, m1_ge0, if_true, if_false, not_true, not_false_eq_true, Classical.not_not, true_or, or_true, false_or, n1_1, k10, Bool.true_eq_false, Bool.false_eq_true, Nat.le_refl, and_self, and_false, false_and, or_self, or_false, i_irr, i_rfl, F.oc, F.g0, F.g1, F.g2, F.g3, F.g4, F.g5, F.g6, F.g7, F.g8, F.g9, F.g10, F.p3, F.p4, F.p5, F.p6, F.p7, F.p8, F.p9, F.p10, F.a14, S.oc, S.g0, S.g1, S.g2, S.g3, S.g4, S.g5, S.g6, S.g7, S.a1, S.a2, S.a3, S.a4, S.a5, S.a6, S.a7, S.a8, rs, h4, E1, wo_s]
      refine cl_mono (c_flipWall F R B w q3) ?_
      rintro r μ1 ⟨rfl, R1, F1⟩
      simp (disch := first | omega | assumption) only [wp_goto (y := zX1_giveWay) 51 (by decide) dX1_giveWay_31, wp_vret (y := zX1_giveWay) rfl dX1_giveWay_51, mm_op_some, true_and, and_true, mm_rc_some, mm_rc_none, nI_xor, tw_xor, pk_mul, nI_add, mm_in_t, nI_clamp, ok0, ok1, ok2, ok3, ok4, n1_0, n0_0, n0_zz, n1_zz, bI_eq0, bI_ne0, bI_zz, nI_le_, nI_lt_, nI_eq_, nI_lt0, nI_ge0, nI_gt0, nI_le0, nI_eq0, m1_lt0, m1_ge0, if_true, if_false, not_true, not_false_eq_true, Classical.not_not, true_or, or_true, false_or, n1_1, k10, Bool.true_eq_false, Bool.false_eq_true, Nat.le_refl, and_self, and_false, false_and, or_self, or_false, i_irr, i_rfl]
      exact ⟨⟨R1, q4⟩, F1⟩
  · have h4 : (sd s.1 c ≤ 3) = True := eq_true (by omega)
    obtain ⟨h, q1, q2, q3, q4, q5⟩ := g6 _ c hI_ hc
    have eh : hI ((fH s.1 c).getD 0) = h := by rw [q1]; exact hI_val h
    simp only [h3, if_false, eh]
    have E1 : ∀ Q', cl sh zX2_canShrink [.ref (f + 1), .int (nI c.val)] μ Q' = Q' (some (.int (bI (canS s.1 c h)))) μ := fun Q' => c_canShrink S R.1 B c h q1 q2 q3 q4
    by_cases hs : canS s.1 c h = true
    · obtain ⟨q6, q7⟩ := q5 hs
      rw [hs] at E1
      simp only [hs, if_true]
      simp (disch := first | omega | assumption) only [wp_al0 (y := zX1_giveWay) dX1_giveWay_0, wp_getf (y := zX1_giveWay) kF1_12 dX1_giveWay_1, wp_getf (y := zX1_giveWay) kF1_121 dX1_giveWay_4, wp_il1 (y := zX1_giveWay) dX1_giveWay_7, wp_iald (y := zX1_giveWay) dX1_giveWay_8, wp_iconst (y := zX1_giveWay) (nI 3) ki_3 dX1_giveWay_9, wp_icmp_le (y := zX1_giveWay) 34 (by decide) dX1_giveWay_10, wp_al0 (y := zX1_giveWay) dX1_giveWay_34, wp_getf (y := zX1_giveWay) kF1_12 dX1_giveWay_35, wp_il1 (y := zX1_giveWay) dX1_giveWay_38, wp_cv1 (y := zX1_giveWay) kM1_127 (by decide) dX1_giveWay_39, (show yo zX2_canShrink = 2 from rfl), wp_if_eq (y := zX1_giveWay) 51 (by decide) dX1_giveWay_42, wp_al0 (y := zX1_giveWay) dX1_giveWay_45, wp_il1 (y := zX1_giveWay) dX1_giveWay_46, wp_cv1 (y := zX1_giveWay) kM1_130 (by decide) dX1_giveWay_47, (show yo zX1_shrinkCell = 1 from rfl), mm_op_some, true_and, and_true, mm_rc_some, mm_rc_none, nI_xor, tw_xor, pk_mul, nI_add, mm_in_t, nI_clamp, ok0, ok1, ok2, ok3, ok4, n1_0, n0_0, n0_zz, n1_zz, bI_eq0, bI_ne0, bI_zz, nI_le_, nI_lt_, nI_eq_, nI_lt0, nI_ge0, nI_gt0, nI_le0, nI_eq0, m1_lt0, m1_ge0, if_true, if_false, not_true, not_false_eq_true, Classical.not_not, true_or, or_true, false_or, n1_1, k10, Bool.true_eq_false, Bool.false_eq_true, Nat.le_refl, and_self, and_false, false_and, or_self, or_false, i_irr, i_rfl, F.oc, F.g0, F.g1, F.g2, F.g3, F.g4, F.g5, F.g6, F.g7, F.g8, F.g9, F.g10, F.p3, F.p4, F.p5, F.p6, F.p7, F.p8, F.p9, F.p10, F.a14, S.oc, S.g0, S.g1, S.g2, S.g3, S.g4, S.g5, S.g6, S.g7, S.a1, S.a2, S.a3, S.a4, S.a5, S.a6, S.a7, S.a8, rs, h4, E1, bI_t]
      refine cl_mono (c_shrinkCell F R B c _ _ _ q6) ?_
      rintro r μ1 ⟨rfl, R1, F1⟩
      simp (disch := first | omega | assumption) only [wp_pop_int (y := zX1_giveWay) dX1_giveWay_50, wp_vret (y := zX1_giveWay) rfl dX1_giveWay_51, mm_op_some, true_and, and_true, mm_rc_some, mm_rc_none, nI_xor, tw_xor, pk_mul, nI_add, mm_in_t, nI_clamp, ok0, ok1, ok2, ok3, ok4, n1_0, n0_0, n0_zz, n1_zz, bI_eq0, bI_ne0, bI_zz, nI_le_, nI_lt_, nI_eq_, nI_lt0, nI_ge0, nI_gt0, nI_le0, nI_eq0, m1_lt0, m1_ge0, if_true, if_false, not_true, not_false_eq_true, Classical.not_not, true_or, or_true, false_or, n1_1, k10, Bool.true_eq_false, Bool.false_eq_true, Nat.le_refl, and_self, and_false, false_and, or_self, or_false, i_irr, i_rfl]
      exact ⟨⟨R1, q7⟩, F1⟩
    · have hs' : canS s.1 c h = false := Bool.eq_false_iff.mpr hs
      rw [hs'] at E1
      simp only [hs', if_false, Bool.false_eq_true]
      simp (disch := first | omega | assumption) only [wp_al0 (y := zX1_giveWay) dX1_giveWay_0, wp_getf (y := zX1_giveWay) kF1_12 dX1_giveWay_1, wp_getf (y := zX1_giveWay) kF1_121 dX1_giveWay_4, wp_il1 (y := zX1_giveWay) dX1_giveWay_7, wp_iald (y := zX1_giveWay) dX1_giveWay_8, wp_iconst (y := zX1_giveWay) (nI 3) ki_3 dX1_giveWay_9, wp_icmp_le (y := zX1_giveWay) 34 (by decide) dX1_giveWay_10, wp_al0 (y := zX1_giveWay) dX1_giveWay_34, wp_getf (y := zX1_giveWay) kF1_12 dX1_giveWay_35, wp_il1 (y := zX1_giveWay) dX1_giveWay_38, wp_cv1 (y := zX1_giveWay) kM1_127 (by decide) dX1_giveWay_39, (show yo zX2_canShrink = 2 from rfl), wp_if_eq (y := zX1_giveWay) 51 (by decide) dX1_giveWay_42, wp_vret (y := zX1_giveWay) rfl dX1_giveWay_51, mm_op_some, true_and, and_true, mm_rc_some, mm_rc_none, nI_xor, tw_xor, pk_mul, nI_add, mm_in_t, nI_clamp, ok0, ok1, ok2, ok3, ok4, n1_0, n0_0, n0_zz, n1_zz, bI_eq0, bI_ne0, bI_zz, nI_le_, nI_lt_, nI_eq_, nI_lt0, nI_ge0, nI_gt0, nI_le0, nI_eq0, m1_lt0, m1_ge0, if_true, if_false, not_true, not_false_eq_true, Classical.not_not, true_or, or_true, false_or, n1_1, k10, Bool.true_eq_false, Bool.false_eq_true, Nat.le_refl, and_self, and_false, false_and, or_self, or_false, i_irr, i_rfl, F.oc, F.g0, F.g1, F.g2, F.g3, F.g4, F.g5, F.g6, F.g7, F.g8, F.g9, F.g10, F.p3, F.p4, F.p5, F.p6, F.p7, F.p8, F.p9, F.p10, F.a14, S.oc, S.g0, S.g1, S.g2, S.g3, S.g4, S.g5, S.g6, S.g7, S.a1, S.a2, S.a3, S.a4, S.a5, S.a6, S.a7, S.a8, rs, h4, E1, bI_f]
      exact ⟨⟨R, hI_⟩, FrF.refl _ _⟩
theorem c_goOn (F : FoSh sh f) (G : GoodI I) (R : RepF s μ f) (hI_ : I s.1) : cl sh zX1_goOn [.ref f] μ (fun r μ' => r = none ∧ (RepF (goF s) μ' f ∧ I (goF s).1) ∧ FrF μ μ' f) := by
  have G0 := G
  obtain ⟨g1, g2, g3, g4, g5, g6, g7, g8⟩ := G
  obtain ⟨B, L⟩ := g1 _ hI_
  have S := F.2.1
  have Soc := S.oc
  have r6 := R.2.2.2 6 (by omega) (by omega)
  have R1 := R.fld 6 (s.2.2.2 6 + nI 1)
  have F1 := (FrF.refl μ f).mu (upd (μ f) 6 (s.2.2.2 6 + nI 1)) (Nat.le_refl f) (by omega)
  have r5 := R1.2.2.2 5 (by omega) (by omega)
  dsimp only at r5
  rw [upd_n _ _ (by omega)] at r5
  show wp sh zX1_goOn 0 [.ref f, .null] [] μ _
  simp (disch := first | omega | assumption) only [wp_al0 (y := zX1_goOn) dX1_goOn_0, wp_dup_int (y := zX1_goOn) dX1_goOn_1, wp_dup_ref (y := zX1_goOn) dX1_goOn_1, wp_getf (y := zX1_goOn) kF1_39 dX1_goOn_2, wp_iconst (y := zX1_goOn) (nI 1) ki_1 dX1_goOn_5, wp_iadd (y := zX1_goOn) dX1_goOn_6, wp_putf (y := zX1_goOn) kF1_39 rfl dX1_goOn_7, wp_al0 (y := zX1_goOn) dX1_goOn_10, wp_getf (y := zX1_goOn) kF1_12 dX1_goOn_11, wp_al0 (y := zX1_goOn) dX1_goOn_14, wp_getf (y := zX1_goOn) kF1_29 dX1_goOn_15, wp_cv1 (y := zX1_goOn) kM1_93 (by decide) dX1_goOn_18, (show yo zX2_growAreas = 2 from rfl), mm_op_some, true_and, and_true, mm_rc_some, mm_rc_none, nI_xor, tw_xor, pk_mul, nI_add, mm_in_t, nI_clamp, ok0, ok1, ok2, ok3, ok4, n1_0, n0_0, n0_zz, n1_zz, bI_eq0, bI_ne0, bI_zz, nI_le_, nI_lt_, nI_eq_, nI_lt0, nI_ge0, nI_gt0, nI_le0, nI_eq0, m1_lt0, m1_ge0, if_true, if_false, not_true, not_false_eq_true, Classical.not_not, true_or, or_true, false_or, n1_1, k10, Bool.true_eq_false, Bool.false_eq_true, Nat.le_refl, and_self, and_false, false_and, or_self, or_false, i_irr, i_rfl, F.oc, F.g0, F.g1, F.g2, F.g3, F.g4, F.g5, F.g6, F.g7, F.g8, F.g9, F.g10, F.p3, F.p4, F.p5, F.p6, F.p7, F.p8, F.p9, F.p10, F.a14, Soc, r6, r5]
  refine cl_mono (c_growAreas S R1.1 B (s.2.2.2 5)) ?_
  rintro r μ2 ⟨rfl, R2, F2⟩
  have I2 := g3 _ (s.2.2.2 5) hI_
  obtain ⟨B2, L2⟩ := g1 _ I2
  simp (disch := first | omega | assumption) only [wp_al0 (y := zX1_goOn) dX1_goOn_21, wp_getf (y := zX1_goOn) kF1_12 dX1_goOn_22, wp_cv0 (y := zX1_goOn) kM1_96 (by decide) dX1_goOn_25, (show yo zX2_stretchWalls = 2 from rfl), mm_op_some, true_and, and_true, mm_rc_some, mm_rc_none, nI_xor, tw_xor, pk_mul, nI_add, mm_in_t, nI_clamp, ok0, ok1, ok2, ok3, ok4, n1_0, n0_0, n0_zz, n1_zz, bI_eq0, bI_ne0, bI_zz, nI_le_, nI_lt_, nI_eq_, nI_lt0, nI_ge0, nI_gt0, nI_le0, nI_eq0, m1_lt0, m1_ge0, if_true, if_false, not_true, not_false_eq_true, Classical.not_not, true_or, or_true, false_or, n1_1, k10, Bool.true_eq_false, Bool.false_eq_true, Nat.le_refl, and_self, and_false, false_and, or_self, or_false, i_irr, i_rfl, F.oc, F.g0, F.g1, F.g2, F.g3, F.g4, F.g5, F.g6, F.g7, F.g8, F.g9, F.g10, F.p3, F.p4, F.p5, F.p6, F.p7, F.p8, F.p9, F.p10, F.a14, Soc]
  refine cl_mono (c_stretchWalls S R2 B2 L2) ?_
  rintro r μ3 ⟨rfl, R3, F3⟩
  have I3 := g4 _ I2
  have R4 := (R1.mesh R2 F2).mesh R3 F3
  have F4 := (F1.trans (Fr.f F2)).trans (Fr.f F3)
  change RepF (goS s) μ3 f at R4
  change I (goS s).1 at I3
  simp (disch := first | omega | assumption) only [wp_iconst (y := zX1_goOn) (nI 0) ki_0 dX1_goOn_28, wp_is1 (y := zX1_goOn) dX1_goOn_29, mm_op_some, true_and, and_true, mm_rc_some, mm_rc_none, nI_xor, tw_xor, pk_mul, nI_add, mm_in_t, nI_clamp, ok0, ok1, ok2, ok3, ok4, n1_0, n0_0, n0_zz, n1_zz, bI_eq0, bI_ne0, bI_zz, nI_le_, nI_lt_, nI_eq_, nI_lt0, nI_ge0, nI_gt0, nI_le0, nI_eq0, m1_lt0, m1_ge0, if_true, if_false, not_true, not_false_eq_true, Classical.not_not, true_or, or_true, false_or, n1_1, k10, Bool.true_eq_false, Bool.false_eq_true, Nat.le_refl, and_self, and_false, false_and, or_self, or_false, i_irr, i_rfl]
  unfold goF
  generalize goS s = s4 at R4 I3 ⊢
  refine lpI 144 (fun i μ1 => wp sh zX1_goOn 30 [.ref f, .int (nI i)] [] μ1 (fun r μ' => r = none ∧ (RepF (it goC 48 0 (it goW 144 0 s4)) μ' f ∧ I (it goC 48 0 (it goW 144 0 s4)).1) ∧ FrF μ μ' f)) (fun i μ1 => (RepF (it goW i 0 s4) μ1 f ∧ I (it goW i 0 s4).1) ∧ FrF μ μ1 f) ?_ ?_ μ3 ⟨⟨R4, I3⟩, F4⟩
  · rintro i μ4 hi ⟨⟨R5, I5⟩, F5⟩ kk
    rw [it_last0] at kk
    generalize it goW i 0 s4 = s5 at R5 I5 kk
    obtain ⟨B5, L5⟩ := g1 _ I5
    have h9 : ¬ 144 ≤ i := by omega
    have iv := wI_lt hi
    rw [wp_il1 (y := zX1_goOn) dX1_goOn_30]
    unfold goW at kk
    by_cases hl : lv s5.1 (wI i) = true
    · have E1 : ∀ Q', cl sh zX2_hasWall [.ref (f + 1), .int (nI i)] μ4 Q' = Q' (some (.int (nI 1))) μ4 := fun Q' => c_hasWall1 S R5.1 hi hl
      have rl : μ4 (f + 1 + 6) i = ln s5.1 (wI i) := by
        have := R5.1.2.2.1 (wI i) hl
        rw [iv] at this
        exact this
      simp only [hl, if_true] at kk
      by_cases h0_ : ln s5.1 (wI i) = 0
      · simp only [h0_, if_true] at kk
        have E2 : ∀ Q', cl sh zX2_canFlip [.ref (f + 1), .int (nI i)] μ4 Q' = Q' (some (.int (bI (can s5.1 (wI i))))) μ4 := fun Q' => by
          have := c_canFlip (Q := Q') S R5.1 B5 L5 (wI i) hl
          rw [iv] at this
          exact this
        by_cases hc : can s5.1 (wI i) = true
        · simp only [hc, if_true] at kk
          rw [hc] at E2
          obtain ⟨q3, q4⟩ := g2 _ _ I5 hl hc
          have K := c_flipWall F R5 B5 (wI i) q3
          rw [iv] at K
          simp (disch := first | omega | assumption) only [wp_sipush (y := zX1_goOn) (nI 144) ks_144 dX1_goOn_31, wp_icmp_ge (y := zX1_goOn) 82 (by decide) dX1_goOn_34, wp_al0 (y := zX1_goOn) dX1_goOn_37, wp_getf (y := zX1_goOn) kF1_12 dX1_goOn_38, wp_il1 (y := zX1_goOn) dX1_goOn_41, wp_cv1 (y := zX1_goOn) kM1_99 (by decide) dX1_goOn_42, (show yo zX2_hasWall = 2 from rfl), wp_if_eq (y := zX1_goOn) 76 (by decide) dX1_goOn_45, wp_al0 (y := zX1_goOn) dX1_goOn_48, wp_getf (y := zX1_goOn) kF1_12 dX1_goOn_49, wp_getf (y := zX1_goOn) kF1_103 dX1_goOn_52, wp_il1 (y := zX1_goOn) dX1_goOn_55, wp_iald (y := zX1_goOn) dX1_goOn_56, wp_if_ne (y := zX1_goOn) 76 (by decide) dX1_goOn_57, wp_al0 (y := zX1_goOn) dX1_goOn_60, wp_getf (y := zX1_goOn) kF1_12 dX1_goOn_61, wp_il1 (y := zX1_goOn) dX1_goOn_64, wp_cv1 (y := zX1_goOn) kM1_106 (by decide) dX1_goOn_65, (show yo zX2_canFlip = 2 from rfl), wp_if_eq (y := zX1_goOn) 76 (by decide) dX1_goOn_68, wp_al0 (y := zX1_goOn) dX1_goOn_71, wp_il1 (y := zX1_goOn) dX1_goOn_72, wp_cv1 (y := zX1_goOn) kM1_109 (by decide) dX1_goOn_73, (show yo zX1_flipWall = 1 from rfl), mm_op_some, true_and, and_true, mm_rc_some, mm_rc_none, nI_xor, tw_xor, pk_mul, nI_add, mm_in_t, nI_clamp, ok0, ok1, ok2, ok3, ok4, n1_0, n0_0, n0_zz, n1_zz, bI_eq0, bI_ne0, bI_zz, nI_le_, nI_lt_, nI_eq_, nI_lt0, nI_ge0, nI_gt0, nI_le0, nI_eq0, m1_lt0, m1_ge0, if_true, if_false, not_true, not_false_eq_true, Classical.not_not, true_or, or_true, false_or, n1_1, k10, Bool.true_eq_false, Bool.false_eq_true, Nat.le_refl, and_self, and_false, false_and, or_self, or_false, i_irr, i_rfl, F.oc, F.g0, F.g1, F.g2, F.g3, F.g4, F.g5, F.g6, F.g7, F.g8, F.g9, F.g10, F.p3, F.p4, F.p5, F.p6, F.p7, F.p8, F.p9, F.p10, F.a14, S.oc, S.g0, S.g1, S.g2, S.g3, S.g4, S.g5, S.g6, S.g7, S.a1, S.a2, S.a3, S.a4, S.a5, S.a6, S.a7, S.a8, h9, E1, rl, h0_, E2, bI_t]
          refine cl_mono K ?_
          rintro r μ5 ⟨rfl, R6, F6⟩
          simp (disch := first | omega | assumption) only [wp_inc1 (y := zX1_goOn) (nI 1) ki_1 dX1_goOn_76, wp_goto (y := zX1_goOn) 30 (by decide) dX1_goOn_79, mm_op_some, true_and, and_true, mm_rc_some, mm_rc_none, nI_xor, tw_xor, pk_mul, nI_add, mm_in_t, nI_clamp, ok0, ok1, ok2, ok3, ok4, n1_0, n0_0, n0_zz, n1_zz, bI_eq0, bI_ne0, bI_zz, nI_le_, nI_lt_, nI_eq_, nI_lt0, nI_ge0, nI_gt0, nI_le0, nI_eq0, m1_lt0, m1_ge0, if_true, if_false, not_true, not_false_eq_true, Classical.not_not, true_or, or_true, false_or, n1_1, k10, Bool.true_eq_false, Bool.false_eq_true, Nat.le_refl, and_self, and_false, false_and, or_self, or_false, i_irr, i_rfl]
          exact kk _ ⟨⟨R6, q4⟩, F5.trans F6⟩
        · have hc' : can s5.1 (wI i) = false := Bool.eq_false_iff.mpr hc
          simp only [hc', if_false, Bool.false_eq_true] at kk
          rw [hc'] at E2
          simp (disch := first | omega | assumption) only [wp_sipush (y := zX1_goOn) (nI 144) ks_144 dX1_goOn_31, wp_icmp_ge (y := zX1_goOn) 82 (by decide) dX1_goOn_34, wp_al0 (y := zX1_goOn) dX1_goOn_37, wp_getf (y := zX1_goOn) kF1_12 dX1_goOn_38, wp_il1 (y := zX1_goOn) dX1_goOn_41, wp_cv1 (y := zX1_goOn) kM1_99 (by decide) dX1_goOn_42, (show yo zX2_hasWall = 2 from rfl), wp_if_eq (y := zX1_goOn) 76 (by decide) dX1_goOn_45, wp_al0 (y := zX1_goOn) dX1_goOn_48, wp_getf (y := zX1_goOn) kF1_12 dX1_goOn_49, wp_getf (y := zX1_goOn) kF1_103 dX1_goOn_52, wp_il1 (y := zX1_goOn) dX1_goOn_55, wp_iald (y := zX1_goOn) dX1_goOn_56, wp_if_ne (y := zX1_goOn) 76 (by decide) dX1_goOn_57, wp_al0 (y := zX1_goOn) dX1_goOn_60, wp_getf (y := zX1_goOn) kF1_12 dX1_goOn_61, wp_il1 (y := zX1_goOn) dX1_goOn_64, wp_cv1 (y := zX1_goOn) kM1_106 (by decide) dX1_goOn_65, (show yo zX2_canFlip = 2 from rfl), wp_if_eq (y := zX1_goOn) 76 (by decide) dX1_goOn_68, wp_inc1 (y := zX1_goOn) (nI 1) ki_1 dX1_goOn_76, wp_goto (y := zX1_goOn) 30 (by decide) dX1_goOn_79, mm_op_some, true_and, and_true, mm_rc_some, mm_rc_none, nI_xor, tw_xor, pk_mul, nI_add, mm_in_t, nI_clamp, ok0, ok1, ok2, ok3, ok4, n1_0, n0_0, n0_zz, n1_zz, bI_eq0, bI_ne0, bI_zz, nI_le_, nI_lt_, nI_eq_, nI_lt0, nI_ge0, nI_gt0, nI_le0, nI_eq0, m1_lt0, m1_ge0, if_true, if_false, not_true, not_false_eq_true, Classical.not_not, true_or, or_true, false_or, n1_1, k10, Bool.true_eq_false, Bool.false_eq_true, Nat.le_refl, and_self, and_false, false_and, or_self, or_false, i_irr, i_rfl, F.oc, F.g0, F.g1, F.g2, F.g3, F.g4, F.g5, F.g6, F.g7, F.g8, F.g9, F.g10, F.p3, F.p4, F.p5, F.p6, F.p7, F.p8, F.p9, F.p10, F.a14, S.oc, S.g0, S.g1, S.g2, S.g3, S.g4, S.g5, S.g6, S.g7, S.a1, S.a2, S.a3, S.a4, S.a5, S.a6, S.a7, S.a8, h9, E1, rl, h0_, E2, bI_f]
          exact kk _ ⟨⟨R5, I5⟩, F5⟩
      · simp only [h0_, if_false] at kk
        simp (disch := first | omega | assumption) only [wp_sipush (y := zX1_goOn) (nI 144) ks_144 dX1_goOn_31, wp_icmp_ge (y := zX1_goOn) 82 (by decide) dX1_goOn_34, wp_al0 (y := zX1_goOn) dX1_goOn_37, wp_getf (y := zX1_goOn) kF1_12 dX1_goOn_38, wp_il1 (y := zX1_goOn) dX1_goOn_41, wp_cv1 (y := zX1_goOn) kM1_99 (by decide) dX1_goOn_42, (show yo zX2_hasWall = 2 from rfl), wp_if_eq (y := zX1_goOn) 76 (by decide) dX1_goOn_45, wp_al0 (y := zX1_goOn) dX1_goOn_48, wp_getf (y := zX1_goOn) kF1_12 dX1_goOn_49, wp_getf (y := zX1_goOn) kF1_103 dX1_goOn_52, wp_il1 (y := zX1_goOn) dX1_goOn_55, wp_iald (y := zX1_goOn) dX1_goOn_56, wp_if_ne (y := zX1_goOn) 76 (by decide) dX1_goOn_57, wp_inc1 (y := zX1_goOn) (nI 1) ki_1 dX1_goOn_76, wp_goto (y := zX1_goOn) 30 (by decide) dX1_goOn_79, mm_op_some, true_and, and_true, mm_rc_some, mm_rc_none, nI_xor, tw_xor, pk_mul, nI_add, mm_in_t, nI_clamp, ok0, ok1, ok2, ok3, ok4, n1_0, n0_0, n0_zz, n1_zz, bI_eq0, bI_ne0, bI_zz, nI_le_, nI_lt_, nI_eq_, nI_lt0, nI_ge0, nI_gt0, nI_le0, nI_eq0, m1_lt0, m1_ge0, if_true, if_false, not_true, not_false_eq_true, Classical.not_not, true_or, or_true, false_or, n1_1, k10, Bool.true_eq_false, Bool.false_eq_true, Nat.le_refl, and_self, and_false, false_and, or_self, or_false, i_irr, i_rfl, F.oc, F.g0, F.g1, F.g2, F.g3, F.g4, F.g5, F.g6, F.g7, F.g8, F.g9, F.g10, F.p3, F.p4, F.p5, F.p6, F.p7, F.p8, F.p9, F.p10, F.a14, S.oc, S.g0, S.g1, S.g2, S.g3, S.g4, S.g5, S.g6, S.g7, S.a1, S.a2, S.a3, S.a4, S.a5, S.a6, S.a7, S.a8, h9, E1, rl, h0_]
        exact kk _ ⟨⟨R5, I5⟩, F5⟩
    · have E1 : ∀ Q', cl sh zX2_hasWall [.ref (f + 1), .int (nI i)] μ4 Q' = Q' (some (.int (nI 0))) μ4 := fun Q' => c_hasWall0 S R5.1 hi hl
      have hl' : lv s5.1 (wI i) = false := Bool.eq_false_iff.mpr hl
      simp only [hl', if_false, Bool.false_eq_true] at kk
      simp (disch := first | omega | assumption) only [wp_sipush (y := zX1_goOn) (nI 144) ks_144 dX1_goOn_31, wp_icmp_ge (y := zX1_goOn) 82 (by decide) dX1_goOn_34, wp_al0 (y := zX1_goOn) dX1_goOn_37, wp_getf (y := zX1_goOn) kF1_12 dX1_goOn_38, wp_il1 (y := zX1_goOn) dX1_goOn_41, wp_cv1 (y := zX1_goOn) kM1_99 (by decide) dX1_goOn_42, (show yo zX2_hasWall = 2 from rfl), wp_if_eq (y := zX1_goOn) 76 (by decide) dX1_goOn_45, wp_inc1 (y := zX1_goOn) (nI 1) ki_1 dX1_goOn_76, wp_goto (y := zX1_goOn) 30 (by decide) dX1_goOn_79, mm_op_some, true_and, and_true, mm_rc_some, mm_rc_none, nI_xor, tw_xor, pk_mul, nI_add, mm_in_t, nI_clamp, ok0, ok1, ok2, ok3, ok4, n1_0, n0_0, n0_zz, n1_zz, bI_eq0, bI_ne0, bI_zz, nI_le_, nI_lt_, nI_eq_, nI_lt0, nI_ge0, nI_gt0, nI_le0, nI_eq0, m1_lt0, m1_ge0, if_true, if_false, not_true, not_false_eq_true, Classical.not_not, true_or, or_true, false_or, n1_1, k10, Bool.true_eq_false, Bool.false_eq_true, Nat.le_refl, and_self, and_false, false_and, or_self, or_false, i_irr, i_rfl, F.oc, F.g0, F.g1, F.g2, F.g3, F.g4, F.g5, F.g6, F.g7, F.g8, F.g9, F.g10, F.p3, F.p4, F.p5, F.p6, F.p7, F.p8, F.p9, F.p10, F.a14, S.oc, S.g0, S.g1, S.g2, S.g3, S.g4, S.g5, S.g6, S.g7, S.a1, S.a2, S.a3, S.a4, S.a5, S.a6, S.a7, S.a8, h9, E1]
      exact kk _ ⟨⟨R5, I5⟩, F5⟩
  rintro μ4 ⟨⟨R5, I5⟩, F5⟩
  rw [wp_il1 (y := zX1_goOn) dX1_goOn_30]
  simp (disch := first | omega | assumption) only [wp_sipush (y := zX1_goOn) (nI 144) ks_144 dX1_goOn_31, wp_icmp_ge (y := zX1_goOn) 82 (by decide) dX1_goOn_34, wp_iconst (y := zX1_goOn) (nI 0) ki_0 dX1_goOn_82, wp_is1 (y := zX1_goOn) dX1_goOn_83, mm_op_some, true_and, and_true, mm_rc_some, mm_rc_none, nI_xor, tw_xor, pk_mul, nI_add, mm_in_t, nI_clamp, ok0, ok1, ok2, ok3, ok4, n1_0, n0_0, n0_zz, n1_zz, bI_eq0, bI_ne0, bI_zz, nI_le_, nI_lt_, nI_eq_, nI_lt0, nI_ge0, nI_gt0, nI_le0, nI_eq0, m1_lt0, m1_ge0, if_true, if_false, not_true, not_false_eq_true, Classical.not_not, true_or, or_true, false_or, n1_1, k10, Bool.true_eq_false, Bool.false_eq_true, Nat.le_refl, and_self, and_false, false_and, or_self, or_false, i_irr, i_rfl]
  generalize it goW 144 0 s4 = s5 at R5 I5 ⊢
  refine lpI 48 (fun i μ1 => wp sh zX1_goOn 84 [.ref f, .int (nI i)] [] μ1 (fun r μ' => r = none ∧ (RepF (it goC 48 0 s5) μ' f ∧ I (it goC 48 0 s5).1) ∧ FrF μ μ' f)) (fun i μ1 => (RepF (it goC i 0 s5) μ1 f ∧ I (it goC i 0 s5).1) ∧ FrF μ μ1 f) ?_ ?_ μ4 ⟨⟨R5, I5⟩, F5⟩
  · rintro i μ5 hi ⟨⟨R6, I6⟩, F6⟩ kk
    rw [it_last0] at kk
    generalize it goC i 0 s5 = s6 at R6 I6 kk
    obtain ⟨B6, L6⟩ := g1 _ I6
    have h9 : ¬ 48 ≤ i := by omega
    have iv := cI_lt hi
    rw [wp_il1 (y := zX1_goOn) dX1_goOn_84]
    unfold goC at kk
    by_cases hl : 0 < sd s6.1 (cI i)
    · have E1 : ∀ Q', cl sh zX2_hasCell [.ref (f + 1), .int (nI i)] μ5 Q' = Q' (some (.int (nI 1))) μ5 := fun Q' => c_hasCell1 S R6.1 B6 hi hl
      have ra : μ5 (f + 1 + 8) i = ar s6.1 (cI i) := by
        have := R6.1.2.2.2.2 (cI i) hl
        rw [iv] at this
        exact this
      simp only [hl, if_true] at kk
      by_cases ha : 0 < ar s6.1 (cI i)
      · simp only [ha, if_true] at kk
        simp (disch := first | omega | assumption) only [wp_bipush (y := zX1_goOn) (nI 48) kb_48 dX1_goOn_85, wp_icmp_ge (y := zX1_goOn) 124 (by decide) dX1_goOn_87, wp_al0 (y := zX1_goOn) dX1_goOn_90, wp_getf (y := zX1_goOn) kF1_12 dX1_goOn_91, wp_il1 (y := zX1_goOn) dX1_goOn_94, wp_cv1 (y := zX1_goOn) kM1_112 (by decide) dX1_goOn_95, (show yo zX2_hasCell = 2 from rfl), wp_if_eq (y := zX1_goOn) 118 (by decide) dX1_goOn_98, wp_al0 (y := zX1_goOn) dX1_goOn_101, wp_getf (y := zX1_goOn) kF1_12 dX1_goOn_102, wp_getf (y := zX1_goOn) kF1_115 dX1_goOn_105, wp_il1 (y := zX1_goOn) dX1_goOn_108, wp_iald (y := zX1_goOn) dX1_goOn_109, wp_if_gt (y := zX1_goOn) 118 (by decide) dX1_goOn_110, wp_inc1 (y := zX1_goOn) (nI 1) ki_1 dX1_goOn_118, wp_goto (y := zX1_goOn) 84 (by decide) dX1_goOn_121, mm_op_some, true_and, and_true, mm_rc_some, mm_rc_none, nI_xor, tw_xor, pk_mul, nI_add, mm_in_t, nI_clamp, ok0, ok1, ok2, ok3, ok4, n1_0, n0_0, n0_zz, n1_zz, bI_eq0, bI_ne0, bI_zz, nI_le_, nI_lt_, nI_eq_, nI_lt0, nI_ge0, nI_gt0, nI_le0, nI_eq0, m1_lt0, m1_ge0, if_true, if_false, not_true, not_false_eq_true, Classical.not_not, true_or, or_true, false_or, n1_1, k10, Bool.true_eq_false, Bool.false_eq_true, Nat.le_refl, and_self, and_false, false_and, or_self, or_false, i_irr, i_rfl, F.oc, F.g0, F.g1, F.g2, F.g3, F.g4, F.g5, F.g6, F.g7, F.g8, F.g9, F.g10, F.p3, F.p4, F.p5, F.p6, F.p7, F.p8, F.p9, F.p10, F.a14, S.oc, S.g0, S.g1, S.g2, S.g3, S.g4, S.g5, S.g6, S.g7, S.a1, S.a2, S.a3, S.a4, S.a5, S.a6, S.a7, S.a8, h9, E1, ra, ha]
        exact kk _ ⟨⟨R6, I6⟩, F6⟩
      · simp only [ha, if_false] at kk
        have K := c_giveWay F G0 R6 I6 (cI i) hl
        rw [iv] at K
        simp (disch := first | omega | assumption) only [wp_bipush (y := zX1_goOn) (nI 48) kb_48 dX1_goOn_85, wp_icmp_ge (y := zX1_goOn) 124 (by decide) dX1_goOn_87, wp_al0 (y := zX1_goOn) dX1_goOn_90, wp_getf (y := zX1_goOn) kF1_12 dX1_goOn_91, wp_il1 (y := zX1_goOn) dX1_goOn_94, wp_cv1 (y := zX1_goOn) kM1_112 (by decide) dX1_goOn_95, (show yo zX2_hasCell = 2 from rfl), wp_if_eq (y := zX1_goOn) 118 (by decide) dX1_goOn_98, wp_al0 (y := zX1_goOn) dX1_goOn_101, wp_getf (y := zX1_goOn) kF1_12 dX1_goOn_102, wp_getf (y := zX1_goOn) kF1_115 dX1_goOn_105, wp_il1 (y := zX1_goOn) dX1_goOn_108, wp_iald (y := zX1_goOn) dX1_goOn_109, wp_if_gt (y := zX1_goOn) 118 (by decide) dX1_goOn_110, wp_al0 (y := zX1_goOn) dX1_goOn_113, wp_il1 (y := zX1_goOn) dX1_goOn_114, wp_cv1 (y := zX1_goOn) kM1_118 (by decide) dX1_goOn_115, (show yo zX1_giveWay = 1 from rfl), mm_op_some, true_and, and_true, mm_rc_some, mm_rc_none, nI_xor, tw_xor, pk_mul, nI_add, mm_in_t, nI_clamp, ok0, ok1, ok2, ok3, ok4, n1_0, n0_0, n0_zz, n1_zz, bI_eq0, bI_ne0, bI_zz, nI_le_, nI_lt_, nI_eq_, nI_lt0, nI_ge0, nI_gt0, nI_le0, nI_eq0, m1_lt0, m1_ge0, if_true, if_false, not_true, not_false_eq_true, Classical.not_not, true_or, or_true, false_or, n1_1, k10, Bool.true_eq_false, Bool.false_eq_true, Nat.le_refl, and_self, and_false, false_and, or_self, or_false, i_irr, i_rfl, F.oc, F.g0, F.g1, F.g2, F.g3, F.g4, F.g5, F.g6, F.g7, F.g8, F.g9, F.g10, F.p3, F.p4, F.p5, F.p6, F.p7, F.p8, F.p9, F.p10, F.a14, S.oc, S.g0, S.g1, S.g2, S.g3, S.g4, S.g5, S.g6, S.g7, S.a1, S.a2, S.a3, S.a4, S.a5, S.a6, S.a7, S.a8, h9, E1, ra, ha]
        refine cl_mono K ?_
        rintro r μ7 ⟨rfl, R7, F7⟩
        simp (disch := first | omega | assumption) only [wp_inc1 (y := zX1_goOn) (nI 1) ki_1 dX1_goOn_118, wp_goto (y := zX1_goOn) 84 (by decide) dX1_goOn_121, mm_op_some, true_and, and_true, mm_rc_some, mm_rc_none, nI_xor, tw_xor, pk_mul, nI_add, mm_in_t, nI_clamp, ok0, ok1, ok2, ok3, ok4, n1_0, n0_0, n0_zz, n1_zz, bI_eq0, bI_ne0, bI_zz, nI_le_, nI_lt_, nI_eq_, nI_lt0, nI_ge0, nI_gt0, nI_le0, nI_eq0, m1_lt0, m1_ge0, if_true, if_false, not_true, not_false_eq_true, Classical.not_not, true_or, or_true, false_or, n1_1, k10, Bool.true_eq_false, Bool.false_eq_true, Nat.le_refl, and_self, and_false, false_and, or_self, or_false, i_irr, i_rfl]
        exact kk _ ⟨R7, F6.trans F7⟩
    · have E1 : ∀ Q', cl sh zX2_hasCell [.ref (f + 1), .int (nI i)] μ5 Q' = Q' (some (.int (nI 0))) μ5 := fun Q' => c_hasCell0 S R6.1 hi hl
      simp only [hl, if_false] at kk
      simp (disch := first | omega | assumption) only [wp_bipush (y := zX1_goOn) (nI 48) kb_48 dX1_goOn_85, wp_icmp_ge (y := zX1_goOn) 124 (by decide) dX1_goOn_87, wp_al0 (y := zX1_goOn) dX1_goOn_90, wp_getf (y := zX1_goOn) kF1_12 dX1_goOn_91, wp_il1 (y := zX1_goOn) dX1_goOn_94, wp_cv1 (y := zX1_goOn) kM1_112 (by decide) dX1_goOn_95, (show yo zX2_hasCell = 2 from rfl), wp_if_eq (y := zX1_goOn) 118 (by decide) dX1_goOn_98, wp_inc1 (y := zX1_goOn) (nI 1) ki_1 dX1_goOn_118, wp_goto (y := zX1_goOn) 84 (by decide) dX1_goOn_121, mm_op_some, true_and, and_true, mm_rc_some, mm_rc_none, nI_xor, tw_xor, pk_mul, nI_add, mm_in_t, nI_clamp, ok0, ok1, ok2, ok3, ok4, n1_0, n0_0, n0_zz, n1_zz, bI_eq0, bI_ne0, bI_zz, nI_le_, nI_lt_, nI_eq_, nI_lt0, nI_ge0, nI_gt0, nI_le0, nI_eq0, m1_lt0, m1_ge0, if_true, if_false, not_true, not_false_eq_true, Classical.not_not, true_or, or_true, false_or, n1_1, k10, Bool.true_eq_false, Bool.false_eq_true, Nat.le_refl, and_self, and_false, false_and, or_self, or_false, i_irr, i_rfl, F.oc, F.g0, F.g1, F.g2, F.g3, F.g4, F.g5, F.g6, F.g7, F.g8, F.g9, F.g10, F.p3, F.p4, F.p5, F.p6, F.p7, F.p8, F.p9, F.p10, F.a14, S.oc, S.g0, S.g1, S.g2, S.g3, S.g4, S.g5, S.g6, S.g7, S.a1, S.a2, S.a3, S.a4, S.a5, S.a6, S.a7, S.a8, h9, E1]
      exact kk _ ⟨⟨R6, I6⟩, F6⟩
  · rintro μ5 ⟨R6, F6⟩
    rw [wp_il1 (y := zX1_goOn) dX1_goOn_84]
    simp (disch := first | omega | assumption) only [wp_bipush (y := zX1_goOn) (nI 48) kb_48 dX1_goOn_85, wp_icmp_ge (y := zX1_goOn) 124 (by decide) dX1_goOn_87, wp_vret (y := zX1_goOn) rfl dX1_goOn_124, mm_op_some, true_and, and_true, mm_rc_some, mm_rc_none, nI_xor, tw_xor, pk_mul, nI_add, mm_in_t, nI_clamp, ok0, ok1, ok2, ok3, ok4, n1_0, n0_0, n0_zz, n1_zz, bI_eq0, bI_ne0, bI_zz, nI_le_, nI_lt_, nI_eq_, nI_lt0, nI_ge0, nI_gt0, nI_le0, nI_eq0, m1_lt0, m1_ge0, if_true, if_false, not_true, not_false_eq_true, Classical.not_not, true_or, or_true, false_or, n1_1, k10, Bool.true_eq_false, Bool.false_eq_true, Nat.le_refl, and_self, and_false, false_and, or_self, or_false, i_irr, i_rfl]
    exact ⟨R6, F6⟩
end FO3
