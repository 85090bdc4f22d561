section CM11
variable {sh : mm_Sh} {b : Nat} {M : Ms} {μ : mm_U} {XN XP XR : Hf → Prop} {Q : Option Value → mm_U → Prop}
/-- the halves from one on come to a cell -/
def hoL (c : Ce) : Nat → Ms → Hf → Ms
  | 0, M, _ => M
  | n + 1, M, h => hoL c n (sOw M h c) (nx M h)
theorem hoL_nx (c : Ce) : ∀ (n : Nat) (M : Ms) (h : Hf), nx (hoL c n M h) = nx M ∧ pv (hoL c n M h) = pv M ∧ lv (hoL c n M h) = lv M ∧ sd (hoL c n M h) = sd M ∧ ar (hoL c n M h) = ar M ∧ ln (hoL c n M h) = ln M ∧ rx (hoL c n M h) = rx M ∧ ry (hoL c n M h) = ry M
  | 0, _, _ => ⟨rfl, rfl, rfl, rfl, rfl, rfl, rfl, rfl⟩
  | n + 1, M, h => hoL_nx c n (sOw M h c) (nx M h)
theorem nxi_sOw (M : Ms) (h0 : Hf) (c : Ce) : ∀ (n : Nat) (h : Hf), nxi (sOw M h0 c) n h = nxi M n h
  | 0, _ => rfl
  | n + 1, h => nxi_sOw M h0 c n (nx M h)
theorem lp_ho (S : MeshSh sh b) (c : Ce) (stop : Hf) (most : Nat) (hmost : most < 2 ^ 31) (v2 : Value) (μ0 : mm_U) : ∀ (d k : Nat) (M : Ms) (μ : mm_U) (h : Hf), k + d ≤ most → RepC M μ b → LvN M → lv M (wl h) = true → nxi M d h = stop → (∀ i, i < d → nxi M i h ≠ stop) → Fr μ0 μ b →
    wp sh zX2_handOver 9 [.ref b, .int (nI c.val), v2, .int (nI stop.val), .int (nI most), .int (nI h.val), .int (nI k), .int (nI k)] [] μ (fun r μ' => r = some (.int (nI (k + d))) ∧ RepC (hoL c d M h) μ' b ∧ Fr μ0 μ' b) := by
  intro d
  induction d with
  | zero =>
    intro k M μ h hk R L hl e1 e2 F
    have e1 : h = stop := e1
    rw [wp_il7 (y := zX2_handOver) dX2_handOver_9]
    by_cases h9 : most ≤ k
    · simp (disch := first | omega | assumption) only [wp_il4 (y := zX2_handOver) dX2_handOver_11, wp_icmp_ge (y := zX2_handOver) 48 (by decide) dX2_handOver_13, wp_il5 (y := zX2_handOver) dX2_handOver_16, wp_il3 (y := zX2_handOver) dX2_handOver_18, wp_icmp_eq (y := zX2_handOver) 48 (by decide) dX2_handOver_19, wp_al0 (y := zX2_handOver) dX2_handOver_22, wp_getf (y := zX2_handOver) kF2_9 dX2_handOver_23, wp_il5 (y := zX2_handOver) dX2_handOver_26, wp_il1 (y := zX2_handOver) dX2_handOver_28, wp_iast (y := zX2_handOver) dX2_handOver_29, wp_inc6 (y := zX2_handOver) (nI 1) ki_1 dX2_handOver_30, wp_al0 (y := zX2_handOver) dX2_handOver_33, wp_getf (y := zX2_handOver) kF2_15 dX2_handOver_34, wp_il5 (y := zX2_handOver) dX2_handOver_37, wp_iald (y := zX2_handOver) dX2_handOver_39, wp_is5 (y := zX2_handOver) dX2_handOver_40, wp_inc7 (y := zX2_handOver) (nI 1) ki_1 dX2_handOver_42, wp_goto (y := zX2_handOver) 9 (by decide) dX2_handOver_45, wp_il6 (y := zX2_handOver) dX2_handOver_48, wp_ireti (y := zX2_handOver) rfl dX2_handOver_50, mm_op_some, true_and, and_true, mm_rc_some, mm_rc_none, nI_xor, tw_xor, pk_mul, nI_add, mm_in_t, nI_clamp, ok0, ok1, ok2, ok3, ok4, n1_0, n0_0, n0_zz, n1_zz, bI_eq0, bI_ne0, bI_zz, nI_le_, nI_lt_, nI_eq_, nI_lt0, nI_ge0, nI_gt0, nI_le0, nI_eq0, m1_lt0, m1_ge0, if_true, if_false, not_true, not_false_eq_true, Classical.not_not, true_or, or_true, false_or, n1_1, k10, Bool.true_eq_false, Bool.false_eq_true, Nat.le_refl, and_self, and_false, false_and, or_self, or_false, hf_lt, ce_lt, wa_lt, hf_cl, ce_cl, wa_cl, ce_vv, hf_vv, wa_vv, i_irr, i_rfl, S.oc, S.g0, S.g1, S.g2, S.g3, S.g4, S.g5, S.g6, S.g7, S.a1, S.a2, S.a3, S.a4, S.a5, S.a6, S.a7, S.a8, h9]
      exact ⟨rfl, R, F⟩
    · simp (disch := first | omega | assumption) only [wp_il4 (y := zX2_handOver) dX2_handOver_11, wp_icmp_ge (y := zX2_handOver) 48 (by decide) dX2_handOver_13, wp_il5 (y := zX2_handOver) dX2_handOver_16, wp_il3 (y := zX2_handOver) dX2_handOver_18, wp_icmp_eq (y := zX2_handOver) 48 (by decide) dX2_handOver_19, wp_al0 (y := zX2_handOver) dX2_handOver_22, wp_getf (y := zX2_handOver) kF2_9 dX2_handOver_23, wp_il5 (y := zX2_handOver) dX2_handOver_26, wp_il1 (y := zX2_handOver) dX2_handOver_28, wp_iast (y := zX2_handOver) dX2_handOver_29, wp_inc6 (y := zX2_handOver) (nI 1) ki_1 dX2_handOver_30, wp_al0 (y := zX2_handOver) dX2_handOver_33, wp_getf (y := zX2_handOver) kF2_15 dX2_handOver_34, wp_il5 (y := zX2_handOver) dX2_handOver_37, wp_iald (y := zX2_handOver) dX2_handOver_39, wp_is5 (y := zX2_handOver) dX2_handOver_40, wp_inc7 (y := zX2_handOver) (nI 1) ki_1 dX2_handOver_42, wp_goto (y := zX2_handOver) 9 (by decide) dX2_handOver_45, wp_il6 (y := zX2_handOver) dX2_handOver_48, wp_ireti (y := zX2_handOver) rfl dX2_handOver_50, mm_op_some, true_and, and_true, mm_rc_some, mm_rc_none, nI_xor, tw_xor, pk_mul, nI_add, mm_in_t, nI_clamp, ok0, ok1, ok2, ok3, ok4, n1_0, n0_0, n0_zz, n1_zz, bI_eq0, bI_ne0, bI_zz, nI_le_, nI_lt_, nI_eq_, nI_lt0, nI_ge0, nI_gt0, nI_le0, nI_eq0, m1_lt0, m1_ge0, if_true, if_false, not_true, not_false_eq_true, Classical.not_not, true_or, or_true, false_or, n1_1, k10, Bool.true_eq_false, Bool.false_eq_true, Nat.le_refl, and_self, and_false, false_and, or_self, or_false, hf_lt, ce_lt, wa_lt, hf_cl, ce_cl, wa_cl, ce_vv, hf_vv, wa_vv, i_irr, i_rfl, S.oc, S.g0, S.g1, S.g2, S.g3, S.g4, S.g5, S.g6, S.g7, S.a1, S.a2, S.a3, S.a4, S.a5, S.a6, S.a7, S.a8, h9, e1]
      rw [e1] at *
      exact ⟨rfl, R, F⟩
  | succ d ih =>
    intro k M μ h hk R L hl e1 e2 F
    have h9 : ¬ most ≤ k := by omega
    have hne : ¬ h = stop := e2 0 (by omega)
    have R1 := R.wOw h c hl
    have r1 : mu μ (b + 1) (upd (μ (b + 1)) h.val (nI c.val)) (b + 2) h.val = nI (nx M h).val := (R1.1 h hl).2.1
    rw [wp_il7 (y := zX2_handOver) dX2_handOver_9]
    simp (disch := first | omega | assumption) only [wp_il4 (y := zX2_handOver) dX2_handOver_11, wp_icmp_ge (y := zX2_handOver) 48 (by decide) dX2_handOver_13, wp_il5 (y := zX2_handOver) dX2_handOver_16, wp_il3 (y := zX2_handOver) dX2_handOver_18, wp_icmp_eq (y := zX2_handOver) 48 (by decide) dX2_handOver_19, wp_al0 (y := zX2_handOver) dX2_handOver_22, wp_getf (y := zX2_handOver) kF2_9 dX2_handOver_23, wp_il5 (y := zX2_handOver) dX2_handOver_26, wp_il1 (y := zX2_handOver) dX2_handOver_28, wp_iast (y := zX2_handOver) dX2_handOver_29, wp_inc6 (y := zX2_handOver) (nI 1) ki_1 dX2_handOver_30, wp_al0 (y := zX2_handOver) dX2_handOver_33, wp_getf (y := zX2_handOver) kF2_15 dX2_handOver_34, wp_il5 (y := zX2_handOver) dX2_handOver_37, wp_iald (y := zX2_handOver) dX2_handOver_39, wp_is5 (y := zX2_handOver) dX2_handOver_40, wp_inc7 (y := zX2_handOver) (nI 1) ki_1 dX2_handOver_42, wp_goto (y := zX2_handOver) 9 (by decide) dX2_handOver_45, mm_op_some, true_and, and_true, mm_rc_some, mm_rc_none, nI_xor, tw_xor, pk_mul, nI_add, mm_in_t, nI_clamp, ok0, ok1, ok2, ok3, ok4, n1_0, n0_0, n0_zz, n1_zz, bI_eq0, bI_ne0, bI_zz, nI_le_, nI_lt_, nI_eq_, nI_lt0, nI_ge0, nI_gt0, nI_le0, nI_eq0, m1_lt0, m1_ge0, if_true, if_false, not_true, not_false_eq_true, Classical.not_not, true_or, or_true, false_or, n1_1, k10, Bool.true_eq_false, Bool.false_eq_true, Nat.le_refl, and_self, and_false, false_and, or_self, or_false, hf_lt, ce_lt, wa_lt, hf_cl, ce_cl, wa_cl, ce_vv, hf_vv, wa_vv, i_irr, i_rfl, S.oc, S.g0, S.g1, S.g2, S.g3, S.g4, S.g5, S.g6, S.g7, S.a1, S.a2, S.a3, S.a4, S.a5, S.a6, S.a7, S.a8, h9, hne, r1]
    have := ih (k + 1) (sOw M h c) _ (nx M h) (by omega) R1 L (L h hl) (by rw [nxi_sOw]; exact e1) (fun i hi => by rw [nxi_sOw]; exact e2 (i + 1) (by omega)) (F.mu _ (by omega) (by omega))
    rw [show k + (d + 1) = k + 1 + d by omega]
    exact this
theorem c_handOver (S : MeshSh sh b) (R : RepC M μ b) (L : LvN M) (c : Ce) (h stop : Hf) (most n : Nat) (hmost : most < 2 ^ 31) (hn : n ≤ most) (hl : lv M (wl h) = true) (e1 : nxi M n h = stop) (e2 : ∀ i, i < n → nxi M i h ≠ stop) : cl sh zX2_handOver [.ref b, .int (nI c.val), .int (nI h.val), .int (nI stop.val), .int (nI most)] μ (fun r μ' => r = some (.int (nI n)) ∧ RepC (hoL c n M h) μ' b ∧ Fr μ μ' b) := by
  show wp sh zX2_handOver 0 [.ref b, .int (nI c.val), .int (nI h.val), .int (nI stop.val), .int (nI most), .null, .null, .null] [] μ _
  simp (disch := first | omega | assumption) only [wp_il2 (y := zX2_handOver) dX2_handOver_0, wp_is5 (y := zX2_handOver) dX2_handOver_1, wp_iconst (y := zX2_handOver) (nI 0) ki_0 dX2_handOver_3, wp_is6 (y := zX2_handOver) dX2_handOver_4, wp_iconst (y := zX2_handOver) (nI 0) ki_0 dX2_handOver_6, wp_is7 (y := zX2_handOver) dX2_handOver_7]
  have := lp_ho S c stop most hmost (.int (nI h.val)) μ n 0 M μ h (by omega) R L hl e1 e2 (Fr.refl _ _)
  rw [Nat.zero_add] at this
  exact this
/-- the part of a wall that a new cell takes -/
def hvM (M : Ms) (j : Wa) (h : Hf) (c : Ce) : Ms :=
  let t := ln M (wl h) / nI 2
  let M1 := awM M j c (ow M (tw h)) t
  let M2 := sLn M1 (wl h) (ln M (wl h) - t)
  let M3 := rdM M2 (h0 j) (rx M h) (ry M h)
  sSd M3 (ow M (tw h)) (sd M (ow M (tw h)) + 1)
theorem x_halve (S : MeshSh sh b) (R : RepX M μ b XN XP XR) (h : Hf) (c : Ce) (j : Wa) (hl : lv M (wl h) = true) (hx : ¬ XR h) (hj : frW M = some j.val) (hs : 0 < sd M (ow M (tw h))) : cl sh zX2_halve [.ref b, .int (nI h.val), .int (nI c.val)] μ (fun r μ' => r = some (.int (nI (h0 j).val)) ∧ RepX (hvM M j h c) μ' b (fun k => XN k ∨ wl k = j) (fun k => XP k ∨ wl k = j) XR ∧ Fr μ μ' b) := by
  have hh := h.isLt
  have k2 : ¬ nI 2 = 0 := by decide
  have rl := R.2.2.2.2.2.1 (wl h) hl
  have hdead : lv M j = false := by
    obtain ⟨f1, -, -, -⟩ := fd_some hj
    rw [wI_val] at f1
    simpa using f1
  have hne : wl h ≠ j := fun e => by rw [e, hdead] at hl; cases hl
  have E1 : ∀ Q', cl sh zX2_across [.ref b, .int (nI h.val)] μ Q' = Q' (some (.int (nI (ow M (tw h)).val))) μ := fun Q' => x_across S R h hl
  show wp sh zX2_halve 0 [.ref b, .int (nI h.val), .int (nI c.val), .null, .null] [] μ _
  simp (disch := first | omega | assumption) only [wp_al0 (y := zX2_halve) dX2_halve_0, wp_getf (y := zX2_halve) kF2_27 dX2_halve_1, wp_il1 (y := zX2_halve) dX2_halve_4, wp_iconst (y := zX2_halve) (nI 2) ki_2 dX2_halve_5, wp_idiv' (y := zX2_halve) dX2_halve_6, wp_iald (y := zX2_halve) dX2_halve_7, wp_iconst (y := zX2_halve) (nI 2) ki_2 dX2_halve_8, wp_idiv' (y := zX2_halve) dX2_halve_9, wp_is3 (y := zX2_halve) dX2_halve_10, wp_al0 (y := zX2_halve) dX2_halve_11, wp_il2 (y := zX2_halve) dX2_halve_12, wp_al0 (y := zX2_halve) dX2_halve_13, wp_il1 (y := zX2_halve) dX2_halve_14, wp_cv1 (y := zX2_halve) kM2_101 (by decide) dX2_halve_15, (show yo zX2_across = 2 from rfl), wp_il3 (y := zX2_halve) dX2_halve_18, wp_cv3 (y := zX2_halve) kM2_130 (by decide) dX2_halve_19, (show yo zX2_addWall = 2 from rfl), mm_op_some, true_and, and_true, mm_rc_some, mm_rc_none, nI_xor, tw_xor, pk_mul, nI_add, mm_in_t, nI_clamp, ok0, ok1, ok2, ok3, ok4, n1_0, n0_0, n0_zz, n1_zz, bI_eq0, bI_ne0, bI_zz, nI_le_, nI_lt_, nI_eq_, nI_lt0, nI_ge0, nI_gt0, nI_le0, nI_eq0, m1_lt0, m1_ge0, if_true, if_false, not_true, not_false_eq_true, Classical.not_not, true_or, or_true, false_or, n1_1, k10, Bool.true_eq_false, Bool.false_eq_true, Nat.le_refl, and_self, and_false, false_and, or_self, or_false, hf_lt, ce_lt, wa_lt, hf_cl, ce_cl, wa_cl, ce_vv, hf_vv, wa_vv, i_irr, i_rfl, S.oc, S.g0, S.g1, S.g2, S.g3, S.g4, S.g5, S.g6, S.g7, S.a1, S.a2, S.a3, S.a4, S.a5, S.a6, S.a7, S.a8, k2, wl_div, rl, E1]
  refine cl_mono (x_addWall S R c (ow M (tw h)) (ln M (wl h) / nI 2) j hj) ?_
  rintro r μ1 ⟨rfl, R1, F1⟩
  have l1 : lv (awM M j c (ow M (tw h)) (ln M (wl h) / nI 2)) (wl h) = true := (fu_n _ _ hne).trans hl
  have rl1 : μ1 (b + 6) (wl h).val = ln M (wl h) := (R1.2.2.2.2.2.1 (wl h) l1).trans (fu_n _ _ hne)
  have R2 := R1.wLn (wl h) (ln M (wl h) - ln M (wl h) / nI 2)
  have hx1 : ¬ (XR h ∨ wl h = j) := fun q => q.elim hx hne
  have r4 := R2.2.2.2.1 h l1 hx1
  have r5 : mu μ1 (b + 6) (upd (μ1 (b + 6)) (wl h).val (ln M (wl h) - ln M (wl h) / nI 2)) (b + 4) h.val = rx M h := r4.1
  have r6 : mu μ1 (b + 6) (upd (μ1 (b + 6)) (wl h).val (ln M (wl h) - ln M (wl h) / nI 2)) (b + 5) h.val = ry M h := r4.2
  simp (disch := first | omega | assumption) only [wp_is4 (y := zX2_halve) dX2_halve_22, wp_al0 (y := zX2_halve) dX2_halve_24, wp_getf (y := zX2_halve) kF2_27 dX2_halve_25, wp_il1 (y := zX2_halve) dX2_halve_28, wp_iconst (y := zX2_halve) (nI 2) ki_2 dX2_halve_29, wp_idiv' (y := zX2_halve) dX2_halve_30, wp_dup2 (y := zX2_halve) dX2_halve_31, wp_iald (y := zX2_halve) dX2_halve_32, wp_il3 (y := zX2_halve) dX2_halve_33, wp_isub (y := zX2_halve) dX2_halve_34, wp_iast (y := zX2_halve) dX2_halve_35, wp_al0 (y := zX2_halve) dX2_halve_36, wp_il4 (y := zX2_halve) dX2_halve_37, wp_al0 (y := zX2_halve) dX2_halve_39, wp_getf (y := zX2_halve) kF2_21 dX2_halve_40, wp_il1 (y := zX2_halve) dX2_halve_43, wp_iald (y := zX2_halve) dX2_halve_44, wp_al0 (y := zX2_halve) dX2_halve_45, wp_getf (y := zX2_halve) kF2_24 dX2_halve_46, wp_il1 (y := zX2_halve) dX2_halve_49, wp_iald (y := zX2_halve) dX2_halve_50, wp_cv3 (y := zX2_halve) kM2_64 (by decide) dX2_halve_51, (show yo zX2_setRound = 2 from rfl), mm_op_some, true_and, and_true, mm_rc_some, mm_rc_none, nI_xor, tw_xor, pk_mul, nI_add, mm_in_t, nI_clamp, ok0, ok1, ok2, ok3, ok4, n1_0, n0_0, n0_zz, n1_zz, bI_eq0, bI_ne0, bI_zz, nI_le_, nI_lt_, nI_eq_, nI_lt0, nI_ge0, nI_gt0, nI_le0, nI_eq0, m1_lt0, m1_ge0, if_true, if_false, not_true, not_false_eq_true, Classical.not_not, true_or, or_true, false_or, n1_1, k10, Bool.true_eq_false, Bool.false_eq_true, Nat.le_refl, and_self, and_false, false_and, or_self, or_false, hf_lt, ce_lt, wa_lt, hf_cl, ce_cl, wa_cl, ce_vv, hf_vv, wa_vv, i_irr, i_rfl, S.oc, S.g0, S.g1, S.g2, S.g3, S.g4, S.g5, S.g6, S.g7, S.a1, S.a2, S.a3, S.a4, S.a5, S.a6, S.a7, S.a8, k2, wl_div, rl1, r5, r6]
  refine cl_mono (x_setRound S R2 (h0 j) (rx M h) (ry M h)) ?_
  rintro r μ2 ⟨rfl, R3, F3⟩
  have tne : tw h ≠ h0 j ∧ tw h ≠ h1 j := ⟨fun e => hne (by rw [← wl_tw, e, wl_h0]), fun e => hne (by rw [← wl_tw, e, wl_h1])⟩
  have e3 : ow (rdM (sLn (awM M j c (ow M (tw h)) (ln M (wl h) / nI 2)) (wl h) (ln M (wl h) - ln M (wl h) / nI 2)) (h0 j) (rx M h) (ry M h)) (tw h) = ow M (tw h) := (fu_n _ _ tne.2).trans (fu_n _ _ tne.1)
  have l3 : lv (rdM (sLn (awM M j c (ow M (tw h)) (ln M (wl h) / nI 2)) (wl h) (ln M (wl h) - ln M (wl h) / nI 2)) (h0 j) (rx M h) (ry M h)) (wl h) = true := l1
  have E2 : ∀ Q', cl sh zX2_across [.ref b, .int (nI h.val)] μ2 Q' = Q' (some (.int (nI (ow M (tw h)).val))) μ2 := fun Q' => by rw [x_across S R3 h l3, e3]
  have s3 : μ2 (b + 7) (ow M (tw h)).val = nI (sd M (ow M (tw h))) := R3.2.2.2.2.2.2.1 (ow M (tw h))
  simp (disch := first | omega | assumption) only [wp_al0 (y := zX2_halve) dX2_halve_54, wp_getf (y := zX2_halve) kF2_30 dX2_halve_55, wp_al0 (y := zX2_halve) dX2_halve_58, wp_il1 (y := zX2_halve) dX2_halve_59, wp_cv1 (y := zX2_halve) kM2_101 (by decide) dX2_halve_60, (show yo zX2_across = 2 from rfl), wp_dup2 (y := zX2_halve) dX2_halve_63, wp_iald (y := zX2_halve) dX2_halve_64, wp_iconst (y := zX2_halve) (nI 1) ki_1 dX2_halve_65, wp_iadd (y := zX2_halve) dX2_halve_66, wp_iast (y := zX2_halve) dX2_halve_67, wp_il4 (y := zX2_halve) dX2_halve_68, wp_ireti (y := zX2_halve) rfl dX2_halve_70, mm_op_some, true_and, and_true, mm_rc_some, mm_rc_none, nI_xor, tw_xor, pk_mul, nI_add, mm_in_t, nI_clamp, ok0, ok1, ok2, ok3, ok4, n1_0, n0_0, n0_zz, n1_zz, bI_eq0, bI_ne0, bI_zz, nI_le_, nI_lt_, nI_eq_, nI_lt0, nI_ge0, nI_gt0, nI_le0, nI_eq0, m1_lt0, m1_ge0, if_true, if_false, not_true, not_false_eq_true, Classical.not_not, true_or, or_true, false_or, n1_1, k10, Bool.true_eq_false, Bool.false_eq_true, Nat.le_refl, and_self, and_false, false_and, or_self, or_false, hf_lt, ce_lt, wa_lt, hf_cl, ce_cl, wa_cl, ce_vv, hf_vv, wa_vv, i_irr, i_rfl, S.oc, S.g0, S.g1, S.g2, S.g3, S.g4, S.g5, S.g6, S.g7, S.a1, S.a2, S.a3, S.a4, S.a5, S.a6, S.a7, S.a8, E2, s3]
  have R4 := R3.wSd (ow M (tw h)) (sd M (ow M (tw h)) + 1) (fun _ => R3.2.2.2.2.2.2.2 _ hs)
  refine ⟨?_, Fr.mu (Fr.trans (F1.mu _ (by omega) (by omega)) F3) _ (by omega) (by omega)⟩
  refine R4.mono (fun k q => q) (fun k q => q) (fun k q => ?_)
  obtain ⟨⟨q1, q2⟩, q3⟩ := q
  rcases q1 with q1 | q1
  · exact q1
  · exfalso
    have : k.val / 2 = j.val := congrArg Fin.val q1
    rw [tw_h0] at q3
    rcases Nat.mod_two_eq_zero_or_one k.val with e | e
    · exact q2 (Fin.ext (by rw [h0_val]; omega))
    · exact q3 (Fin.ext (by rw [h1_val]; omega))
/-- half of a number, downwards -/
def flo (a : Int32) : Int32 := if 0 ≤ (a ^^^ nI 2) then a / nI 2 else if (a / nI 2) * nI 2 = a then a / nI 2 else a / nI 2 - nI 1
theorem j_floorDiv (a : Int32) : cl sh zJ9_floorDiv_7cf53 [.int a, .int (nI 2)] μ Q = Q (some (.int (flo a))) μ := by
  have k2 : ¬ nI 2 = 0 := by decide
  show wp sh zJ9_floorDiv_7cf53 0 [.int a, .int (nI 2), .null] [] μ Q = _
  simp (disch := first | omega | assumption) only [wp_il0 (y := zJ9_floorDiv_7cf53) dJ9_floorDiv_7cf53_0, wp_il1 (y := zJ9_floorDiv_7cf53) dJ9_floorDiv_7cf53_1, wp_idiv' (y := zJ9_floorDiv_7cf53) dJ9_floorDiv_7cf53_2, wp_is2 (y := zJ9_floorDiv_7cf53) dJ9_floorDiv_7cf53_3, wp_il0 (y := zJ9_floorDiv_7cf53) dJ9_floorDiv_7cf53_4, wp_il1 (y := zJ9_floorDiv_7cf53) dJ9_floorDiv_7cf53_5, wp_ixor (y := zJ9_floorDiv_7cf53) dJ9_floorDiv_7cf53_6, wp_if_ge (y := zJ9_floorDiv_7cf53) 21 (by decide) dJ9_floorDiv_7cf53_7, wp_il2 (y := zJ9_floorDiv_7cf53) dJ9_floorDiv_7cf53_10, wp_il1 (y := zJ9_floorDiv_7cf53) dJ9_floorDiv_7cf53_11, wp_imul (y := zJ9_floorDiv_7cf53) dJ9_floorDiv_7cf53_12, wp_il0 (y := zJ9_floorDiv_7cf53) dJ9_floorDiv_7cf53_13, wp_icmp_eq (y := zJ9_floorDiv_7cf53) 21 (by decide) dJ9_floorDiv_7cf53_14, wp_il2 (y := zJ9_floorDiv_7cf53) dJ9_floorDiv_7cf53_17, wp_iconst (y := zJ9_floorDiv_7cf53) (nI 1) ki_1 dJ9_floorDiv_7cf53_18, wp_isub (y := zJ9_floorDiv_7cf53) dJ9_floorDiv_7cf53_19, wp_ireti (y := zJ9_floorDiv_7cf53) rfl dJ9_floorDiv_7cf53_20, wp_il2 (y := zJ9_floorDiv_7cf53) dJ9_floorDiv_7cf53_21, wp_ireti (y := zJ9_floorDiv_7cf53) rfl dJ9_floorDiv_7cf53_22, k2, flo]
  by_cases h1 : 0 ≤ (a ^^^ nI 2)
  · simp only [h1, if_true]
  · simp only [h1, if_false]
    by_cases h2 : (a / nI 2) * nI 2 = a
    · simp only [h2, if_true]
    · simp only [h2, if_false]
def spA (M : Ms) (from_ to_ : Hf) (c fr : Ce) (j1 j2 : Wa) (n : Nat) : Ms := hvM (hvM (hoL fr n M (nx M from_)) j1 from_ fr) j2 to_ fr
def spB (M3 : Ms) (from_ to_ : Hf) (j1 j2 : Wa) : Ms :=
  let M4 := lkM M3 (pv M3 (tw from_)) (h1 j1)
  let M5 := lkM M4 (h1 j1) (tw from_)
  let M6 := lkM M5 (h1 j2) (nx M5 (tw to_))
  lkM M6 (tw to_) (h1 j2)
def spC (M7 : Ms) (from_ to_ : Hf) (c fr : Ce) (j1 j2 j3 : Wa) : Ms :=
  let M9 := rdM (awM M7 j3 c fr (nI 10)) (h0 j3) (nI 0) (nI 0)
  lkM (lkM (lkM (lkM M9 from_ (h0 j3)) (h0 j3) to_) (h0 j2) (h1 j3)) (h1 j3) (h0 j1)
def spD (M13 : Ms) (M : Ms) (from_ to_ : Hf) (j1 j2 : Wa) (n : Nat) : Ms := if n = 0 then lkM M13 (h0 j1) (h0 j2) else lkM (lkM M13 (h0 j1) (nx M from_)) (pv M to_) (h0 j2)
def spE (M14 : Ms) (c fr : Ce) (n : Nat) : Ms := sAr (sAr (sSd (sSd M14 c (sd M14 c + 1 - n)) fr (3 + n)) fr (flo (ar M14 c))) c (ar M14 c - flo (ar M14 c))
/-- CUT of a cell from the middle of one half to that of another one -/
def spM (M : Ms) (from_ to_ : Hf) (c fr : Ce) (j1 j2 j3 : Wa) (n : Nat) : Ms := spE (spD (spC (spB (spA M from_ to_ c fr j1 j2 n) from_ to_ j1 j2) from_ to_ c fr j1 j2 j3) M from_ to_ j1 j2 n) c fr n
/-- what a CUT needs -/
def SpOk (M : Ms) (from_ to_ : Hf) (c fr : Ce) (j1 j2 j3 : Wa) (n : Nat) : Prop :=
  lv M (wl from_) = true ∧ lv M (wl to_) = true ∧ LvN M ∧ frC M = some fr.val ∧ n + 2 ≤ sd M c ∧ nxi M n (nx M from_) = to_ ∧ (∀ i, i < n → nxi M i (nx M from_) ≠ to_)
  ∧ frW (hoL fr n M (nx M from_)) = some j1.val ∧ frW (hvM (hoL fr n M (nx M from_)) j1 from_ fr) = some j2.val ∧ frW (spB (spA M from_ to_ c fr j1 j2 n) from_ to_ j1 j2) = some j3.val
  ∧ ow M (tw from_) ≠ c ∧ ow M (tw to_) ≠ c ∧ 0 < sd M (ow M (tw from_)) ∧ 0 < sd M (ow M (tw to_)) ∧ (∀ i, i ≤ n → nxi M i (nx M from_) ≠ tw from_ ∧ nxi M i (nx M from_) ≠ tw to_) ∧ wl from_ ≠ wl to_ ∧ c ≠ fr ∧ from_ ≠ to_
end CM11
