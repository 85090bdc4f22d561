section MOG
variable {sh : mm_Sh} {m : Nat} {M : Ms} {μ : mm_U} {s : Fo} {Q : Option Value → mm_U → Prop}
theorem Inv.tu (J : Inv M) {w : Wa} (hl : lv M w = true) (hc : can M w = true) : tuM M w = flM M w := by
  obtain ⟨⟨c1, c2⟩, c3, c4, c5, c6, c7, c8⟩ := can_iff.mp hc
  have la : LvH M (h0 w) := LvH_h0.mpr hl
  have lo : LvH M (h1 w) := LvH_h1.mpr hl
  have m0 := J.meet la
  have m1 := J.meet lo
  rw [tw_h0] at m0
  rw [tw_h1] at m1
  have ao : h0 w ≠ h1 w := fun e => c3 (by rw [e])
  have oP := J.op la
  have oN := J.on la
  have oP2 := J.op lo
  have oN2 := J.on lo
  have pa := J.pne la
  have po := J.pne lo
  have u1 : pv M (h0 w) ≠ h1 w := fun e => c3 (by rw [← oP, e])
  have u2 : nx M (h0 w) ≠ h1 w := fun e => c3 (by rw [← oN, e])
  have oTN : ow M (tw (nx M (h0 w))) = en M (h0 w) := rfl
  have oTN2 : ow M (tw (nx M (h1 w))) = en M (h1 w) := rfl
  have q3 : tw (nx M (h0 w)) ≠ pv M (h0 w) := fun e => c4 (by rw [← oP, ← e])
  have q4 : tw (nx M (h0 w)) ≠ pv M (h1 w) := fun e => c6 (by rw [← oP2, ← e])
  have r3 : tw (nx M (h1 w)) ≠ pv M (h0 w) := fun e => c5 (by rw [← oP, ← e])
  have r4 : tw (nx M (h1 w)) ≠ pv M (h1 w) := fun e => c7 (by rw [← oP2, ← e])
  have r5 : tw (nx M (h1 w)) ≠ h0 w := fun e => c5 (by rw [← oTN2, e])
  have r7 : tw (nx M (h1 w)) ≠ tw (nx M (h0 w)) := fun e => c8 (by rw [← oTN2, e])
  have x1 : fu (nx M) (pv M (h0 w)) (nx M (h0 w)) (h1 w) = nx M (h1 w) := fu_n _ _ (fun e => u1 e.symm)
  have x2 : fu (pv M) (nx M (h0 w)) (pv M (h0 w)) (h1 w) = pv M (h1 w) := fu_n _ _ (fun e => u2 e.symm)
  have x3 : fu (fu (nx M) (pv M (h0 w)) (nx M (h0 w))) (pv M (h1 w)) (nx M (h1 w)) (tw (nx M (h0 w))) = tw (pv M (h1 w)) := by rw [fu_n _ _ q4, fu_n _ _ q3, m0]
  have x4 : fu (fu (fu (fu (nx M) (pv M (h0 w)) (nx M (h0 w))) (pv M (h1 w)) (nx M (h1 w))) (tw (nx M (h0 w))) (h0 w)) (h0 w) (tw (pv M (h1 w))) (tw (nx M (h1 w))) = tw (pv M (h0 w)) := by rw [fu_n _ _ r5, fu_n _ _ r7, fu_n _ _ r4, fu_n _ _ r3, m1]
  apply Ms_ext
  · rw [flM_lv]
    unfold tuM leM rdM inM lkM
    simp only [g_lv_sLv, g_lv_sOw, g_lv_sNx, g_lv_sPv, g_lv_sRx, g_lv_sRy, g_lv_sLn, g_lv_sSd, g_lv_sAr]
  · rw [flM_ow]
    unfold tuM leM rdM inM lkM
    simp only [g_ow_sLv, g_ow_sOw, g_ow_sNx, g_ow_sPv, g_ow_sRx, g_ow_sRy, g_ow_sLn, g_ow_sSd, g_ow_sAr]
  · rw [flM_nx M w pa u1 u2]
    unfold tuM leM rdM inM lkM
    simp only [g_nx_sLv, g_pv_sLv, g_nx_sOw, g_pv_sOw, g_nx_sNx, g_pv_sNx, g_nx_sPv, g_pv_sPv, g_nx_sRx, g_pv_sRx, g_nx_sRy, g_pv_sRy, g_nx_sLn, g_pv_sLn, g_nx_sSd, g_pv_sSd, g_nx_sAr, g_pv_sAr, x1, x2, x3, x4]
  · rw [flM_pv M w pa u1 u2 po]
    unfold tuM leM rdM inM lkM
    simp only [g_nx_sLv, g_pv_sLv, g_nx_sOw, g_pv_sOw, g_nx_sNx, g_pv_sNx, g_nx_sPv, g_pv_sPv, g_nx_sRx, g_pv_sRx, g_nx_sRy, g_pv_sRy, g_nx_sLn, g_pv_sLn, g_nx_sSd, g_pv_sSd, g_nx_sAr, g_pv_sAr, x1, x2, x3, x4]
  · rw [flM_rx]
    unfold tuM leM rdM inM lkM
    simp only [g_nx_sLv, g_pv_sLv, g_rx_sLv, g_nx_sOw, g_pv_sOw, g_rx_sOw, g_nx_sNx, g_pv_sNx, g_rx_sNx, g_nx_sPv, g_pv_sPv, g_rx_sPv, g_nx_sRx, g_pv_sRx, g_rx_sRx, g_nx_sRy, g_pv_sRy, g_rx_sRy, g_nx_sLn, g_pv_sLn, g_rx_sLn, g_nx_sSd, g_pv_sSd, g_rx_sSd, g_nx_sAr, g_pv_sAr, g_rx_sAr]
  · rw [flM_ry]
    unfold tuM leM rdM inM lkM
    simp only [g_nx_sLv, g_pv_sLv, g_ry_sLv, g_nx_sOw, g_pv_sOw, g_ry_sOw, g_nx_sNx, g_pv_sNx, g_ry_sNx, g_nx_sPv, g_pv_sPv, g_ry_sPv, g_nx_sRx, g_pv_sRx, g_ry_sRx, g_nx_sRy, g_pv_sRy, g_ry_sRy, g_nx_sLn, g_pv_sLn, g_ry_sLn, g_nx_sSd, g_pv_sSd, g_ry_sSd, g_nx_sAr, g_pv_sAr, g_ry_sAr]
  · rw [flM_ln]
    unfold tuM leM rdM inM lkM
    simp only [g_ln_sLv, g_ln_sOw, g_ln_sNx, g_ln_sPv, g_ln_sRx, g_ln_sRy, g_ln_sLn, g_ln_sSd, g_ln_sAr]
  · rw [flM_sd]
    unfold tuM leM rdM inM lkM
    simp only [g_ow_sLv, g_nx_sLv, g_sd_sLv, g_ow_sOw, g_nx_sOw, g_sd_sOw, g_ow_sNx, g_nx_sNx, g_sd_sNx, g_ow_sPv, g_nx_sPv, g_sd_sPv, g_ow_sRx, g_nx_sRx, g_sd_sRx, g_ow_sRy, g_nx_sRy, g_sd_sRy, g_ow_sLn, g_nx_sLn, g_sd_sLn, g_ow_sSd, g_nx_sSd, g_sd_sSd, g_ow_sAr, g_nx_sAr, g_sd_sAr]
  · rw [flM_ar]
    unfold tuM leM rdM inM lkM
    simp only [g_ar_sLv, g_ar_sOw, g_ar_sNx, g_ar_sPv, g_ar_sRx, g_ar_sRy, g_ar_sLn, g_ar_sSd, g_ar_sAr]
theorem m_turnWall (O : MoSh sh m) (A : MeR M (μ (m + 1))) (J : Inv M) (w : Wa) (hl : lv M w = true) (hc : can M w = true) : cl sh zX6_turnWall [.ref m, .int (nI w.val)] μ (fun r μ' => r = none ∧ MeR (flM M w) (μ' (m + 1)) ∧ FrR μ μ' m) := by
  obtain ⟨⟨c1, c2⟩, c3, c4, c5, c6, c7, c8⟩ := can_iff.mp hc
  rw [← J.tu hl hc]
  have la : LvH M (h0 w) := LvH_h0.mpr hl
  have lo : LvH M (h1 w) := LvH_h1.mpr hl
  have ao : h0 w ≠ h1 w := fun e => c3 (by rw [e])
  have lN := J.nl la
  have lP := J.pl la
  have lN2 := J.nl lo
  have lTN : LvH M (tw (nx M (h0 w))) := LvH_tw.mpr lN
  have lTN2 : LvH M (tw (nx M (h1 w))) := LvH_tw.mpr lN2
  have pC := J.pos lTN
  have pD := J.pos lTN2
  have E1 : ∀ Q', cl sh zX6_next [.ref m, .int (nI (2 * w.val))] μ Q' = Q' (some (.int (nI (nx M (h0 w)).val))) μ := fun Q' => m_next O A (h0 w) la
  have E2 : ∀ Q', cl sh zX6_before [.ref m, .int (nI (2 * w.val))] μ Q' = Q' (some (.int (nI (pv M (h0 w)).val))) μ := fun Q' => m_before O A (h0 w) la
  have E3 : ∀ Q', cl sh zX6_next [.ref m, .int (nI (2 * w.val + 1))] μ Q' = Q' (some (.int (nI (nx M (h1 w)).val))) μ := fun Q' => m_next O A (h1 w) lo
  have x1 := (A.1 _ lTN).2.2.2.1
  have x2 := (A.1 _ lP).2.2.2.1
  have y1 := (A.1 _ lTN).2.2.2.2
  have y2 := (A.1 _ lP).2.2.2.2
  show wp sh zX6_turnWall 0 [.ref m, .int (nI w.val), .null, .null, .null, .null, .null, .null, .null] [] μ _
  simp (disch := first | omega | assumption) only [mm_op_some, true_and, and_true, mm_rc_some, mm_rc_none, pk_mul, nI_add, mm_in_t, nI_clamp, ok0, ok1, ok2, ok3, ok4, n1_0, n0_0, nI_le_, nI_lt_, if_true, if_false, not_true, not_false_eq_true, ce_lt, ce_cl, hf_lt, hf_cl, nI_xor, tw_xor, wp_iconst (y := zX6_turnWall) (nI 2) ki_2 dX6_turnWall_0, wp_il1 (y := zX6_turnWall) dX6_turnWall_1, wp_imul (y := zX6_turnWall) dX6_turnWall_2, wp_is2 (y := zX6_turnWall) dX6_turnWall_3, wp_il2 (y := zX6_turnWall) dX6_turnWall_4, wp_iconst (y := zX6_turnWall) (nI 1) ki_1 dX6_turnWall_5, wp_iadd (y := zX6_turnWall) dX6_turnWall_6, wp_is3 (y := zX6_turnWall) dX6_turnWall_7, wp_al0 (y := zX6_turnWall) dX6_turnWall_8, wp_il2 (y := zX6_turnWall) dX6_turnWall_9, wp_cv1 (y := zX6_turnWall) kM6_90 (by decide) dX6_turnWall_10, (show yo zX6_next = 6 from rfl), wp_iconst (y := zX6_turnWall) (nI 1) ki_1 dX6_turnWall_13, wp_ixor (y := zX6_turnWall) dX6_turnWall_14, wp_is4 (y := zX6_turnWall) dX6_turnWall_15, wp_al0 (y := zX6_turnWall) dX6_turnWall_17, wp_il2 (y := zX6_turnWall) dX6_turnWall_18, wp_cv1 (y := zX6_turnWall) kM6_96 (by decide) dX6_turnWall_19, (show yo zX6_before = 6 from rfl), wp_is5 (y := zX6_turnWall) dX6_turnWall_22, wp_al0 (y := zX6_turnWall) dX6_turnWall_24, wp_il3 (y := zX6_turnWall) dX6_turnWall_25, wp_cv1 (y := zX6_turnWall) kM6_90 (by decide) dX6_turnWall_26, (show yo zX6_next = 6 from rfl), wp_iconst (y := zX6_turnWall) (nI 1) ki_1 dX6_turnWall_29, wp_ixor (y := zX6_turnWall) dX6_turnWall_30, wp_is6 (y := zX6_turnWall) dX6_turnWall_31, wp_al0 (y := zX6_turnWall) dX6_turnWall_33, wp_getf (y := zX6_turnWall) kF6_9 dX6_turnWall_34, wp_sipush (y := zX6_turnWall) (nI 880) ks_880 dX6_turnWall_37, wp_il4 (y := zX6_turnWall) dX6_turnWall_40, wp_iadd (y := zX6_turnWall) dX6_turnWall_42, wp_iald (y := zX6_turnWall) dX6_turnWall_43, wp_al0 (y := zX6_turnWall) dX6_turnWall_44, wp_getf (y := zX6_turnWall) kF6_9 dX6_turnWall_45, wp_sipush (y := zX6_turnWall) (nI 880) ks_880 dX6_turnWall_48, wp_il5 (y := zX6_turnWall) dX6_turnWall_51, wp_iadd (y := zX6_turnWall) dX6_turnWall_53, wp_iald (y := zX6_turnWall) dX6_turnWall_54, wp_iadd (y := zX6_turnWall) dX6_turnWall_55, wp_is7 (y := zX6_turnWall) dX6_turnWall_56, wp_al0 (y := zX6_turnWall) dX6_turnWall_58, wp_getf (y := zX6_turnWall) kF6_9 dX6_turnWall_59, wp_sipush (y := zX6_turnWall) (nI 1168) ks_1168 dX6_turnWall_62, wp_il4 (y := zX6_turnWall) dX6_turnWall_65, wp_iadd (y := zX6_turnWall) dX6_turnWall_67, wp_iald (y := zX6_turnWall) dX6_turnWall_68, wp_al0 (y := zX6_turnWall) dX6_turnWall_69, wp_getf (y := zX6_turnWall) kF6_9 dX6_turnWall_70, wp_sipush (y := zX6_turnWall) (nI 1168) ks_1168 dX6_turnWall_73, wp_il5 (y := zX6_turnWall) dX6_turnWall_76, wp_iadd (y := zX6_turnWall) dX6_turnWall_78, wp_iald (y := zX6_turnWall) dX6_turnWall_79, wp_iadd (y := zX6_turnWall) dX6_turnWall_80, wp_is8 (y := zX6_turnWall) dX6_turnWall_81, wp_al0 (y := zX6_turnWall) dX6_turnWall_83, wp_il2 (y := zX6_turnWall) dX6_turnWall_84, wp_cv1 (y := zX6_turnWall) kM6_124 (by decide) dX6_turnWall_85, (show yo zX6_leave = 6 from rfl), O.oc, O.g0, O.g1, O.g2, O.g3, O.g4, O.g5, O.g6, O.g7, O.g9, O.g10, O.g11, O.p0, O.p7, O.a1, O.a2, O.a3, O.a4, O.a5, O.a6, O.a7, O.a8, O.a9, E1, E2, E3, x1, x2, y1, y2]
  refine cl_mono (m_leave O A (h0 w) la (by omega)) ?_
  rintro r μ1 ⟨rfl, A1, F1⟩
  simp (disch := first | omega | assumption) only [mm_op_some, true_and, and_true, mm_rc_some, mm_rc_none, pk_mul, nI_add, mm_in_t, nI_clamp, ok0, ok1, ok2, ok3, ok4, n1_0, n0_0, nI_le_, nI_lt_, if_true, if_false, not_true, not_false_eq_true, ce_lt, ce_cl, hf_lt, hf_cl, wp_al0 (y := zX6_turnWall) dX6_turnWall_88, wp_il3 (y := zX6_turnWall) dX6_turnWall_89, wp_cv1 (y := zX6_turnWall) kM6_124 (by decide) dX6_turnWall_90, (show yo zX6_leave = 6 from rfl), O.oc, O.g0, O.g1, O.g2, O.g3, O.g4, O.g5, O.g6, O.g7, O.g9, O.g10, O.g11, O.p0, O.p7, O.a1, O.a2, O.a3, O.a4, O.a5, O.a6, O.a7, O.a8, O.a9]
  have sB : 0 < sd (leM M (h0 w)) (ow (leM M (h0 w)) (h1 w)) := by
    show 0 < fu (sd M) (ow M (h0 w)) (sd M (ow M (h0 w)) - 1) (ow M (h1 w))
    rw [fu_n _ _ c3.symm]
    omega
  refine cl_mono (m_leave O A1 (h1 w) lo sB) ?_
  rintro r μ2 ⟨rfl, A2, F2⟩
  simp (disch := first | omega | assumption) only [mm_op_some, true_and, and_true, mm_rc_some, mm_rc_none, pk_mul, nI_add, mm_in_t, nI_clamp, ok0, ok1, ok2, ok3, ok4, n1_0, n0_0, nI_le_, nI_lt_, if_true, if_false, not_true, not_false_eq_true, ce_lt, ce_cl, hf_lt, hf_cl, wp_al0 (y := zX6_turnWall) dX6_turnWall_93, wp_il2 (y := zX6_turnWall) dX6_turnWall_94, wp_il4 (y := zX6_turnWall) dX6_turnWall_95, wp_cv2 (y := zX6_turnWall) kM6_128 (by decide) dX6_turnWall_97, (show yo zX6_enter = 6 from rfl), O.oc, O.g0, O.g1, O.g2, O.g3, O.g4, O.g5, O.g6, O.g7, O.g9, O.g10, O.g11, O.p0, O.p7, O.a1, O.a2, O.a3, O.a4, O.a5, O.a6, O.a7, O.a8, O.a9]
  have sC : 0 < sd (leM (leM M (h0 w)) (h1 w)) (ow (leM (leM M (h0 w)) (h1 w)) (tw (nx M (h0 w)))) := by
    show 0 < fu (fu (sd M) (ow M (h0 w)) (sd M (ow M (h0 w)) - 1)) (ow M (h1 w)) _ (ow M (tw (nx M (h0 w))))
    rw [fu_n _ _ c6.symm, fu_n _ _ c4.symm]
    show 0 < sd M (ow M (tw (nx M (h0 w))))
    omega
  refine cl_mono (m_enter O A2 (h0 w) (tw (nx M (h0 w))) la lTN (fun e => c4 (by show ow M (h0 w) = ow M (tw (nx M (h0 w))); rw [← e])) sC) ?_
  rintro r μ3 ⟨rfl, A3, F3⟩
  simp (disch := first | omega | assumption) only [mm_op_some, true_and, and_true, mm_rc_some, mm_rc_none, pk_mul, nI_add, mm_in_t, nI_clamp, ok0, ok1, ok2, ok3, ok4, n1_0, n0_0, nI_le_, nI_lt_, if_true, if_false, not_true, not_false_eq_true, ce_lt, ce_cl, hf_lt, hf_cl, wp_al0 (y := zX6_turnWall) dX6_turnWall_100, wp_il3 (y := zX6_turnWall) dX6_turnWall_101, wp_il6 (y := zX6_turnWall) dX6_turnWall_102, wp_cv2 (y := zX6_turnWall) kM6_128 (by decide) dX6_turnWall_104, (show yo zX6_enter = 6 from rfl), O.oc, O.g0, O.g1, O.g2, O.g3, O.g4, O.g5, O.g6, O.g7, O.g9, O.g10, O.g11, O.p0, O.p7, O.a1, O.a2, O.a3, O.a4, O.a5, O.a6, O.a7, O.a8, O.a9]
  have r5 : tw (nx M (h1 w)) ≠ h0 w := fun e => c5 (by show ow M (h0 w) = ow M (tw (nx M (h1 w))); rw [e])
  have oD : ow (inM (leM (leM M (h0 w)) (h1 w)) (h0 w) (tw (nx M (h0 w))) (nx (leM (leM M (h0 w)) (h1 w)) (tw (nx M (h0 w))))) (tw (nx M (h1 w))) = en M (h1 w) := by
    show fu (ow M) (h0 w) (ow M (tw (nx M (h0 w)))) (tw (nx M (h1 w))) = _
    rw [fu_n _ _ r5]
  have sD : 0 < sd (inM (leM (leM M (h0 w)) (h1 w)) (h0 w) (tw (nx M (h0 w))) (nx (leM (leM M (h0 w)) (h1 w)) (tw (nx M (h0 w))))) (ow (inM (leM (leM M (h0 w)) (h1 w)) (h0 w) (tw (nx M (h0 w))) (nx (leM (leM M (h0 w)) (h1 w)) (tw (nx M (h0 w))))) (tw (nx M (h1 w)))) := by
    rw [oD]
    show 0 < fu (fu (fu (sd M) (ow M (h0 w)) _) (ow M (h1 w)) _) (ow M (tw (nx M (h0 w)))) _ (en M (h1 w))
    rw [fu_n _ _ (fun e => c8 e.symm), fu_n _ _ c7.symm, fu_n _ _ c5.symm]
    show 0 < sd M (ow M (tw (nx M (h1 w))))
    omega
  refine cl_mono (m_enter O A3 (h1 w) (tw (nx M (h1 w))) lo lTN2 (fun e => c7 (by show ow M (h1 w) = ow M (tw (nx M (h1 w))); rw [← e])) sD) ?_
  rintro r μ4 ⟨rfl, A4, F4⟩
  simp (disch := first | omega | assumption) only [mm_op_some, true_and, and_true, mm_rc_some, mm_rc_none, pk_mul, nI_add, mm_in_t, nI_clamp, ok0, ok1, ok2, ok3, ok4, n1_0, n0_0, nI_le_, nI_lt_, if_true, if_false, not_true, not_false_eq_true, ce_lt, ce_cl, hf_lt, hf_cl, wp_al0 (y := zX6_turnWall) dX6_turnWall_107, wp_il2 (y := zX6_turnWall) dX6_turnWall_108, wp_il7 (y := zX6_turnWall) dX6_turnWall_109, wp_il8 (y := zX6_turnWall) dX6_turnWall_111, wp_cv3 (y := zX6_turnWall) kM6_131 (by decide) dX6_turnWall_113, (show yo zX6_counts = 6 from rfl), O.oc, O.g0, O.g1, O.g2, O.g3, O.g4, O.g5, O.g6, O.g7, O.g9, O.g10, O.g11, O.p0, O.p7, O.a1, O.a2, O.a3, O.a4, O.a5, O.a6, O.a7, O.a8, O.a9]
  refine cl_mono (m_counts O A4 (h0 w) (rx M (tw (nx M (h0 w))) + rx M (pv M (h0 w))) (ry M (tw (nx M (h0 w))) + ry M (pv M (h0 w)))) ?_
  rintro r μ5 ⟨rfl, A5, F5⟩
  simp (disch := first | omega | assumption) only [mm_op_some, true_and, and_true, mm_rc_some, mm_rc_none, pk_mul, nI_add, mm_in_t, nI_clamp, ok0, ok1, ok2, ok3, ok4, n1_0, n0_0, nI_le_, nI_lt_, if_true, if_false, not_true, not_false_eq_true, ce_lt, ce_cl, hf_lt, hf_cl, wp_al0 (y := zX6_turnWall) dX6_turnWall_116, wp_getf (y := zX6_turnWall) kF6_9 dX6_turnWall_117, wp_sipush (y := zX6_turnWall) (nI 1456) ks_1456 dX6_turnWall_120, wp_il1 (y := zX6_turnWall) dX6_turnWall_123, wp_iadd (y := zX6_turnWall) dX6_turnWall_124, wp_bipush (y := zX6_turnWall) (nI 10) kb_10 dX6_turnWall_125, wp_iast (y := zX6_turnWall) dX6_turnWall_127, wp_vret (y := zX6_turnWall) rfl dX6_turnWall_128, O.oc, O.g0, O.g1, O.g2, O.g3, O.g4, O.g5, O.g6, O.g7, O.g9, O.g10, O.g11, O.p0, O.p7, O.a1, O.a2, O.a3, O.a4, O.a5, O.a6, O.a7, O.a8, O.a9]
  refine ⟨?_, FrR_mu ((((F1.trans F2).trans F3).trans F4).trans F5) _ _ (by omega) (by omega)⟩
  rw [mu_s]
  exact A5.wLn w (nI 10) hl
/-- a row's memory but for the row: nothing has changed -/
def RO (μ μ' : mm_U) (m : Nat) : Prop := ∀ a, a ≠ m + 1 → μ' a = μ a
/-- the row holds a foam -/
def RepM (s : Fo) (μ : mm_U) (m : Nat) : Prop := MeR s.1 (μ (m + 1)) ∧ OtR s (μ m 7) (μ (m + 1))
theorem MeR.cg {r r' : Nat → Int32} (A : MeR M r) (h : ∀ k, 16 ≤ k → k < 1696 → r' k = r k) : MeR M r' := by
  refine ⟨fun g lg => ?_, fun w => ?_, fun c => ?_, fun c hc => ?_⟩
  · obtain ⟨q0, q1, q2, q3, q4⟩ := A.1 g lg
    exact ⟨by rw [h _ (by omega) (by omega)]; exact q0, by rw [h _ (by omega) (by omega)]; exact q1, by rw [h _ (by omega) (by omega)]; exact q2, by rw [h _ (by omega) (by omega)]; exact q3, by rw [h _ (by omega) (by omega)]; exact q4⟩
  · rw [h _ (by omega) (by omega)]; exact A.2.1 w
  · rw [h _ (by omega) (by omega)]; exact A.2.2.1 c
  · rw [h _ (by omega) (by omega)]; exact A.2.2.2 c hc
theorem OtR.cg {r r' : Nat → Int32} {g : Int32} (A : OtR s g r) (h : ∀ k, k < 16 ∨ 1696 ≤ k → r' k = r k) : OtR s g r' := by
  obtain ⟨a0, a1, a2, a3, a4, a5, a6, a7, a8, a9, a10, a11⟩ := A
  refine ⟨by rw [h _ (by omega)]; exact a0, by rw [h _ (by omega)]; exact a1, by rw [h _ (by omega)]; exact a2, by rw [h _ (by omega)]; exact a3, by rw [h _ (by omega)]; exact a4, by rw [h _ (by omega)]; exact a5, by rw [h _ (by omega)]; exact a6, by rw [h _ (by omega)]; exact a7, by rw [h _ (by omega)]; exact a8, fun k hk => by rw [h _ (by omega)]; exact a9 k hk, a10, fun i e he => ?_⟩
  rw [h _ (by omega), h _ (by omega), h _ (by omega)]
  exact a11 i e he
theorem OtR_m {g : Int32} {r : Nat → Int32} (A : OtR s g r) (N : Ms) : OtR (N, s.2) g r := A
end MOG
