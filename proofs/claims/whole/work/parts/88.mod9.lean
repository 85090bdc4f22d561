section MVB
variable {sh : mm_Sh} {m : Nat} {M : Ms} {μ : mm_U} {s : Fo} {c : Ce} {Q : Option Value → mm_U → Prop}
theorem Inv.va_f (J : Inv M) {u0 u1 u2 : Hf} (l0 : LvH M u0) (l1 : LvH M u1) (l2 : LvH M u2) (d01 : ow M u0 ≠ ow M u1) (d02 : ow M u0 ≠ ow M u2) (d12 : ow M u1 ≠ ow M u2) : nx (vaM M c u0 u1 u2) = fu (fu (fu (nx M) (pv M u0) (nx M u0)) (pv M u1) (nx M u1)) (pv M u2) (nx M u2) ∧ pv (vaM M c u0 u1 u2) = fu (fu (fu (pv M) (nx M u0) (pv M u0)) (nx M u1) (pv M u1)) (nx M u2) (pv M u2) ∧ sd (vaM M c u0 u1 u2) = fu (fu (fu (fu (sd M) (ow M u0) (sd M (ow M u0) - 1)) (ow M u1) (sd M (ow M u1) - 1)) (ow M u2) (sd M (ow M u2) - 1)) c 0 ∧ lv (vaM M c u0 u1 u2) = fu (fu (fu (lv M) (wl u0) false) (wl u1) false) (wl u2) false ∧ ow (vaM M c u0 u1 u2) = ow M ∧ ln (vaM M c u0 u1 u2) = ln M := by
  obtain ⟨F1, F2, F3, F4, F5, F6⟩ := vaM_f M c u0 u1 u2
  have x1 : nx (shS M u0) u1 = nx M u1 := by rw [shS_nx, fu_n _ _ (fun e => d01 (by rw [e, J.op l0]))]
  have y1 : pv (shS M u0) u1 = pv M u1 := by rw [shS_pv _ _ (J.pne l0), fu_n _ _ (fun e => d01 (by rw [e, J.on l0]))]
  have x2 : nx (shS M u0) u2 = nx M u2 := by rw [shS_nx, fu_n _ _ (fun e => d02 (by rw [e, J.op l0]))]
  have y2 : pv (shS M u0) u2 = pv M u2 := by rw [shS_pv _ _ (J.pne l0), fu_n _ _ (fun e => d02 (by rw [e, J.on l0]))]
  have p1 : pv (shS M u0) u1 ≠ u1 := by rw [y1]; exact J.pne l1
  have x3 : nx (shS (shS M u0) u1) u2 = nx M u2 := by rw [shS_nx, y1, fu_n _ _ (fun e => d12 (by rw [e, J.op l1])), x2]
  have y3 : pv (shS (shS M u0) u1) u2 = pv M u2 := by rw [shS_pv _ _ p1, x1, fu_n _ _ (fun e => d12 (by rw [e, J.on l1])), y2]
  have p2 : pv (shS (shS M u0) u1) u2 ≠ u2 := by rw [y3]; exact J.pne l2
  refine ⟨by rw [F3, shS_nx, y3, x3, shS_nx, y1, x1, shS_nx], by rw [F4, shS_pv _ _ p2, y3, x3, shS_pv _ _ p1, y1, x1, shS_pv _ _ (J.pne l0)], ?_, by rw [F1, shS_lv, shS_lv, shS_lv], F2, F6⟩
  rw [F5, shS_sd, shS_ow, shS_ow, shS_sd, shS_ow, shS_sd, fu_n _ _ d01.symm, fu_n _ _ d12.symm, fu_n _ _ d02.symm]
theorem Inv.vs_f (J : Inv M) {i0 i1 i2 : Hf} (l0 : LvH M i0) (l1 : LvH M i1) (l2 : LvH M i2) (d01 : ow M (tw i0) ≠ ow M (tw i1)) (d02 : ow M (tw i0) ≠ ow M (tw i2)) (d12 : ow M (tw i1) ≠ ow M (tw i2)) : nx (vsM (vsM (vsM M i0) i1) i2) = fu (fu (fu (nx M) (pv M (tw i0)) (nx M (tw i0))) (pv M (tw i1)) (nx M (tw i1))) (pv M (tw i2)) (nx M (tw i2)) ∧ pv (vsM (vsM (vsM M i0) i1) i2) = fu (fu (fu (pv M) (nx M (tw i0)) (pv M (tw i0))) (nx M (tw i1)) (pv M (tw i1))) (nx M (tw i2)) (pv M (tw i2)) ∧ sd (vsM (vsM (vsM M i0) i1) i2) = fu (fu (fu (sd M) (ow M (tw i0)) (sd M (ow M (tw i0)) - 1)) (ow M (tw i1)) (sd M (ow M (tw i1)) - 1)) (ow M (tw i2)) (sd M (ow M (tw i2)) - 1) := by
  have t0 : LvH M (tw i0) := LvH_tw.mpr l0
  have t1 : LvH M (tw i1) := LvH_tw.mpr l1
  have t2 : LvH M (tw i2) := LvH_tw.mpr l2
  obtain ⟨a1, a2, a3, a4, a5, a6, a7, a8, a9⟩ := vsM_f M i0
  obtain ⟨b1, b2, b3, b4, b5, b6, b7, b8, b9⟩ := vsM_f (vsM M i0) i1
  obtain ⟨c1, c2, c3, c4, c5, c6, c7, c8, c9⟩ := vsM_f (vsM (vsM M i0) i1) i2
  have x1 : nx (vsM M i0) (tw i1) = nx M (tw i1) := by rw [a3, fu_n _ _ (fun e => d01 (by rw [e, J.op t0]))]
  have y1 : pv (vsM M i0) (tw i1) = pv M (tw i1) := by rw [a4, fu_n _ _ (fun e => d01 (by rw [e, J.on t0]))]
  have x2 : nx (vsM M i0) (tw i2) = nx M (tw i2) := by rw [a3, fu_n _ _ (fun e => d02 (by rw [e, J.op t0]))]
  have y2 : pv (vsM M i0) (tw i2) = pv M (tw i2) := by rw [a4, fu_n _ _ (fun e => d02 (by rw [e, J.on t0]))]
  have x3 : nx (vsM (vsM M i0) i1) (tw i2) = nx M (tw i2) := by rw [b3, y1, fu_n _ _ (fun e => d12 (by rw [e, J.op t1])), x2]
  have y3 : pv (vsM (vsM M i0) i1) (tw i2) = pv M (tw i2) := by rw [b4, x1, fu_n _ _ (fun e => d12 (by rw [e, J.on t1])), y2]
  refine ⟨by rw [c3, y3, x3, b3, y1, x1, a3], by rw [c4, y3, x3, b4, y1, x1, a4], ?_⟩
  rw [c8, b2, a2, b8, a2, a8, fu_n _ _ d01.symm, fu_n _ _ d12.symm, fu_n _ _ d02.symm]
theorem rich_ar {N : Ms} (h : ar N = ar M) (d c : Ce) : rich N d c = rich M d c := by unfold rich; rw [h]
theorem m_vanishes (O : MoSh sh m) (R : RepM s μ m) (J : Inv s.1) (f : Hf) (fh : fH s.1 c = some f.val) (hc : canS s.1 c f = true) : cl sh zX6_vanishes [.ref m, .int (nI c.val)] μ (fun r μ' => r = some (.int (nI (vaH s.1 (vu s.1 c).1 (vu s.1 c).2.1 (vu s.1 c).2.2).val)) ∧ RepM (fEv s (vaC s.1 c) 1 8 (nI c.val)) μ' m ∧ RO μ μ' m) := by
  obtain ⟨A, T⟩ := R
  obtain ⟨lf, of⟩ := fH_ow fh
  obtain ⟨k0, k1, k2, k3, k4, k5, k6⟩ := canS_iff.mp hc
  have pc : 0 < sd s.1 c := by omega
  have k0' := k0
  rw [← of] at k0
  obtain ⟨e1, e2, _⟩ := J.tri lf k0
  have l1 := J.nl lf
  have l2 := J.pl lf
  have o1 := (J.on lf).trans of
  have o2 := (J.op lf).trans of
  have g0 : ow s.1 (tw f) ≠ c := fun e => J.2.2.1 f lf (e.trans of.symm)
  have g1 : ow s.1 (tw (nx s.1 f)) ≠ c := fun e => J.2.2.1 _ l1 (e.trans o1.symm)
  have g2 : ow s.1 (tw (pv s.1 f)) ≠ c := fun e => J.2.2.1 _ l2 (e.trans o2.symm)
  have t0 : LvH s.1 (tw f) := LvH_tw.mpr lf
  have t1 : LvH s.1 (tw (nx s.1 f)) := LvH_tw.mpr l1
  have t2 : LvH s.1 (tw (pv s.1 f)) := LvH_tw.mpr l2
  obtain ⟨v1, v2, v3, v4, v5, v6, v7, v8, v9⟩ := vsM_f s.1 f
  obtain ⟨w1, w2, w3, w4, w5, w6, w7, w8, w9⟩ := vsM_f (vsM s.1 f) (nx s.1 f)
  obtain ⟨z1, z2, z3, z4, z5, z6, z7, z8, z9⟩ := vsM_f (vsM (vsM s.1 f) (nx s.1 f)) (pv s.1 f)
  have E1 : ∀ Q', cl sh zX6_firstSide [.ref m, .int (nI c.val)] μ Q' = Q' (some (.int (nI f.val))) μ := fun Q' => m_firstSide O A J.lnb c f fh
  have E2 : ∀ Q', cl sh zX6_over [.ref m, .int (nI f.val)] μ Q' = Q' (some (.int (nI (ow s.1 (tw f)).val))) μ := fun Q' => m_over O A f lf
  have q1 : ((-1 : Int32) = -1) = True := eq_true rfl
  have q0 : ((3 : Nat) ≤ 0) = False := eq_false (by omega)
  show wp sh zX6_vanishes 0 [.ref m, .int (nI c.val), .null, .null, .null] [] μ _
  simp (disch := first | omega | assumption) only [mm_op_some, true_and, and_true, mm_rc_some, mm_rc_none, pk_mul, nI_add, mm_in_t, nI_clamp, ok0, ok1, ok2, ok3, ok4, n1_0, n0_0, nI_le_, nI_lt_, if_true, if_false, not_true, not_false_eq_true, ce_lt, ce_cl, hf_lt, hf_cl, nI_xor, tw_xor, wp_iconst (y := zX6_vanishes) ((-1)) ki_m1 dX6_vanishes_0, wp_is2 (y := zX6_vanishes) dX6_vanishes_1, wp_al0 (y := zX6_vanishes) dX6_vanishes_2, wp_il1 (y := zX6_vanishes) dX6_vanishes_3, wp_cv1 (y := zX6_vanishes) kM6_87 (by decide) dX6_vanishes_4, (show yo zX6_firstSide = 6 from rfl), wp_is3 (y := zX6_vanishes) dX6_vanishes_7, wp_iconst (y := zX6_vanishes) (nI 0) ki_0 dX6_vanishes_8, wp_is4 (y := zX6_vanishes) dX6_vanishes_9, wp_il4 (y := zX6_vanishes) dX6_vanishes_11, wp_iconst (y := zX6_vanishes) (nI 3) ki_3 dX6_vanishes_13, wp_icmp_ge (y := zX6_vanishes) 77 (by decide) dX6_vanishes_14, wp_il2 (y := zX6_vanishes) dX6_vanishes_17, wp_iconst (y := zX6_vanishes) ((-1)) ki_m1 dX6_vanishes_18, wp_icmp_eq (y := zX6_vanishes) 35 (by decide) dX6_vanishes_19, wp_al0 (y := zX6_vanishes) dX6_vanishes_35, wp_il3 (y := zX6_vanishes) dX6_vanishes_36, wp_cv1 (y := zX6_vanishes) kM6_105 (by decide) dX6_vanishes_37, (show yo zX6_over = 6 from rfl), wp_goto (y := zX6_vanishes) 44 (by decide) dX6_vanishes_40, wp_is2 (y := zX6_vanishes) dX6_vanishes_44, wp_al0 (y := zX6_vanishes) dX6_vanishes_45, wp_il3 (y := zX6_vanishes) dX6_vanishes_46, wp_iconst (y := zX6_vanishes) (nI 1) ki_1 dX6_vanishes_47, wp_ixor (y := zX6_vanishes) dX6_vanishes_48, wp_cv1 (y := zX6_vanishes) kM6_124 (by decide) dX6_vanishes_49, (show yo zX6_leave = 6 from rfl), O.oc, O.g0, O.g1, O.g2, O.g3, O.g4, O.g5, O.g6, O.g7, O.g9, O.g10, O.g11, O.p0, O.p7, O.a1, O.a2, O.a3, O.a4, O.a5, O.a6, O.a7, O.a8, O.a9, E1, E2, q1, q0]
  refine cl_mono (m_leave O A (tw f) t0 (by omega)) ?_
  rintro r μ1 ⟨rfl, A1, F1⟩
  have A2 : MeR (vsM s.1 f) (upd (μ1 (m + 1)) (1456 + (wl f).val) (-1)) := A1.wLn (wl f) (-1) lf
  have k2' : ¬ nI 2 = 0 := by decide
  have wd : nI f.val / nI 2 = nI (wl f).val := wl_div f
  have E3 : ∀ Q', cl sh zX6_next [.ref m, .int (nI f.val)] (mu μ1 (m + 1) (upd (μ1 (m + 1)) (1456 + (wl f).val) (-1))) Q' = Q' (some (.int (nI (nx s.1 f).val))) (mu μ1 (m + 1) (upd (μ1 (m + 1)) (1456 + (wl f).val) (-1))) := fun Q' => by
    have q := m_next (Q := Q') (M := vsM s.1 f) (μ := mu μ1 (m + 1) (upd (μ1 (m + 1)) (1456 + (wl f).val) (-1))) O (by rw [mu_s]; exact A2) f lf
    rw [v3, fu_n _ _ (fun e => g0 (by rw [← J.op t0, ← e]; exact of))] at q
    exact q
  simp (disch := first | omega | assumption) only [mm_op_some, true_and, and_true, mm_rc_some, mm_rc_none, pk_mul, nI_add, mm_in_t, nI_clamp, ok0, ok1, ok2, ok3, ok4, n1_0, n0_0, nI_le_, nI_lt_, if_true, if_false, not_true, not_false_eq_true, ce_lt, ce_cl, hf_lt, hf_cl, wp_al0 (y := zX6_vanishes) dX6_vanishes_52, wp_getf (y := zX6_vanishes) kF6_9 dX6_vanishes_53, wp_sipush (y := zX6_vanishes) (nI 1456) ks_1456 dX6_vanishes_56, wp_il3 (y := zX6_vanishes) dX6_vanishes_59, wp_iconst (y := zX6_vanishes) (nI 2) ki_2 dX6_vanishes_60, wp_idiv' (y := zX6_vanishes) dX6_vanishes_61, wp_iadd (y := zX6_vanishes) dX6_vanishes_62, wp_iconst (y := zX6_vanishes) ((-1)) ki_m1 dX6_vanishes_63, wp_iast (y := zX6_vanishes) dX6_vanishes_64, wp_al0 (y := zX6_vanishes) dX6_vanishes_65, wp_il3 (y := zX6_vanishes) dX6_vanishes_66, wp_cv1 (y := zX6_vanishes) kM6_90 (by decide) dX6_vanishes_67, (show yo zX6_next = 6 from rfl), wp_is3 (y := zX6_vanishes) dX6_vanishes_70, wp_inc4 (y := zX6_vanishes) (nI 1) ki_1 dX6_vanishes_71, wp_goto (y := zX6_vanishes) 11 (by decide) dX6_vanishes_74, O.oc, O.g0, O.g1, O.g2, O.g3, O.g4, O.g5, O.g6, O.g7, O.g9, O.g10, O.g11, O.p0, O.p7, O.a1, O.a2, O.a3, O.a4, O.a5, O.a6, O.a7, O.a8, O.a9, wd, E3]
  have L1 : LvH (vsM s.1 f) (nx s.1 f) := by unfold LvH; rw [v1]; exact l1
  have S1 : sd (vsM s.1 f) (ow (vsM s.1 f) (tw (nx s.1 f))) = sd s.1 (ow s.1 (tw (nx s.1 f))) := by rw [v2, v8, fu_n _ _ (fun e => k1 e.symm)]
  have SX : sd (vsM s.1 f) (ow s.1 (tw f)) = sd s.1 (ow s.1 (tw f)) - 1 := by rw [v8, fu_s]
  refine m_vside O (M := vsM s.1 f) (by rw [mu_s]; exact A2) (nx s.1 f) L1 (by rw [S1]; omega) c (ow s.1 (tw f)) 1 (by decide) (by rw [SX]; omega) (by rw [S1]; omega) (by
    rw [v4, fu_n _ _ (fun e => k1 (by rw [e, J.on t0]))]
    exact fun e => g1 (by rw [← J.op t1, e]; exact o1)) ?_
  intro μ2 A3 F3
  have nx1 : nx (vsM s.1 f) (nx s.1 f) = pv s.1 f := by rw [v3, fu_n _ _ (fun e => g0 (by rw [← J.op t0, ← e]; exact o1)), e1]
  rw [rich_ar v9, v2, nx1]
  have L2 : LvH (vsM (vsM s.1 f) (nx s.1 f)) (pv s.1 f) := by unfold LvH; rw [w1, v1]; exact l2
  have S2 : sd (vsM (vsM s.1 f) (nx s.1 f)) (ow (vsM (vsM s.1 f) (nx s.1 f)) (tw (pv s.1 f))) = sd s.1 (ow s.1 (tw (pv s.1 f))) := by rw [w2, v2, w8, v2, fu_n _ _ (fun e => k2 e.symm), v8, fu_n _ _ k3]
  have SR : 0 < sd (vsM (vsM s.1 f) (nx s.1 f)) (rich s.1 (ow s.1 (tw f)) (ow s.1 (tw (nx s.1 f)))) := by
    rcases rich_or s.1 (ow s.1 (tw f)) (ow s.1 (tw (nx s.1 f))) with h | h
    · rw [h, w8, v2, fu_n _ _ k1, SX]; omega
    · rw [h, w8, v2, fu_s, v8, fu_n _ _ (fun e => k1 e.symm)]; omega
  refine m_vside O (M := vsM (vsM s.1 f) (nx s.1 f)) A3 (pv s.1 f) L2 (by rw [S2]; omega) c _ 2 (by decide) SR (by rw [S2]; omega) (by
    rw [w4, v3, fu_n (nx s.1) _ (fun e => k1 (by rw [← J.op t0, ← e])), fu_n _ _ (fun e => k2 (by rw [e, J.on t1])), v4, fu_n _ _ (fun e => k3 (by rw [e, J.on t0]))]
    exact fun e => g2 (by rw [← J.op t2, e]; exact o2)) ?_
  intro μ3 A4 F4
  rw [rich_ar (w9.trans v9), w2, v2]
  obtain ⟨H, eH⟩ : ∃ H, H = rich s.1 (rich s.1 (ow s.1 (tw f)) (ow s.1 (tw (nx s.1 f)))) (ow s.1 (tw (pv s.1 f))) := ⟨_, rfl⟩
  rw [← eH]
  have hH : H = ow s.1 (tw f) ∨ H = ow s.1 (tw (nx s.1 f)) ∨ H = ow s.1 (tw (pv s.1 f)) := by
    rw [eH]
    rcases rich_or s.1 (rich s.1 (ow s.1 (tw f)) (ow s.1 (tw (nx s.1 f)))) (ow s.1 (tw (pv s.1 f))) with h | h
    · rw [h]
      rcases rich_or s.1 (ow s.1 (tw f)) (ow s.1 (tw (nx s.1 f))) with h | h
      · exact Or.inl h
      · exact Or.inr (Or.inl h)
    · exact Or.inr (Or.inr h)
  obtain ⟨n3, p3, s3⟩ := J.vs_f lf l1 l2 k1 (fun e => k3 e.symm) k2
  have sdH : 0 < sd (vsM (vsM (vsM s.1 f) (nx s.1 f)) (pv s.1 f)) H := by
    rw [s3]
    rcases hH with h | h | h
    · rw [h, fu_n _ _ (fun e => k3 e.symm), fu_n _ _ k1, fu_s]; omega
    · rw [h, fu_n _ _ k2, fu_s]; omega
    · rw [h, fu_s]; omega
  have sdc : sd (vsM (vsM (vsM s.1 f) (nx s.1 f)) (pv s.1 f)) c = sd s.1 c := by rw [s3, fu_n _ _ (fun e => g2 e.symm), fu_n _ _ (fun e => g1 e.symm), fu_n _ _ (fun e => g0 e.symm)]
  have arN : ar (vsM (vsM (vsM s.1 f) (nx s.1 f)) (pv s.1 f)) = ar s.1 := z9.trans (w9.trans v9)
  have rH := A4.2.2.2 H sdH
  have rc := A4.2.2.2 c (by rw [sdc]; exact pc)
  rw [arN] at rH rc
  have i5 : (mm_in (nI 5) 1786 = true) = True := mm_in_t (by decide) (by decide)
  have c5 : (nI 5).toNatClampNeg = 5 := rfl
  have FF : FrR μ μ3 m := ((FrR_mu F1 _ _ (by omega) (by omega)).trans F3).trans F4
  have hm : μ3 m = μ m := FF.1 m (by omega)
  have r5 : μ3 (m + 1) 5 = s.2.2.2 8 := by rw [FF.2 5 (by omega)]; exact T.2.2.2.2.2.1
  have u5 : upd (upd (μ3 (m + 1)) (1600 + H.val) (ar s.1 H + ar s.1 c)) (1648 + c.val) (nI 0) 5 = s.2.2.2 8 := by rw [upd_n _ _ (by omega), upd_n _ _ (by omega)]; exact r5
  have h9 : (3 ≤ 2 + 1) = True := eq_true (by omega)
  rw [wp_il4 (y := zX6_vanishes) dX6_vanishes_11]
  simp (disch := first | omega | assumption) only [mm_op_some, true_and, and_true, nI_add, mm_in_t, nI_clamp, nI_le_, if_true, mu_s, ok0, ok1, ok2, wp_iconst (y := zX6_vanishes) (nI 3) ki_3 dX6_vanishes_13, wp_icmp_ge (y := zX6_vanishes) 77 (by decide) dX6_vanishes_14, wp_al0 (y := zX6_vanishes) dX6_vanishes_77, wp_getf (y := zX6_vanishes) kF6_9 dX6_vanishes_78, wp_sipush (y := zX6_vanishes) (nI 1600) ks_1600 dX6_vanishes_81, wp_il2 (y := zX6_vanishes) dX6_vanishes_84, wp_iadd (y := zX6_vanishes) dX6_vanishes_85, wp_dup2 (y := zX6_vanishes) dX6_vanishes_86, wp_iald (y := zX6_vanishes) dX6_vanishes_87, wp_al0 (y := zX6_vanishes) dX6_vanishes_88, wp_getf (y := zX6_vanishes) kF6_9 dX6_vanishes_89, wp_sipush (y := zX6_vanishes) (nI 1600) ks_1600 dX6_vanishes_92, wp_il1 (y := zX6_vanishes) dX6_vanishes_95, wp_iadd (y := zX6_vanishes) dX6_vanishes_96, wp_iald (y := zX6_vanishes) dX6_vanishes_97, wp_iadd (y := zX6_vanishes) dX6_vanishes_98, wp_iast (y := zX6_vanishes) dX6_vanishes_99, wp_al0 (y := zX6_vanishes) dX6_vanishes_100, wp_getf (y := zX6_vanishes) kF6_9 dX6_vanishes_101, wp_sipush (y := zX6_vanishes) (nI 1648) ks_1648 dX6_vanishes_104, wp_il1 (y := zX6_vanishes) dX6_vanishes_107, wp_iadd (y := zX6_vanishes) dX6_vanishes_108, wp_iconst (y := zX6_vanishes) (nI 0) ki_0 dX6_vanishes_109, wp_iast (y := zX6_vanishes) dX6_vanishes_110, wp_al0 (y := zX6_vanishes) dX6_vanishes_111, wp_getf (y := zX6_vanishes) kF6_9 dX6_vanishes_112, wp_iconst (y := zX6_vanishes) (nI 5) ki_5 dX6_vanishes_115, wp_dup2 (y := zX6_vanishes) dX6_vanishes_116, wp_iald (y := zX6_vanishes) dX6_vanishes_117, wp_iconst (y := zX6_vanishes) (nI 1) ki_1 dX6_vanishes_118, wp_iadd (y := zX6_vanishes) dX6_vanishes_119, wp_iast (y := zX6_vanishes) dX6_vanishes_120, wp_al0 (y := zX6_vanishes) dX6_vanishes_121, wp_iconst (y := zX6_vanishes) (nI 1) ki_1 dX6_vanishes_122, wp_il1 (y := zX6_vanishes) dX6_vanishes_123, wp_cv2 (y := zX6_vanishes) kM6_138 (by decide) dX6_vanishes_124, (show yo zX6_notes = 6 from rfl), O.oc, O.g0, O.g1, O.g2, O.g3, O.g4, O.g5, O.g6, O.g7, O.g9, O.g10, O.g11, O.p0, O.p7, O.a1, O.a2, O.a3, O.a4, O.a5, O.a6, O.a7, O.a8, O.a9, rH, rc, i5, c5, u5, h9]
  -- the mesh then
  have A5 := A4.wAr H (ar s.1 H + ar s.1 c)
  have A6 := A5.wSd c 0 (fun h => absurd h (Nat.lt_irrefl _))
  have wd0 : wl (nx s.1 f) ≠ wl f := fun e => (wl_eq e).elim (J.nne lf) (fun z => g0 (by rw [← z]; exact o1))
  have wd1 : wl (pv s.1 f) ≠ wl f := fun e => (wl_eq e).elim (J.pne lf) (fun z => g0 (by rw [← z]; exact o2))
  have wd2 : wl (pv s.1 f) ≠ wl (nx s.1 f) := fun e => (wl_eq e).elim (fun z => J.npne lf z.symm) (fun z => g1 (by rw [← z]; exact o2))
  have lnN : ln (vsM (vsM (vsM s.1 f) (nx s.1 f)) (pv s.1 f)) = fu (fu (fu (ln s.1) (wl f) (-1)) (wl (nx s.1 f)) (-1)) (wl (pv s.1 f)) (-1) := by rw [z7, w7, v7]
  have lvN : lv (vsM (vsM (vsM s.1 f) (nx s.1 f)) (pv s.1 f)) = lv s.1 := z1.trans (w1.trans v1)
  have owN : ow (vsM (vsM (vsM s.1 f) (nx s.1 f)) (pv s.1 f)) = ow s.1 := z2.trans (w2.trans v2)
  have rxN : rx (vsM (vsM (vsM s.1 f) (nx s.1 f)) (pv s.1 f)) = rx s.1 := z5.trans (w5.trans v5)
  have ryN : ry (vsM (vsM (vsM s.1 f) (nx s.1 f)) (pv s.1 f)) = ry s.1 := z6.trans (w6.trans v6)
  generalize vsM (vsM (vsM s.1 f) (nx s.1 f)) (pv s.1 f) = N at *
  have key : MeR (vaC s.1 c) (upd (upd (μ3 (m + 1)) (1600 + H.val) (ar s.1 H + ar s.1 c)) (1648 + c.val) (nI 0)) ∧ vaH s.1 (vu s.1 c).1 (vu s.1 c).2.1 (vu s.1 c).2.2 = H := by
    have fin : ∀ u0 u1 u2, (vu s.1 c) = (u0, u1, u2) → vaH s.1 u0 u1 u2 = H → lv (vaM s.1 c u0 u1 u2) = fu (fu (fu (lv s.1) (wl f) false) (wl (nx s.1 f)) false) (wl (pv s.1 f)) false → ow (vaM s.1 c u0 u1 u2) = ow s.1 → nx (vaM s.1 c u0 u1 u2) = nx N → pv (vaM s.1 c u0 u1 u2) = pv N → sd (vaM s.1 c u0 u1 u2) = fu (sd N) c 0 → ln (vaM s.1 c u0 u1 u2) = ln s.1 → MeR (vaC s.1 c) (upd (upd (μ3 (m + 1)) (1600 + H.val) (ar s.1 H + ar s.1 c)) (1648 + c.val) (nI 0)) ∧ vaH s.1 (vu s.1 c).1 (vu s.1 c).2.1 (vu s.1 c).2.2 = H := by
      intro u0 u1 u2 ev eh f1 f2 f3 f4 f5 f6
      unfold vaC
      rw [ev]
      refine ⟨?_, eh⟩
      refine A6.to (fun h lh => ?_) (fun v => ?_) ?_ (fun d hd => ?_)
      · have lh : lv (vaM s.1 c u0 u1 u2) (wl h) = true := lh
        rw [f1] at lh
        have y2 : wl h ≠ wl (pv s.1 f) := fun e => by rw [e, fu_s] at lh; cases lh
        rw [fu_n _ _ y2] at lh
        have y1 : wl h ≠ wl (nx s.1 f) := fun e => by rw [e, fu_s] at lh; cases lh
        rw [fu_n _ _ y1] at lh
        have y0 : wl h ≠ wl f := fun e => by rw [e, fu_s] at lh; cases lh
        rw [fu_n _ _ y0] at lh
        refine ⟨?_, congrFun f3 h, congrFun f4 h, ?_, ?_, ?_⟩
        · show lv N (wl h) = true
          rw [lvN]; exact lh
        · show ow (vaM s.1 c u0 u1 u2) h = ow N h
          rw [f2, owN]
        · show rx (vaM s.1 c u0 u1 u2) h = rx N h
          unfold vaM
          simp only [g_rx_sAr, g_rx_sSd, shS_rx, rxN]
        · show ry (vaM s.1 c u0 u1 u2) h = ry N h
          unfold vaM
          simp only [g_ry_sAr, g_ry_sSd, shS_ry, ryN]
      · show (if lv (vaM s.1 c u0 u1 u2) v = true then ln (vaM s.1 c u0 u1 u2) v else -1) = if lv N v = true then ln N v else -1
        rw [f1, f6, lvN, lnN]
        by_cases y2 : v = wl (pv s.1 f)
        · rw [y2, fu_s, fu_s, if_neg (by decide), ite_self]
        rw [fu_n _ _ y2, fu_n _ _ y2]
        by_cases y1 : v = wl (nx s.1 f)
        · rw [y1, fu_s, fu_s, if_neg (by decide), ite_self]
        rw [fu_n _ _ y1, fu_n _ _ y1]
        by_cases y0 : v = wl f
        · rw [y0, fu_s, fu_s, if_neg (by decide), ite_self]
        rw [fu_n _ _ y0, fu_n _ _ y0]
      · exact f5
      · show ar (vaM s.1 c u0 u1 u2) d = fu (ar N) H (ar s.1 H + ar s.1 c) d
        rw [f5] at hd
        have dc : d ≠ c := fun e => by rw [e, fu_s] at hd; omega
        unfold vaM
        simp only [g_ar_sAr, g_ar_sSd, shS_ar, eh]
        rw [fu_n _ _ dc, arN]
    unfold vu at fin ⊢
    rw [fH_hI fh] at fin ⊢
    dsimp only at fin ⊢
    by_cases z : (wl (nx s.1 f)).val < (wl (pv s.1 f)).val
    · rw [if_pos z] at fin ⊢
      obtain ⟨f1, f2, f3, f4, f5, f6⟩ := J.va_f (c := c) t0 t1 t2 k1 (fun e => k3 e.symm) k2
      exact fin _ _ _ rfl eH.symm (by rw [f4, wl_tw, wl_tw, wl_tw]) f5 (f1.trans n3.symm) (f2.trans p3.symm) (by rw [f3, s3]) f6
    · rw [if_neg z] at fin ⊢
      obtain ⟨f1, f2, f3, f4, f5, f6⟩ := J.va_f (c := c) t0 t2 t1 (fun e => k3 e.symm) k1 (fun e => k2 e.symm)
      refine fin _ _ _ rfl ?_ ?_ f5 ?_ ?_ ?_ f6
      · unfold vaH
        rw [eH, rich_comm]
      · rw [f4, wl_tw, wl_tw, wl_tw, fu_comm _ _ _ wd2]
      · rw [f1, n3, fu_comm _ _ _ (fun e => k2 (by rw [← J.op t1, ← e, J.op t2]))]
      · rw [f2, p3, fu_comm _ _ _ (fun e => k2 (by rw [← J.on t1, ← e, J.on t2]))]
      · rw [f3, s3, fu_comm _ _ _ (fun e => k2 e.symm)]
  obtain ⟨A7, eV⟩ := key
  have R2 : RepM (vaC s.1 c, s.2.1, s.2.2.1, upd s.2.2.2 8 (s.2.2.2 8 + nI 1)) (mu (mu (mu μ3 (m + 1) (upd (μ3 (m + 1)) (1600 + H.val) (ar s.1 H + ar s.1 c))) (m + 1) (upd (upd (μ3 (m + 1)) (1600 + H.val) (ar s.1 H + ar s.1 c)) (1648 + c.val) (nI 0))) (m + 1) (upd (upd (upd (μ3 (m + 1)) (1600 + H.val) (ar s.1 H + ar s.1 c)) (1648 + c.val) (nI 0)) 5 (s.2.2.2 8 + nI 1))) m := by
    refine ⟨?_, ?_⟩
    · rw [mu_s]
      exact A7.cg (fun k k1 k2 => upd_n _ _ (by omega))
    · rw [mu_s, mu_n _ _ (by omega), mu_n _ _ (by omega), mu_n _ _ (by omega), hm]
      have q := (OtR_m T (vaC s.1 c)).cg (r' := upd (upd (μ3 (m + 1)) (1600 + H.val) (ar s.1 H + ar s.1 c)) (1648 + c.val) (nI 0)) (fun k hk => by rw [upd_n _ _ (by omega), upd_n _ _ (by omega)]; exact FF.2 k hk)
      exact q.fld 5 8 (by omega) (by omega) rfl (s.2.2.2 8 + nI 1)
  refine cl_mono (m_notes O R2 (nI 1) (nI c.val)) ?_
  rintro r μ4 ⟨rfl, R3, F5⟩
  simp (disch := first | omega | assumption) only [mm_rc_none, true_and, wp_il2 (y := zX6_vanishes) dX6_vanishes_127, wp_ireti (y := zX6_vanishes) rfl dX6_vanishes_128]
  rw [eV]
  exact ⟨rfl, R3, (FF.ro.trans (RO_mu (RO_mu (RO_mu (RO.refl _ _) _) _) _)).trans F5⟩
end MVB
