section MCW
variable {sh : mm_Sh} {m : Nat} {M : Ms} {μ : mm_U} {s : Fo} {Q : Option Value → mm_U → Prop} {a b : Hf} {c fr : Ce} {j1 j2 j3 : Wa} {n n1 n2 : Nat}
/-- the second half, last piece: who owns what, counts, areas -/
theorem ct_go3 (O : MoSh sh m) (J' : Inv (spM M a b c fr j1 j2 j3 n)) (Nx : nx (ct6 M a b (pv M (tw a)) j1 j2 j3 (nI ((n1 + 1) / 2)) (nI (n1 / 2)) (nI ((n2 + 1) / 2)) (nI (n2 / 2)) n) = nx (spM M a b c fr j1 j2 j3 n)) (la : LvH M a) (lb : LvH M b) (l : ∀ h, LvH M h → wl h ≠ j1 ∧ wl h ≠ j2 ∧ wl h ≠ j3) (cfr : c ≠ fr) (L0 : LvH (spM M a b c fr j1 j2 j3 n) (h0 j1)) (La : LvH (spM M a b c fr j1 j2 j3 n) a) (Sa : ow (spM M a b c fr j1 j2 j3 n) a = c) (S1 : ow (spM M a b c fr j1 j2 j3 n) (h0 j1) = fr) (S3 : ow (spM M a b c fr j1 j2 j3 n) (h0 j2) = fr ∧ LvH (spM M a b c fr j1 j2 j3 n) (h0 j2)) (S5 : ow (spM M a b c fr j1 j2 j3 n) (h0 j3) = c ∧ LvH (spM M a b c fr j1 j2 j3 n) (h0 j3)) (S6 : ow (spM M a b c fr j1 j2 j3 n) (h1 j3) = fr ∧ LvH (spM M a b c fr j1 j2 j3 n) (h1 j3)) (Sl : ∀ h, LvH (spM M a b c fr j1 j2 j3 n) h → LvH (ct6 M a b (pv M (tw a)) j1 j2 j3 (nI ((n1 + 1) / 2)) (nI (n1 / 2)) (nI ((n2 + 1) / 2)) (nI (n2 / 2)) n) h) (s5 : 0 < sd (ct5 M a b (pv M (tw a)) j1 j2 j3 (nI ((n1 + 1) / 2)) (nI (n1 / 2)) (nI ((n2 + 1) / 2)) (nI (n2 / 2))) c) (v8 v9 v10 : Value) (μ0 : mm_U)
    (A : MeX (ct6 M a b (pv M (tw a)) j1 j2 j3 (nI ((n1 + 1) / 2)) (nI (n1 / 2)) (nI ((n2 + 1) / 2)) (nI (n2 / 2)) n) (μ (m + 1)) (DX (fun _ => False) (fun _ => False) (fun k => X0 j1 j2 j3 k ∧ k ≠ h1 j1 ∧ k ≠ h1 j2) (X0 j1 j2 j3) (X0 j1 j2 j3) (fun _ => False))) (F : FrR μ0 μ m)
    (hQ : ∀ μ', MeR (ct8 M a b (pv M (tw a)) c fr j1 j2 j3 (nI ((n1 + 1) / 2)) (nI (n1 / 2)) (nI ((n2 + 1) / 2)) (nI (n2 / 2)) n (sd (spM M a b c fr j1 j2 j3 n) c) (sd (spM M a b c fr j1 j2 j3 n) fr)) (μ' (m + 1)) → FrR μ0 μ' m → Q none μ') : wp sh zX6_cutBy 148 [.ref m, .int (nI a.val), .int (nI b.val), .int (nI c.val), .int (nI fr.val), .int (nI (h0 j1).val), .int (nI (h0 j2).val), .int (nI (h0 j3).val), v8, v9, v10] [] μ Q := by
  obtain ⟨p1, p2, p3⟩ := J'.orb (h0 j1) L0
  obtain ⟨q1, q2, q3⟩ := J'.orb a La
  rw [S1] at p1 p2 p3
  rw [Sa] at q1 q2 q3
  have k1p := J'.pos La
  have k2p := J'.pos L0
  rw [Sa] at k1p
  rw [S1] at k2p
  have b1 := J'.sdb c
  have b2 := J'.sdb fr
  have lit := J'.1.lit
  obtain ⟨f1, f2, f3, f4, f5, f6, f7, f8, f9⟩ := ct7_f M a b (pv M (tw a)) c fr j1 j2 j3 (nI ((n1 + 1) / 2)) (nI (n1 / 2)) (nI ((n2 + 1) / 2)) (nI (n2 / 2)) n (sd (spM M a b c fr j1 j2 j3 n) c) (sd (spM M a b c fr j1 j2 j3 n) fr)
  obtain ⟨y1, y2, y5, y6, y7, y8, y9⟩ := ct6_f M a b (pv M (tw a)) j1 j2 j3 (nI ((n1 + 1) / 2)) (nI (n1 / 2)) (nI ((n2 + 1) / 2)) (nI (n2 / 2)) n
  generalize hk1 : sd (spM M a b c fr j1 j2 j3 n) c = k1 at *
  generalize hk2 : sd (spM M a b c fr j1 j2 j3 n) fr = k2 at *
  obtain ⟨u1, rfl⟩ : ∃ u, k1 = u + 1 := ⟨k1 - 1, by omega⟩
  obtain ⟨u2, rfl⟩ : ∃ u, k2 = u + 1 := ⟨k2 - 1, by omega⟩
  simp (disch := first | omega | assumption) only [mm_op_some, true_and, and_true, mm_rc_some, mm_rc_none, pk_mul, nI_add, mm_in_t, nI_clamp, ok0, ok1, ok2, ok3, ok4, n1_0, n0_0, nI_le_, nI_lt_, if_true, if_false, not_true, not_false_eq_true, ce_lt, ce_cl, hf_lt, hf_cl, wp_al0 (y := zX6_cutBy) dX6_cutBy_148, wp_getf (y := zX6_cutBy) kF6_9 dX6_cutBy_149, wp_sipush (y := zX6_cutBy) (nI 1648) ks_1648 dX6_cutBy_152, wp_il3 (y := zX6_cutBy) dX6_cutBy_155, wp_iadd (y := zX6_cutBy) dX6_cutBy_156, wp_al0 (y := zX6_cutBy) dX6_cutBy_157, wp_il1 (y := zX6_cutBy) dX6_cutBy_158, wp_il3 (y := zX6_cutBy) dX6_cutBy_159, wp_cv2 (y := zX6_cutBy) kM6_187 (by decide) dX6_cutBy_160, (show yo zX6_countRound = 6 from rfl), O.oc, O.g0, O.g1, O.g2, O.g3, O.g4, O.g5, O.g6, O.g7, O.g9, O.g10, O.g11, O.p0, O.p7, O.a1, O.a2, O.a3, O.a4, O.a5, O.a6, O.a7, O.a8, O.a9]
  refine cl_mono (mx_countRound O A c a u1 (by omega) (fun i => by rw [Nx]; exact Sl _ (lit i _ La).1) (fun i z => z) (by rw [Nx]; exact q1) (fun i i0 i1 e => by rw [Nx] at e; exact q2 0 i i0 (by omega) e.symm)) ?_
  rintro r μ1 ⟨rfl, A1, F1⟩
  obtain ⟨g1, g2, g3, g4, g5, g6, g7, g8⟩ := hoL_nx c (u1 + 1) (ct6 M a b (pv M (tw a)) j1 j2 j3 (nI ((n1 + 1) / 2)) (nI (n1 / 2)) (nI ((n2 + 1) / 2)) (nI (n2 / 2)) n) a
  have A2 := A1.wSd c (u1 + 1) (by rw [g4, y7]; exact s5)
  simp (disch := first | omega | assumption) only [mm_op_some, true_and, and_true, mm_rc_some, mm_rc_none, pk_mul, nI_add, mm_in_t, nI_clamp, ok0, ok1, ok2, ok3, ok4, n1_0, n0_0, nI_le_, nI_lt_, if_true, if_false, not_true, not_false_eq_true, ce_lt, ce_cl, hf_lt, hf_cl, wp_iast (y := zX6_cutBy) dX6_cutBy_163, wp_al0 (y := zX6_cutBy) dX6_cutBy_164, wp_getf (y := zX6_cutBy) kF6_9 dX6_cutBy_165, wp_sipush (y := zX6_cutBy) (nI 1648) ks_1648 dX6_cutBy_168, wp_il4 (y := zX6_cutBy) dX6_cutBy_171, wp_iadd (y := zX6_cutBy) dX6_cutBy_173, wp_al0 (y := zX6_cutBy) dX6_cutBy_174, wp_il5 (y := zX6_cutBy) dX6_cutBy_175, wp_il4 (y := zX6_cutBy) dX6_cutBy_177, wp_cv2 (y := zX6_cutBy) kM6_187 (by decide) dX6_cutBy_179, (show yo zX6_countRound = 6 from rfl), O.oc, O.g0, O.g1, O.g2, O.g3, O.g4, O.g5, O.g6, O.g7, O.g9, O.g10, O.g11, O.p0, O.p7, O.a1, O.a2, O.a3, O.a4, O.a5, O.a6, O.a7, O.a8, O.a9]
  have nx2 : nx (sSd (hoL c (u1 + 1) (ct6 M a b (pv M (tw a)) j1 j2 j3 (nI ((n1 + 1) / 2)) (nI (n1 / 2)) (nI ((n2 + 1) / 2)) (nI (n2 / 2)) n) a) c (u1 + 1)) = nx (spM M a b c fr j1 j2 j3 n) := g1.trans Nx
  refine cl_mono (mx_countRound (M := sSd (hoL c (u1 + 1) (ct6 M a b (pv M (tw a)) j1 j2 j3 (nI ((n1 + 1) / 2)) (nI (n1 / 2)) (nI ((n2 + 1) / 2)) (nI (n2 / 2)) n) a) c (u1 + 1)) (μ := mu μ1 (m + 1) (upd (μ1 (m + 1)) (1648 + c.val) (nI (u1 + 1)))) O (by rw [mu_s]; exact A2) fr (h0 j1) u2 (by omega) (fun i => by
    rw [nx2]
    have := Sl _ (lit i _ L0).1
    unfold LvH at this ⊢
    rw [g_lv_sSd, g3]
    exact this) (fun i z => z) (by rw [nx2]; exact p1) (fun i i0 i1 e => by rw [nx2] at e; exact p2 0 i i0 (by omega) e.symm)) ?_
  rw [nx2, Nx]
  rintro r μ2 ⟨rfl, A3, F3⟩
  have A4 := A3.wSdN fr (u2 + 1) (flo (ar M c))
  have A5 : MeX (ct7 M a b (pv M (tw a)) c fr j1 j2 j3 (nI ((n1 + 1) / 2)) (nI (n1 / 2)) (nI ((n2 + 1) / 2)) (nI (n2 / 2)) n (u1 + 1) (u2 + 1)) (upd (μ2 (m + 1)) (1648 + fr.val) (nI (u2 + 1))) (DX (fun _ => False) (fun _ => False) (fun _ => False) (X0 j1 j2 j3) (X0 j1 j2 j3) (fun k => k = fr)) := A4.mono (DX_mono (fun _ z => z) (fun _ z => z) (fun k z => by
    obtain ⟨⟨⟨w0, w1, w2⟩, w3⟩, w4⟩ := z
    rcases X0_six w0 with z | z | z | z | z | z
    · exact w4 0 (by omega) z.symm
    · exact w1 z
    · obtain ⟨i, hi, ei⟩ := p3 (h0 j2) S3.2 S3.1
      exact w4 i hi (ei.trans z.symm)
    · exact w2 z
    · obtain ⟨i, hi, ei⟩ := q3 (h0 j3) S5.2 S5.1
      exact w3 i hi (ei.trans z.symm)
    · obtain ⟨i, hi, ei⟩ := p3 (h1 j3) S6.2 S6.1
      exact w4 i hi (ei.trans z.symm)) (fun _ z => z) (fun _ z => z) (fun _ z => z.elim (fun z => z.elim) (fun z => z)))
  have nX : ∀ h, LvH M h → ¬ X0 j1 j2 j3 h := fun h lh z => z.elim (l h lh).1 (fun z => z.elim (l h lh).2.1 (l h lh).2.2)
  have lvO : ∀ h, LvH M h → LvH (ct7 M a b (pv M (tw a)) c fr j1 j2 j3 (nI ((n1 + 1) / 2)) (nI (n1 / 2)) (nI ((n2 + 1) / 2)) (nI (n2 / 2)) n (u1 + 1) (u2 + 1)) h := fun h lh => by unfold LvH; rw [f1, fu_n _ _ (l h lh).2.2, fu_n _ _ (l h lh).2.1, fu_n _ _ (l h lh).1]; exact lh
  have rxa := A5.rx_ (lvO a la) (nX a la)
  have rya := A5.ry_ (lvO a la) (nX a la)
  rw [f5] at rxa
  rw [f6] at rya
  simp (disch := first | omega | assumption) only [mm_op_some, true_and, and_true, mm_rc_some, mm_rc_none, pk_mul, nI_add, mm_in_t, nI_clamp, ok0, ok1, ok2, ok3, ok4, n1_0, n0_0, nI_le_, nI_lt_, if_true, if_false, not_true, not_false_eq_true, ce_lt, ce_cl, hf_lt, hf_cl, mu_s, wp_iast (y := zX6_cutBy) dX6_cutBy_182, wp_al0 (y := zX6_cutBy) dX6_cutBy_183, wp_il5 (y := zX6_cutBy) dX6_cutBy_184, wp_al0 (y := zX6_cutBy) dX6_cutBy_186, wp_getf (y := zX6_cutBy) kF6_9 dX6_cutBy_187, wp_sipush (y := zX6_cutBy) (nI 880) ks_880 dX6_cutBy_190, wp_il1 (y := zX6_cutBy) dX6_cutBy_193, wp_iadd (y := zX6_cutBy) dX6_cutBy_194, wp_iald (y := zX6_cutBy) dX6_cutBy_195, wp_al0 (y := zX6_cutBy) dX6_cutBy_196, wp_getf (y := zX6_cutBy) kF6_9 dX6_cutBy_197, wp_sipush (y := zX6_cutBy) (nI 1168) ks_1168 dX6_cutBy_200, wp_il1 (y := zX6_cutBy) dX6_cutBy_203, wp_iadd (y := zX6_cutBy) dX6_cutBy_204, wp_iald (y := zX6_cutBy) dX6_cutBy_205, wp_cv3 (y := zX6_cutBy) kM6_131 (by decide) dX6_cutBy_206, (show yo zX6_counts = 6 from rfl), O.oc, O.g0, O.g1, O.g2, O.g3, O.g4, O.g5, O.g6, O.g7, O.g9, O.g10, O.g11, O.p0, O.p7, O.a1, O.a2, O.a3, O.a4, O.a5, O.a6, O.a7, O.a8, O.a9, rxa, rya]
  refine cl_mono (mx_counts (M := ct7 M a b (pv M (tw a)) c fr j1 j2 j3 (nI ((n1 + 1) / 2)) (nI (n1 / 2)) (nI ((n2 + 1) / 2)) (nI (n2 / 2)) n (u1 + 1) (u2 + 1)) (μ := mu μ2 (m + 1) (upd (μ2 (m + 1)) (1648 + fr.val) (nI (u2 + 1)))) O (by rw [mu_s]; exact A5) (h0 j1) (rx M a) (ry M a)) ?_
  rintro r μ3 ⟨rfl, A6, F6⟩
  have nb0 : b ≠ h0 j1 := fun e => (l b lb).1 (by rw [e, wl_h0])
  have nb1 : b ≠ tw (h0 j1) := fun e => (l b lb).1 (by rw [e, wl_tw, wl_h0])
  have rxb := A6.rx_ (lvO b lb) (fun z => nX b lb z.1.1)
  have ryb := A6.ry_ (lvO b lb) (fun z => nX b lb z.1.1)
  rw [show rx (rdM (ct7 M a b (pv M (tw a)) c fr j1 j2 j3 (nI ((n1 + 1) / 2)) (nI (n1 / 2)) (nI ((n2 + 1) / 2)) (nI (n2 / 2)) n (u1 + 1) (u2 + 1)) (h0 j1) (rx M a) (ry M a)) b = rx M b by
    unfold rdM
    simp only [g_rx_sLv, g_rx_sOw, g_rx_sNx, g_rx_sPv, g_rx_sRx, g_rx_sRy, g_rx_sLn, g_rx_sSd, g_rx_sAr]
    rw [fu_n _ _ nb1, fu_n _ _ nb0, f5]] at rxb
  rw [show ry (rdM (ct7 M a b (pv M (tw a)) c fr j1 j2 j3 (nI ((n1 + 1) / 2)) (nI (n1 / 2)) (nI ((n2 + 1) / 2)) (nI (n2 / 2)) n (u1 + 1) (u2 + 1)) (h0 j1) (rx M a) (ry M a)) b = ry M b by
    unfold rdM
    simp only [g_ry_sLv, g_ry_sOw, g_ry_sNx, g_ry_sPv, g_ry_sRx, g_ry_sRy, g_ry_sLn, g_ry_sSd, g_ry_sAr]
    rw [fu_n _ _ nb1, fu_n _ _ nb0, f6]] at ryb
  simp (disch := first | omega | assumption) only [mm_op_some, true_and, and_true, mm_rc_some, mm_rc_none, pk_mul, nI_add, mm_in_t, nI_clamp, ok0, ok1, ok2, ok3, ok4, n1_0, n0_0, nI_le_, nI_lt_, if_true, if_false, not_true, not_false_eq_true, ce_lt, ce_cl, hf_lt, hf_cl, mu_s, wp_al0 (y := zX6_cutBy) dX6_cutBy_209, wp_il6 (y := zX6_cutBy) dX6_cutBy_210, wp_al0 (y := zX6_cutBy) dX6_cutBy_212, wp_getf (y := zX6_cutBy) kF6_9 dX6_cutBy_213, wp_sipush (y := zX6_cutBy) (nI 880) ks_880 dX6_cutBy_216, wp_il2 (y := zX6_cutBy) dX6_cutBy_219, wp_iadd (y := zX6_cutBy) dX6_cutBy_220, wp_iald (y := zX6_cutBy) dX6_cutBy_221, wp_al0 (y := zX6_cutBy) dX6_cutBy_222, wp_getf (y := zX6_cutBy) kF6_9 dX6_cutBy_223, wp_sipush (y := zX6_cutBy) (nI 1168) ks_1168 dX6_cutBy_226, wp_il2 (y := zX6_cutBy) dX6_cutBy_229, wp_iadd (y := zX6_cutBy) dX6_cutBy_230, wp_iald (y := zX6_cutBy) dX6_cutBy_231, wp_cv3 (y := zX6_cutBy) kM6_131 (by decide) dX6_cutBy_232, (show yo zX6_counts = 6 from rfl), O.oc, O.g0, O.g1, O.g2, O.g3, O.g4, O.g5, O.g6, O.g7, O.g9, O.g10, O.g11, O.p0, O.p7, O.a1, O.a2, O.a3, O.a4, O.a5, O.a6, O.a7, O.a8, O.a9, rxb, ryb]
  refine cl_mono (mx_counts O A6 (h0 j2) (rx M b) (ry M b)) ?_
  rintro r μ4 ⟨rfl, A7, F7⟩
  simp (disch := first | omega | assumption) only [mm_op_some, true_and, and_true, mm_rc_some, mm_rc_none, pk_mul, nI_add, mm_in_t, nI_clamp, ok0, ok1, ok2, ok3, ok4, n1_0, n0_0, nI_le_, nI_lt_, if_true, if_false, not_true, not_false_eq_true, ce_lt, ce_cl, hf_lt, hf_cl, mu_s, wp_al0 (y := zX6_cutBy) dX6_cutBy_235, wp_il7 (y := zX6_cutBy) dX6_cutBy_236, wp_iconst (y := zX6_cutBy) (nI 0) ki_0 dX6_cutBy_238, wp_iconst (y := zX6_cutBy) (nI 0) ki_0 dX6_cutBy_239, wp_cv3 (y := zX6_cutBy) kM6_131 (by decide) dX6_cutBy_240, (show yo zX6_counts = 6 from rfl), O.oc, O.g0, O.g1, O.g2, O.g3, O.g4, O.g5, O.g6, O.g7, O.g9, O.g10, O.g11, O.p0, O.p7, O.a1, O.a2, O.a3, O.a4, O.a5, O.a6, O.a7, O.a8, O.a9]
  refine cl_mono (mx_counts O A7 (h0 j3) (nI 0) (nI 0)) ?_
  rintro r μ5 ⟨rfl, A8, F8⟩
  have A9 : MeX (rdM (rdM (rdM (ct7 M a b (pv M (tw a)) c fr j1 j2 j3 (nI ((n1 + 1) / 2)) (nI (n1 / 2)) (nI ((n2 + 1) / 2)) (nI (n2 / 2)) n (u1 + 1) (u2 + 1)) (h0 j1) (rx M a) (ry M a)) (h0 j2) (rx M b) (ry M b)) (h0 j3) (nI 0) (nI 0)) (μ5 (m + 1)) (DX (fun _ => False) (fun _ => False) (fun _ => False) (fun _ => False) (fun _ => False) (fun k => k = fr)) := by
    have cl6 : ∀ k, (((((X0 j1 j2 j3 k ∧ k ≠ h0 j1) ∧ k ≠ tw (h0 j1)) ∧ k ≠ h0 j2) ∧ k ≠ tw (h0 j2)) ∧ k ≠ h0 j3) ∧ k ≠ tw (h0 j3) → False := fun k z => by
      obtain ⟨⟨⟨⟨⟨⟨w0, w1⟩, w2⟩, w3⟩, w4⟩, w5⟩, w6⟩ := z
      rw [tw_h0] at w2 w4 w6
      rcases X0_six w0 with z | z | z | z | z | z
      · exact w1 z
      · exact w2 z
      · exact w3 z
      · exact w4 z
      · exact w5 z
      · exact w6 z
    exact A8.mono (DX_mono (fun _ z => z) (fun _ z => z) (fun _ z => z) cl6 cl6 (fun _ z => z))
  have sdc : 0 < sd (rdM (rdM (rdM (ct7 M a b (pv M (tw a)) c fr j1 j2 j3 (nI ((n1 + 1) / 2)) (nI (n1 / 2)) (nI ((n2 + 1) / 2)) (nI (n2 / 2)) n (u1 + 1) (u2 + 1)) (h0 j1) (rx M a) (ry M a)) (h0 j2) (rx M b) (ry M b)) (h0 j3) (nI 0) (nI 0)) c := by
    unfold rdM
    simp only [g_sd_sLv, g_sd_sOw, g_sd_sNx, g_sd_sPv, g_sd_sRx, g_sd_sRy, g_sd_sLn, g_sd_sSd, g_sd_sAr, f7]
    rw [fu_n _ _ cfr, fu_s]
    omega
  have rc := A9.ar_ sdc cfr
  rw [show ar (rdM (rdM (rdM (ct7 M a b (pv M (tw a)) c fr j1 j2 j3 (nI ((n1 + 1) / 2)) (nI (n1 / 2)) (nI ((n2 + 1) / 2)) (nI (n2 / 2)) n (u1 + 1) (u2 + 1)) (h0 j1) (rx M a) (ry M a)) (h0 j2) (rx M b) (ry M b)) (h0 j3) (nI 0) (nI 0)) c = ar M c by
    unfold rdM
    simp only [g_ar_sLv, g_ar_sOw, g_ar_sNx, g_ar_sPv, g_ar_sRx, g_ar_sRy, g_ar_sLn, g_ar_sSd, g_ar_sAr, f8]
    rw [fu_n _ _ cfr]] at rc
  have cv : c.val ≠ fr.val := fun e => cfr (Fin.ext e)
  have x1 : upd (μ5 (m + 1)) (1600 + fr.val) (flo (ar M c)) (1600 + c.val) = ar M c := by rw [upd_n _ _ (by omega)]; exact rc
  have x2 : upd (μ5 (m + 1)) (1600 + fr.val) (flo (ar M c)) (1600 + fr.val) = flo (ar M c) := upd_s _ _ _
  have A10 := (A9.wAr fr (flo (ar M c))).wAr c (ar M c - flo (ar M c))
  simp (disch := first | omega | assumption) only [mm_op_some, true_and, and_true, mm_rc_some, mm_rc_none, pk_mul, nI_add, mm_in_t, nI_clamp, ok0, ok1, ok2, ok3, ok4, n1_0, n0_0, nI_le_, nI_lt_, if_true, if_false, not_true, not_false_eq_true, ce_lt, ce_cl, hf_lt, hf_cl, mu_s, wp_al0 (y := zX6_cutBy) dX6_cutBy_243, wp_getf (y := zX6_cutBy) kF6_9 dX6_cutBy_244, wp_sipush (y := zX6_cutBy) (nI 1600) ks_1600 dX6_cutBy_247, wp_il4 (y := zX6_cutBy) dX6_cutBy_250, wp_iadd (y := zX6_cutBy) dX6_cutBy_252, wp_al0 (y := zX6_cutBy) dX6_cutBy_253, wp_getf (y := zX6_cutBy) kF6_9 dX6_cutBy_254, wp_sipush (y := zX6_cutBy) (nI 1600) ks_1600 dX6_cutBy_257, wp_il3 (y := zX6_cutBy) dX6_cutBy_260, wp_iadd (y := zX6_cutBy) dX6_cutBy_261, wp_iald (y := zX6_cutBy) dX6_cutBy_262, wp_iconst (y := zX6_cutBy) (nI 1) ki_1 dX6_cutBy_263, wp_ishr (y := zX6_cutBy) dX6_cutBy_264, wp_iast (y := zX6_cutBy) dX6_cutBy_265, wp_al0 (y := zX6_cutBy) dX6_cutBy_266, wp_getf (y := zX6_cutBy) kF6_9 dX6_cutBy_267, wp_sipush (y := zX6_cutBy) (nI 1600) ks_1600 dX6_cutBy_270, wp_il3 (y := zX6_cutBy) dX6_cutBy_273, wp_iadd (y := zX6_cutBy) dX6_cutBy_274, wp_dup2 (y := zX6_cutBy) dX6_cutBy_275, wp_iald (y := zX6_cutBy) dX6_cutBy_276, wp_al0 (y := zX6_cutBy) dX6_cutBy_277, wp_getf (y := zX6_cutBy) kF6_9 dX6_cutBy_278, wp_sipush (y := zX6_cutBy) (nI 1600) ks_1600 dX6_cutBy_281, wp_il4 (y := zX6_cutBy) dX6_cutBy_284, wp_iadd (y := zX6_cutBy) dX6_cutBy_286, wp_iald (y := zX6_cutBy) dX6_cutBy_287, wp_isub (y := zX6_cutBy) dX6_cutBy_288, wp_iast (y := zX6_cutBy) dX6_cutBy_289, wp_vret (y := zX6_cutBy) rfl dX6_cutBy_290, O.oc, O.g0, O.g1, O.g2, O.g3, O.g4, O.g5, O.g6, O.g7, O.g9, O.g10, O.g11, O.p0, O.p7, O.a1, O.a2, O.a3, O.a4, O.a5, O.a6, O.a7, O.a8, O.a9, rc, shr_flo, x1, x2]
  refine hQ _ ?_ ?_
  · rw [mu_s]
    refine A10.fin (fun x z => ?_)
    rcases z with ⟨k, z, e⟩ | ⟨k, z, e⟩ | ⟨k, z, e⟩ | ⟨k, z, e⟩ | ⟨k, z, e⟩ | ⟨k, z, e⟩
    · exact z
    · exact z
    · exact z
    · exact z
    · exact z
    · exact z.1.2 z.1.1
  · have w1 := FrR_mu (FrR.refl μ1 m) (1648 + c.val) (nI (u1 + 1)) (by omega) (by omega)
    have w2 := FrR_mu (FrR.refl μ2 m) (1648 + fr.val) (nI (u2 + 1)) (by omega) (by omega)
    have w3 := FrR_mu (FrR_mu (FrR.refl μ5 m) (1600 + fr.val) (flo (ar M c)) (by omega) (by omega)) (1600 + c.val) (ar M c - flo (ar M c)) (by omega) (by omega)
    rw [mu_s] at w3
    exact ((((((((F.trans F1).trans w1).trans F3).trans w2).trans F6).trans F7).trans F8).trans w3)
end MCW
