section MBX
variable {sh : mm_Sh} {m : Nat} {M : Ms} {μ : mm_U} {s : Fo} {c : Ce} {Q : Option Value → mm_U → Prop}
theorem bu_go (O : MoSh sh m) (R : RepM s μ m) (J : Inv s.1) (a : Hf) (la : LvH s.1 a) (lt : (ow s.1 a).val < (ow s.1 (tw a)).val) (d4 : ow s.1 a ≠ en s.1 a) (d5 : ow s.1 a ≠ en s.1 (tw a)) (d6 : ow s.1 (tw a) ≠ en s.1 a) (d7 : ow s.1 (tw a) ≠ en s.1 (tw a)) (d8 : en s.1 a ≠ en s.1 (tw a)) (w1 : wB s.1 (ow s.1 a) (ow s.1 (tw a)) = nI 1) (s1 : 3 < sd s.1 (en s.1 a)) (s2 : 3 < sd s.1 (en s.1 (tw a))) (s3 : 6 < sd s.1 (ow s.1 a) + sd s.1 (ow s.1 (tw a)))
    (hQ : ∀ μ', RepM (fEv s (joM s.1 (wl a) a) 3 10 (nI (wl a).val)) μ' m → RO μ μ' m → Q (some (.int (nI (ow s.1 a).val))) μ') : wp sh zX6_burst 63 [.ref m, .int (nI (wl a).val), .null, .null, .null, .null, .null, .null, .null, .null] [.int (nI a.val)] μ Q := by
  obtain ⟨A, T⟩ := R
  have d3 : ow s.1 a ≠ ow s.1 (tw a) := fun e => by rw [e] at lt; omega
  have lo : LvH s.1 (tw a) := LvH_tw.mpr la
  have lN := J.nl la
  have lP := J.pl la
  have lN2 := J.nl lo
  have lP2 := J.pl lo
  have oN := J.on la
  have pA := J.pos la
  have pB := J.pos lo
  have no : nx s.1 a ≠ tw a := fun e => d3 (by rw [← oN, e])
  obtain ⟨⟨jk1, jk2, jk3, jk4, jk5, jk6, jk7, jk8⟩, JI⟩ := J.jo la lt d4 d5 d6 d7 d8 w1 s1 s2 s3
  obtain ⟨K1, Ow, L, K2, ⟨p1, p2⟩, p3, p4⟩ := J.jo1 la lt d4 d5 d6 d7 d8 w1 s1 s2 s3
  obtain ⟨F1, F2, F3, F4, F5, F6⟩ := joM1_f s.1 (wl a) a
  have LN : LvH (joM1 s.1 (wl a) a) (nx s.1 a) := (L _).mpr ⟨⟨lN, J.nne la⟩, no⟩
  have sA : sd (joM1 s.1 (wl a) a) (ow s.1 a) = sd s.1 (ow s.1 a) + sd s.1 (ow s.1 (tw a)) - 2 := by rw [F5, fu_n _ _ d3, fu_s]
  have oNj : ow (joM1 s.1 (wl a) a) (nx s.1 a) = ow s.1 a := by rw [Ow _ lN no, oN, if_neg d3]
  obtain ⟨o1, o2, o3, o4⟩ := K1.1.orb (nx s.1 a) LN (fib (joM1 s.1 (wl a) a) (ow s.1 a)) (fun g => by rw [fib_iff, oNj])
  rw [← K1.2.1, sA] at o2 o3 o4
  obtain ⟨b1, b2, b3, b4, b5, b6, b7, b8, b9⟩ := bu2_f s.1 a
  have E1 : ∀ Q', cl sh zX6_cellOf [.ref m, .int (nI a.val)] μ Q' = Q' (some (.int (nI (ow s.1 a).val))) μ := fun Q' => m_cellOf O A a la
  have E2 : ∀ Q', cl sh zX6_cellOf [.ref m, .int (nI (tw a).val)] μ Q' = Q' (some (.int (nI (ow s.1 (tw a)).val))) μ := fun Q' => m_cellOf O A (tw a) lo
  have E3 : ∀ Q', cl sh zX6_next [.ref m, .int (nI (tw a).val)] μ Q' = Q' (some (.int (nI (nx s.1 (tw a)).val))) μ := fun Q' => m_next O A (tw a) lo
  simp (disch := first | omega | assumption) only [mm_op_some, true_and, and_true, mm_rc_some, mm_rc_none, pk_mul, nI_add, mm_in_t, nI_clamp, ok0, ok1, ok2, ok3, ok4, n1_0, n0_0, nI_le_, nI_lt_, if_true, if_false, not_true, not_false_eq_true, ce_lt, ce_cl, hf_lt, hf_cl, nI_xor, tw_xor, wp_is2 (y := zX6_burst) dX6_burst_63, wp_il2 (y := zX6_burst) dX6_burst_64, wp_iconst (y := zX6_burst) (nI 1) ki_1 dX6_burst_65, wp_ixor (y := zX6_burst) dX6_burst_66, wp_is3 (y := zX6_burst) dX6_burst_67, wp_al0 (y := zX6_burst) dX6_burst_68, wp_il2 (y := zX6_burst) dX6_burst_69, wp_cv1 (y := zX6_burst) kM6_84 (by decide) dX6_burst_70, (show yo zX6_cellOf = 6 from rfl), wp_is4 (y := zX6_burst) dX6_burst_73, wp_al0 (y := zX6_burst) dX6_burst_75, wp_il3 (y := zX6_burst) dX6_burst_76, wp_cv1 (y := zX6_burst) kM6_84 (by decide) dX6_burst_77, (show yo zX6_cellOf = 6 from rfl), wp_is5 (y := zX6_burst) dX6_burst_80, wp_al0 (y := zX6_burst) dX6_burst_82, wp_il3 (y := zX6_burst) dX6_burst_83, wp_cv1 (y := zX6_burst) kM6_90 (by decide) dX6_burst_84, (show yo zX6_next = 6 from rfl), wp_is6 (y := zX6_burst) dX6_burst_87, O.oc, O.g0, O.g1, O.g2, O.g3, O.g4, O.g5, O.g6, O.g7, O.g9, O.g10, O.g11, O.p0, O.p7, O.a1, O.a2, O.a3, O.a4, O.a5, O.a6, O.a7, O.a8, O.a9, E1, E2, E3]
  obtain ⟨ob1, ob2, ob3⟩ := J.orb (tw a) lo
  refine bu_loop O (wl a) a (rx s.1 a) (ry s.1 a) (ow s.1 a) (ow s.1 (tw a)) .null .null .null μ (sd s.1 (ow s.1 (tw a)) - 1) s.1 μ (nx s.1 (tw a)) (fun i => (J.1.lit i _ lN2).1) la rfl rfl ?_ (fun i hi => ⟨?_, ?_⟩) A (FrR.refl _ _) ?_
  · have e : sd s.1 (ow s.1 (tw a)) = sd s.1 (ow s.1 (tw a)) - 1 + 1 := by omega
    rw [e] at ob1
    exact ob1
  · exact fun e => ob2 0 (i + 1) (by omega) (by omega) e.symm
  · exact fun e => d3 ((congrArg (ow s.1) e).symm.trans ((J.1.lit i _ lN2).2.trans (J.on lo)))
  intro μ1 A1 FF1
  obtain ⟨c1, c2, c3, c4, c5, c6, c7⟩ := crL_f (rx s.1 a) (ry s.1 a) (sd s.1 (ow s.1 (tw a)) - 1) s.1 (nx s.1 (tw a))
  have Lc : ∀ h, LvH s.1 h → LvH (crL (rx s.1 a) (ry s.1 a) (sd s.1 (ow s.1 (tw a)) - 1) s.1 (nx s.1 (tw a))) h := fun h hh => by unfold LvH; rw [c3]; exact hh
  have G1 : ∀ Q', cl sh zX6_before [.ref m, .int (nI a.val)] μ1 Q' = Q' (some (.int (nI (pv s.1 a).val))) μ1 := fun Q' => by rw [m_before O A1 a (Lc _ la), c2]
  have G2 : ∀ Q', cl sh zX6_next [.ref m, .int (nI a.val)] μ1 Q' = Q' (some (.int (nI (nx s.1 a).val))) μ1 := fun Q' => by rw [m_next O A1 a (Lc _ la), c1]
  have G3 : ∀ Q', cl sh zX6_before [.ref m, .int (nI (tw a).val)] μ1 Q' = Q' (some (.int (nI (pv s.1 (tw a)).val))) μ1 := fun Q' => by rw [m_before O A1 (tw a) (Lc _ lo), c2]
  have G4 : ∀ Q', cl sh zX6_next [.ref m, .int (nI (tw a).val)] μ1 Q' = Q' (some (.int (nI (nx s.1 (tw a)).val))) μ1 := fun Q' => by rw [m_next O A1 (tw a) (Lc _ lo), c1]
  simp (disch := first | omega | assumption) only [mm_op_some, true_and, and_true, mm_rc_some, mm_rc_none, pk_mul, nI_add, mm_in_t, nI_clamp, ok0, ok1, ok2, ok3, ok4, n1_0, n0_0, nI_le_, nI_lt_, if_true, if_false, not_true, not_false_eq_true, ce_lt, ce_cl, hf_lt, hf_cl, wp_al0 (y := zX6_burst) dX6_burst_156, wp_il2 (y := zX6_burst) dX6_burst_157, wp_cv1 (y := zX6_burst) kM6_96 (by decide) dX6_burst_158, (show yo zX6_before = 6 from rfl), wp_is6 (y := zX6_burst) dX6_burst_161, wp_al0 (y := zX6_burst) dX6_burst_163, wp_il2 (y := zX6_burst) dX6_burst_164, wp_cv1 (y := zX6_burst) kM6_90 (by decide) dX6_burst_165, (show yo zX6_next = 6 from rfl), wp_is7 (y := zX6_burst) dX6_burst_168, wp_al0 (y := zX6_burst) dX6_burst_170, wp_il3 (y := zX6_burst) dX6_burst_171, wp_cv1 (y := zX6_burst) kM6_96 (by decide) dX6_burst_172, (show yo zX6_before = 6 from rfl), wp_is8 (y := zX6_burst) dX6_burst_175, wp_al0 (y := zX6_burst) dX6_burst_177, wp_il3 (y := zX6_burst) dX6_burst_178, wp_cv1 (y := zX6_burst) kM6_90 (by decide) dX6_burst_179, (show yo zX6_next = 6 from rfl), wp_is9 (y := zX6_burst) dX6_burst_182, wp_al0 (y := zX6_burst) dX6_burst_184, wp_il6 (y := zX6_burst) dX6_burst_185, wp_il9 (y := zX6_burst) dX6_burst_187, wp_cv2 (y := zX6_burst) kM6_99 (by decide) dX6_burst_189, (show yo zX6_join = 6 from rfl), O.oc, O.g0, O.g1, O.g2, O.g3, O.g4, O.g5, O.g6, O.g7, O.g9, O.g10, O.g11, O.p0, O.p7, O.a1, O.a2, O.a3, O.a4, O.a5, O.a6, O.a7, O.a8, O.a9, G1, G2, G3, G4]
  refine cl_mono (m_join O A1 (pv s.1 a) (nx s.1 (tw a))) ?_
  rintro r μ2 ⟨rfl, A2, FF2⟩
  simp (disch := first | omega | assumption) only [mm_op_some, true_and, and_true, mm_rc_some, mm_rc_none, pk_mul, nI_add, mm_in_t, nI_clamp, ok0, ok1, ok2, ok3, ok4, n1_0, n0_0, nI_le_, nI_lt_, if_true, if_false, not_true, not_false_eq_true, ce_lt, ce_cl, hf_lt, hf_cl, wp_al0 (y := zX6_burst) dX6_burst_192, wp_il8 (y := zX6_burst) dX6_burst_193, wp_il7 (y := zX6_burst) dX6_burst_195, wp_cv2 (y := zX6_burst) kM6_99 (by decide) dX6_burst_197, (show yo zX6_join = 6 from rfl), O.oc, O.g0, O.g1, O.g2, O.g3, O.g4, O.g5, O.g6, O.g7, O.g9, O.g10, O.g11, O.p0, O.p7, O.a1, O.a2, O.a3, O.a4, O.a5, O.a6, O.a7, O.a8, O.a9]
  refine cl_mono (m_join O A2 (pv s.1 (tw a)) (nx s.1 a)) ?_
  rintro r μ3 ⟨rfl, A3, FF3⟩
  have rg : μ3 (m + 1) (1600 + (ow s.1 (tw a)).val) = ar s.1 (ow s.1 (tw a)) := by
    have q := A3.2.2.2 (ow s.1 (tw a))
    unfold lkM at q
    simp only [g_sd_sLv, g_ar_sLv, g_sd_sOw, g_ar_sOw, g_sd_sNx, g_ar_sNx, g_sd_sPv, g_ar_sPv, g_sd_sRx, g_ar_sRx, g_sd_sRy, g_ar_sRy, g_sd_sLn, g_ar_sLn, g_sd_sSd, g_ar_sSd, g_sd_sAr, g_ar_sAr, c4, c5] at q
    exact q (by omega)
  have A4 : MeR (bu2 s.1 a) (upd (μ3 (m + 1)) (1648 + (ow s.1 (tw a)).val) (nI 0)) := A3.wSd (ow s.1 (tw a)) 0 (fun h => absurd h (Nat.lt_irrefl _))
  have bA := J.sdb (ow s.1 a)
  have bB := J.sdb (ow s.1 (tw a))
  simp (disch := first | omega | assumption) only [mm_op_some, true_and, and_true, mm_rc_some, mm_rc_none, pk_mul, nI_add, mm_in_t, nI_clamp, ok0, ok1, ok2, ok3, ok4, n1_0, n0_0, nI_le_, nI_lt_, if_true, if_false, not_true, not_false_eq_true, ce_lt, ce_cl, hf_lt, hf_cl, mu_s, wp_al0 (y := zX6_burst) dX6_burst_200, wp_getf (y := zX6_burst) kF6_9 dX6_burst_201, wp_sipush (y := zX6_burst) (nI 1648) ks_1648 dX6_burst_204, wp_il5 (y := zX6_burst) dX6_burst_207, wp_iadd (y := zX6_burst) dX6_burst_209, wp_iconst (y := zX6_burst) (nI 0) ki_0 dX6_burst_210, wp_iast (y := zX6_burst) dX6_burst_211, wp_al0 (y := zX6_burst) dX6_burst_212, wp_getf (y := zX6_burst) kF6_9 dX6_burst_213, wp_sipush (y := zX6_burst) (nI 1648) ks_1648 dX6_burst_216, wp_il4 (y := zX6_burst) dX6_burst_219, wp_iadd (y := zX6_burst) dX6_burst_221, wp_al0 (y := zX6_burst) dX6_burst_222, wp_il7 (y := zX6_burst) dX6_burst_223, wp_il4 (y := zX6_burst) dX6_burst_225, wp_cv2 (y := zX6_burst) kM6_187 (by decide) dX6_burst_227, (show yo zX6_countRound = 6 from rfl), O.oc, O.g0, O.g1, O.g2, O.g3, O.g4, O.g5, O.g6, O.g7, O.g9, O.g10, O.g11, O.p0, O.p7, O.a1, O.a2, O.a3, O.a4, O.a5, O.a6, O.a7, O.a8, O.a9]
  have nn : sd s.1 (ow s.1 a) + sd s.1 (ow s.1 (tw a)) - 2 = (sd s.1 (ow s.1 a) + sd s.1 (ow s.1 (tw a)) - 3) + 1 := by omega
  refine cl_mono (m_countRound (M := bu2 s.1 a) (μ := mu μ3 (m + 1) (upd (μ3 (m + 1)) (1648 + (ow s.1 (tw a)).val) (nI 0))) O (by rw [mu_s]; exact A4) (ow s.1 a) (nx s.1 a) (sd s.1 (ow s.1 a) + sd s.1 (ow s.1 (tw a)) - 3) (by omega) (fun i => ?_) (by rw [b3, ← nn]; exact o2) (fun i i0 i1 e => ?_)) ?_
  · unfold LvH
    rw [b3, b1]
    exact ((L _).mp (K1.1.lit i _ LN).1).1.1
  · rw [b3] at e
    exact o3 0 i i0 (by omega) e.symm
  rw [← nn]
  rintro r μ4 ⟨rfl, A5, FF5, G5⟩
  obtain ⟨q1, q2, q3, q4, q5, q6, q7, q8⟩ := hoL_nx (ow s.1 a) (sd s.1 (ow s.1 a) + sd s.1 (ow s.1 (tw a)) - 2) (bu2 s.1 a) (nx s.1 a)
  have rg4 : μ4 (m + 1) (1600 + (ow s.1 (tw a)).val) = ar s.1 (ow s.1 (tw a)) := by rw [G5 _ (by omega), mu_s, upd_n _ _ (by omega)]; exact rg
  have ra4 : μ4 (m + 1) (1600 + (ow s.1 a).val) = ar s.1 (ow s.1 a) := by
    have q := A5.2.2.2 (ow s.1 a)
    rw [q4, q5, b7, b8, fu_n _ _ d3] at q
    exact q (by omega)
  have A6 := A5.wSd (ow s.1 a) (sd s.1 (ow s.1 a) + sd s.1 (ow s.1 (tw a)) - 2) (fun _ => by rw [q5, b8]; exact ra4)
  have A7 := A6.wAr (ow s.1 a) (ar s.1 (ow s.1 a) + ar s.1 (ow s.1 (tw a)))
  have A8 := A7.wOff (wl a)
  have u1 : upd (μ4 (m + 1)) (1648 + (ow s.1 a).val) (nI (sd s.1 (ow s.1 a) + sd s.1 (ow s.1 (tw a)) - 2)) (1600 + (ow s.1 a).val) = ar s.1 (ow s.1 a) := by rw [upd_n _ _ (by omega)]; exact ra4
  have u2 : upd (μ4 (m + 1)) (1648 + (ow s.1 a).val) (nI (sd s.1 (ow s.1 a) + sd s.1 (ow s.1 (tw a)) - 2)) (1600 + (ow s.1 (tw a)).val) = ar s.1 (ow s.1 (tw a)) := by rw [upd_n _ _ (by omega)]; exact rg4
  have A9 : MeR (joM1 s.1 (wl a) a) (upd (upd (upd (μ4 (m + 1)) (1648 + (ow s.1 a).val) (nI (sd s.1 (ow s.1 a) + sd s.1 (ow s.1 (tw a)) - 2))) (1600 + (ow s.1 a).val) (ar s.1 (ow s.1 a) + ar s.1 (ow s.1 (tw a)))) (1456 + (wl a).val) (-1)) := bu3_to la d3 no LN oN K1.1 K1.2.1 Ow L A8
  simp (disch := first | omega | assumption) only [mm_op_some, true_and, and_true, mm_rc_some, mm_rc_none, pk_mul, nI_add, mm_in_t, nI_clamp, ok0, ok1, ok2, ok3, ok4, n1_0, n0_0, nI_le_, nI_lt_, if_true, if_false, not_true, not_false_eq_true, ce_lt, ce_cl, hf_lt, hf_cl, mu_s, wp_iast (y := zX6_burst) dX6_burst_230, wp_al0 (y := zX6_burst) dX6_burst_231, wp_getf (y := zX6_burst) kF6_9 dX6_burst_232, wp_sipush (y := zX6_burst) (nI 1600) ks_1600 dX6_burst_235, wp_il4 (y := zX6_burst) dX6_burst_238, wp_iadd (y := zX6_burst) dX6_burst_240, wp_dup2 (y := zX6_burst) dX6_burst_241, wp_iald (y := zX6_burst) dX6_burst_242, wp_al0 (y := zX6_burst) dX6_burst_243, wp_getf (y := zX6_burst) kF6_9 dX6_burst_244, wp_sipush (y := zX6_burst) (nI 1600) ks_1600 dX6_burst_247, wp_il5 (y := zX6_burst) dX6_burst_250, wp_iadd (y := zX6_burst) dX6_burst_252, wp_iald (y := zX6_burst) dX6_burst_253, wp_iadd (y := zX6_burst) dX6_burst_254, wp_iast (y := zX6_burst) dX6_burst_255, wp_al0 (y := zX6_burst) dX6_burst_256, wp_getf (y := zX6_burst) kF6_9 dX6_burst_257, wp_sipush (y := zX6_burst) (nI 1456) ks_1456 dX6_burst_260, wp_il1 (y := zX6_burst) dX6_burst_263, wp_iadd (y := zX6_burst) dX6_burst_264, wp_iconst (y := zX6_burst) ((-1)) ki_m1 dX6_burst_265, wp_iast (y := zX6_burst) dX6_burst_266, wp_al0 (y := zX6_burst) dX6_burst_267, wp_il6 (y := zX6_burst) dX6_burst_268, wp_il9 (y := zX6_burst) dX6_burst_270, wp_cv2 (y := zX6_burst) kM6_196 (by decide) dX6_burst_272, (show yo zX6_melt = 6 from rfl), O.oc, O.g0, O.g1, O.g2, O.g3, O.g4, O.g5, O.g6, O.g7, O.g9, O.g10, O.g11, O.p0, O.p7, O.a1, O.a2, O.a3, O.a4, O.a5, O.a6, O.a7, O.a8, O.a9, u1, u2]
  obtain ⟨k1, k2, k3, k4, k5⟩ := jk7
  obtain ⟨n1, n2, n3, n4, n5⟩ := jk8
  have FF6 := FrR_mu (FrR_mu (FrR_mu (FrR.refl μ4 m) (1648 + (ow s.1 a).val) (nI (sd s.1 (ow s.1 a) + sd s.1 (ow s.1 (tw a)) - 2)) (by omega) (by omega)) (1600 + (ow s.1 a).val) (ar s.1 (ow s.1 a) + ar s.1 (ow s.1 (tw a))) (by omega) (by omega)) (1456 + (wl a).val) (-1) (by omega) (by omega)
  simp only [mu_s] at FF6
  have FF7 := ((((FF1.trans FF2).trans FF3).trans (FrR_mu (FrR.refl μ3 m) (1648 + (ow s.1 (tw a)).val) (nI 0) (by omega) (by omega))).trans FF5).trans FF6
  refine cl_mono (m_melt (M := joM1 s.1 (wl a) a) O (by rw [mu_s]; exact A9) (pv s.1 a) (nx s.1 (tw a)) k1 k2 k3 k4 k5) ?_
  rintro r μ5 ⟨rfl, A10, FF8⟩
  have A11 := me_mk K1 k1 k2 p1 p2 A10
  simp (disch := first | omega | assumption) only [mm_op_some, true_and, and_true, mm_rc_some, mm_rc_none, pk_mul, nI_add, mm_in_t, nI_clamp, ok0, ok1, ok2, ok3, ok4, n1_0, n0_0, nI_le_, nI_lt_, if_true, if_false, not_true, not_false_eq_true, ce_lt, ce_cl, hf_lt, hf_cl, wp_al0 (y := zX6_burst) dX6_burst_275, wp_il8 (y := zX6_burst) dX6_burst_276, wp_il7 (y := zX6_burst) dX6_burst_278, wp_cv2 (y := zX6_burst) kM6_196 (by decide) dX6_burst_280, (show yo zX6_melt = 6 from rfl), O.oc, O.g0, O.g1, O.g2, O.g3, O.g4, O.g5, O.g6, O.g7, O.g9, O.g10, O.g11, O.p0, O.p7, O.a1, O.a2, O.a3, O.a4, O.a5, O.a6, O.a7, O.a8, O.a9]
  refine cl_mono (m_melt O A11 (pv s.1 (tw a)) (nx s.1 a) n1 n2 n3 n4 n5) ?_
  rintro r μ6 ⟨rfl, A12, FF9⟩
  have A13 : MeR (joM s.1 (wl a) a) (μ6 (m + 1)) := me_mk K2 n1 n2 p3 p4 A12
  have FF := (FF7.trans FF8).trans FF9
  have i7 : (mm_in (nI 7) 1786 = true) = True := mm_in_t (by decide) (by decide)
  have c7' : (nI 7).toNatClampNeg = 7 := rfl
  have e7 : μ6 (m + 1) 7 = s.2.2.2 10 := by rw [FF.2 7 (by omega)]; exact T.2.2.2.2.2.2.2.1
  have hm : μ6 m = μ m := FF.1 m (by omega)
  simp (disch := first | omega | assumption) only [mm_op_some, true_and, and_true, mm_rc_none, ok0, ok1, ok2, wp_al0 (y := zX6_burst) dX6_burst_283, wp_getf (y := zX6_burst) kF6_9 dX6_burst_284, wp_bipush (y := zX6_burst) (nI 7) kb_7 dX6_burst_287, wp_dup2 (y := zX6_burst) dX6_burst_289, wp_iald (y := zX6_burst) dX6_burst_290, wp_iconst (y := zX6_burst) (nI 1) ki_1 dX6_burst_291, wp_iadd (y := zX6_burst) dX6_burst_292, wp_iast (y := zX6_burst) dX6_burst_293, wp_al0 (y := zX6_burst) dX6_burst_294, wp_iconst (y := zX6_burst) (nI 3) ki_3 dX6_burst_295, wp_il1 (y := zX6_burst) dX6_burst_296, wp_cv2 (y := zX6_burst) kM6_138 (by decide) dX6_burst_297, (show yo zX6_notes = 6 from rfl), O.oc, O.g0, O.g1, O.g2, O.g3, O.g4, O.g5, O.g6, O.g7, O.g9, O.g10, O.g11, O.p0, O.p7, O.a1, O.a2, O.a3, O.a4, O.a5, O.a6, O.a7, O.a8, O.a9, i7, c7', e7]
  have R2 : RepM (joM s.1 (wl a) a, s.2.1, s.2.2.1, upd s.2.2.2 10 (s.2.2.2 10 + nI 1)) (mu μ6 (m + 1) (upd (μ6 (m + 1)) 7 (s.2.2.2 10 + nI 1))) m := by
    refine ⟨?_, ?_⟩
    · rw [mu_s]
      exact A13.cg (fun k k1 k2 => upd_n _ _ (by omega))
    · rw [mu_s, mu_n _ _ (by omega), hm]
      have q := (OtR_m T (joM s.1 (wl a) a)).cg (r' := μ6 (m + 1)) FF.2
      exact q.fld 7 10 (by omega) (by omega) rfl (s.2.2.2 10 + nI 1)
  refine cl_mono (m_notes O R2 (nI 3) (nI (wl a).val)) ?_
  rintro r μ7 ⟨rfl, R3, FX⟩
  simp (disch := first | omega | assumption) only [mm_rc_none, true_and, wp_il4 (y := zX6_burst) dX6_burst_300, wp_ireti (y := zX6_burst) rfl dX6_burst_302]
  exact hQ _ R3 ((FF.ro.trans (RO_mu (RO.refl _ _) _)).trans FX)
/-- BURST -/
theorem m_burst (O : MoSh sh m) (R : RepM s μ m) (J : Inv s.1) (g0 : μ m 7 = nI 0) (x : Int32) : cl sh zX6_burst [.ref m, .int x] μ (MT m μ (a_burst s x)) := by
  have R0 := R.mu0 (nI 0)
  have e1 : mu μ m (upd (μ m) 0 (nI 0)) = mu μ m (upd (μ m) 0 (nI 0)) := rfl
  show wp sh zX6_burst 0 [.ref m, .int x, .null, .null, .null, .null, .null, .null, .null, .null] [] μ _
  unfold a_burst
  cases e : waO s.1 x with
  | none =>
    have E1 : ∀ Q', cl sh zX6_isWall [.ref m, .int x] (mu μ m (upd (μ m) 0 (nI 0))) Q' = Q' (some (.int (nI 0))) (mu μ m (upd (μ m) 0 (nI 0))) := fun Q' => m_isWallN O R0.1 e
    generalize hv : (((-2 : Int32), fRf s 1) : Int32 × Fo) = v
    generalize hq : MT m μ v = QQ
    simp (disch := first | omega | assumption) only [mm_op_some, true_and, and_true, mm_rc_some, mm_rc_none, pk_mul, nI_add, mm_in_t, nI_clamp, ok0, ok1, ok2, ok3, ok4, n1_0, n0_0, nI_le_, nI_lt_, if_true, if_false, not_true, not_false_eq_true, ce_lt, ce_cl, hf_lt, hf_cl, n0_zz, wp_al0 (y := zX6_burst) dX6_burst_0, wp_iconst (y := zX6_burst) (nI 0) ki_0 dX6_burst_1, wp_putf (y := zX6_burst) kF6_44 rfl dX6_burst_2, wp_al0 (y := zX6_burst) dX6_burst_5, wp_il1 (y := zX6_burst) dX6_burst_6, wp_cv1 (y := zX6_burst) kM6_80 (by decide) dX6_burst_7, (show yo zX6_isWall = 6 from rfl), wp_if_ne (y := zX6_burst) 20 (by decide) dX6_burst_10, wp_al0 (y := zX6_burst) dX6_burst_13, wp_bipush (y := zX6_burst) ((-2)) kb_m2 dX6_burst_14, wp_cv1 (y := zX6_burst) kM6_72 (by decide) dX6_burst_16, (show yo zX6_refuse = 6 from rfl), O.oc, O.g0, O.g1, O.g2, O.g3, O.g4, O.g5, O.g6, O.g7, O.g9, O.g10, O.g11, O.p0, O.p7, O.a1, O.a2, O.a3, O.a4, O.a5, O.a6, O.a7, O.a8, O.a9, E1]
    refine cl_mono (m_ref2 O R0) ?_
    rintro r μ1 ⟨rfl, R1, F1⟩
    simp (disch := first | omega | assumption) only [mm_op_some, true_and, and_true, mm_rc_some, mm_rc_none, pk_mul, nI_add, mm_in_t, nI_clamp, ok0, ok1, ok2, ok3, ok4, n1_0, n0_0, nI_le_, nI_lt_, if_true, if_false, not_true, not_false_eq_true, ce_lt, ce_cl, hf_lt, hf_cl, wp_ireti (y := zX6_burst) rfl dX6_burst_19]
    rw [← hq, ← hv]
    exact mt_ro g0 rfl F1 rfl R1 J
  | some w =>
    obtain ⟨rfl, hw⟩ := waO_some e
    have E1 : ∀ Q', cl sh zX6_isWall [.ref m, .int (nI w.val)] (mu μ m (upd (μ m) 0 (nI 0))) Q' = Q' (some (.int (nI 1))) (mu μ m (upd (μ m) 0 (nI 0))) := fun Q' => m_isWallS O R0.1 J.lnb hw
    have E2 : ∀ Q', cl sh zX6_canBurst [.ref m, .int (nI w.val)] (mu μ m (upd (μ m) 0 (nI 0))) Q' = Q' (some (.int (bI (canJ s.1 w)))) (mu μ m (upd (μ m) 0 (nI 0))) := fun Q' => m_canBurst O R0.1 J w hw
    by_cases hc : canJ s.1 w = true
    · rw [hc] at E2
      dsimp only
      rw [if_pos hc]
      have la : LvH s.1 (h0 w) := LvH_h0.mpr hw
      have lb : LvH s.1 (h1 w) := LvH_h1.mpr hw
      have E3 : ∀ Q', cl sh zX6_cellOf [.ref m, .int (nI (2 * w.val))] (mu μ m (upd (μ m) 0 (nI 0))) Q' = Q' (some (.int (nI (ow s.1 (h0 w)).val))) (mu μ m (upd (μ m) 0 (nI 0))) := fun Q' => m_cellOf O R0.1 (h0 w) la
      have E4 : ∀ Q', cl sh zX6_over [.ref m, .int (nI (2 * w.val))] (mu μ m (upd (μ m) 0 (nI 0))) Q' = Q' (some (.int (nI (ow s.1 (h1 w)).val))) (mu μ m (upd (μ m) 0 (nI 0))) := fun Q' => by rw [← tw_h0]; exact m_over O R0.1 (h0 w) la
      have JB := (J.burst hw hc).2
      obtain ⟨⟨⟨d3, d4, d5, d6, d7, d8⟩, w1⟩, s1, s2, s3⟩ := canJ_iff.mp hc
      generalize hv : ((nI (ow s.1 (buA s.1 w)).val, fEv s (joM s.1 w (buA s.1 w)) 3 10 (nI w.val)) : Int32 × Fo) = v
      have fin : ∀ μ', RepM (fEv s (joM s.1 w (buA s.1 w)) 3 10 (nI w.val)) μ' m → RO (mu μ m (upd (μ m) 0 (nI 0))) μ' m → MT m μ v (some (.int (nI (ow s.1 (buA s.1 w)).val))) μ' := fun μ' R1 F1 => by
        rw [← hv]
        exact mt_ro g0 rfl F1 rfl R1 JB
      generalize MT m μ v = QQ at fin ⊢
      by_cases z : (ow s.1 (h0 w)).val < (ow s.1 (h1 w)).val
      · have eb : buA s.1 w = h0 w := if_pos z
        have z' : ((ow s.1 (h1 w)).val ≤ (ow s.1 (h0 w)).val) = False := eq_false (by omega)
        rw [eb] at fin
        simp (disch := first | omega | assumption) only [mm_op_some, true_and, and_true, mm_rc_some, mm_rc_none, pk_mul, nI_add, mm_in_t, nI_clamp, ok0, ok1, ok2, ok3, ok4, n1_0, n0_0, nI_le_, nI_lt_, if_true, if_false, not_true, not_false_eq_true, ce_lt, ce_cl, hf_lt, hf_cl, n1_zz, bI_t, wp_al0 (y := zX6_burst) dX6_burst_0, wp_iconst (y := zX6_burst) (nI 0) ki_0 dX6_burst_1, wp_putf (y := zX6_burst) kF6_44 rfl dX6_burst_2, wp_al0 (y := zX6_burst) dX6_burst_5, wp_il1 (y := zX6_burst) dX6_burst_6, wp_cv1 (y := zX6_burst) kM6_80 (by decide) dX6_burst_7, (show yo zX6_isWall = 6 from rfl), wp_if_ne (y := zX6_burst) 20 (by decide) dX6_burst_10, wp_al0 (y := zX6_burst) dX6_burst_13, wp_bipush (y := zX6_burst) ((-2)) kb_m2 dX6_burst_14, wp_cv1 (y := zX6_burst) kM6_72 (by decide) dX6_burst_16, (show yo zX6_refuse = 6 from rfl), wp_ireti (y := zX6_burst) rfl dX6_burst_19, wp_al0 (y := zX6_burst) dX6_burst_20, wp_il1 (y := zX6_burst) dX6_burst_21, wp_cv1 (y := zX6_burst) kM6_193 (by decide) dX6_burst_22, (show yo zX6_canBurst = 6 from rfl), wp_if_ne (y := zX6_burst) 35 (by decide) dX6_burst_25, wp_al0 (y := zX6_burst) dX6_burst_28, wp_bipush (y := zX6_burst) ((-3)) kb_m3 dX6_burst_29, wp_cv1 (y := zX6_burst) kM6_72 (by decide) dX6_burst_31, (show yo zX6_refuse = 6 from rfl), wp_ireti (y := zX6_burst) rfl dX6_burst_34, wp_al0 (y := zX6_burst) dX6_burst_35, wp_iconst (y := zX6_burst) (nI 2) ki_2 dX6_burst_36, wp_il1 (y := zX6_burst) dX6_burst_37, wp_imul (y := zX6_burst) dX6_burst_38, wp_cv1 (y := zX6_burst) kM6_84 (by decide) dX6_burst_39, (show yo zX6_cellOf = 6 from rfl), wp_al0 (y := zX6_burst) dX6_burst_42, wp_iconst (y := zX6_burst) (nI 2) ki_2 dX6_burst_43, wp_il1 (y := zX6_burst) dX6_burst_44, wp_imul (y := zX6_burst) dX6_burst_45, wp_cv1 (y := zX6_burst) kM6_105 (by decide) dX6_burst_46, (show yo zX6_over = 6 from rfl), wp_icmp_ge (y := zX6_burst) 58 (by decide) dX6_burst_49, wp_iconst (y := zX6_burst) (nI 2) ki_2 dX6_burst_52, wp_il1 (y := zX6_burst) dX6_burst_53, wp_imul (y := zX6_burst) dX6_burst_54, wp_goto (y := zX6_burst) 63 (by decide) dX6_burst_55, O.oc, O.g0, O.g1, O.g2, O.g3, O.g4, O.g5, O.g6, O.g7, O.g9, O.g10, O.g11, O.p0, O.p7, O.a1, O.a2, O.a3, O.a4, O.a5, O.a6, O.a7, O.a8, O.a9, E1, E2, E3, E4, z']
        have q := bu_go (Q := QQ) O R0 J (h0 w) la (by rw [tw_h0]; exact z) d4 (by rw [tw_h0]; exact d5) (by rw [tw_h0]; exact d6) (by rw [tw_h0]; exact d7) (by rw [tw_h0]; exact d8) (by rw [tw_h0]; exact w1) s1 (by rw [tw_h0]; exact s2) (by rw [tw_h0]; exact s3) (by rw [wl_h0]; exact fin)
        rw [wl_h0] at q
        exact q
      · have eb : buA s.1 w = h1 w := if_neg z
        have z' : ((ow s.1 (h1 w)).val ≤ (ow s.1 (h0 w)).val) = True := eq_true (by omega)
        rw [eb] at fin
        simp (disch := first | omega | assumption) only [mm_op_some, true_and, and_true, mm_rc_some, mm_rc_none, pk_mul, nI_add, mm_in_t, nI_clamp, ok0, ok1, ok2, ok3, ok4, n1_0, n0_0, nI_le_, nI_lt_, if_true, if_false, not_true, not_false_eq_true, ce_lt, ce_cl, hf_lt, hf_cl, n1_zz, bI_t, wp_al0 (y := zX6_burst) dX6_burst_0, wp_iconst (y := zX6_burst) (nI 0) ki_0 dX6_burst_1, wp_putf (y := zX6_burst) kF6_44 rfl dX6_burst_2, wp_al0 (y := zX6_burst) dX6_burst_5, wp_il1 (y := zX6_burst) dX6_burst_6, wp_cv1 (y := zX6_burst) kM6_80 (by decide) dX6_burst_7, (show yo zX6_isWall = 6 from rfl), wp_if_ne (y := zX6_burst) 20 (by decide) dX6_burst_10, wp_al0 (y := zX6_burst) dX6_burst_13, wp_bipush (y := zX6_burst) ((-2)) kb_m2 dX6_burst_14, wp_cv1 (y := zX6_burst) kM6_72 (by decide) dX6_burst_16, (show yo zX6_refuse = 6 from rfl), wp_ireti (y := zX6_burst) rfl dX6_burst_19, wp_al0 (y := zX6_burst) dX6_burst_20, wp_il1 (y := zX6_burst) dX6_burst_21, wp_cv1 (y := zX6_burst) kM6_193 (by decide) dX6_burst_22, (show yo zX6_canBurst = 6 from rfl), wp_if_ne (y := zX6_burst) 35 (by decide) dX6_burst_25, wp_al0 (y := zX6_burst) dX6_burst_28, wp_bipush (y := zX6_burst) ((-3)) kb_m3 dX6_burst_29, wp_cv1 (y := zX6_burst) kM6_72 (by decide) dX6_burst_31, (show yo zX6_refuse = 6 from rfl), wp_ireti (y := zX6_burst) rfl dX6_burst_34, wp_al0 (y := zX6_burst) dX6_burst_35, wp_iconst (y := zX6_burst) (nI 2) ki_2 dX6_burst_36, wp_il1 (y := zX6_burst) dX6_burst_37, wp_imul (y := zX6_burst) dX6_burst_38, wp_cv1 (y := zX6_burst) kM6_84 (by decide) dX6_burst_39, (show yo zX6_cellOf = 6 from rfl), wp_al0 (y := zX6_burst) dX6_burst_42, wp_iconst (y := zX6_burst) (nI 2) ki_2 dX6_burst_43, wp_il1 (y := zX6_burst) dX6_burst_44, wp_imul (y := zX6_burst) dX6_burst_45, wp_cv1 (y := zX6_burst) kM6_105 (by decide) dX6_burst_46, (show yo zX6_over = 6 from rfl), wp_icmp_ge (y := zX6_burst) 58 (by decide) dX6_burst_49, wp_iconst (y := zX6_burst) (nI 2) ki_2 dX6_burst_58, wp_il1 (y := zX6_burst) dX6_burst_59, wp_imul (y := zX6_burst) dX6_burst_60, wp_iconst (y := zX6_burst) (nI 1) ki_1 dX6_burst_61, wp_iadd (y := zX6_burst) dX6_burst_62, O.oc, O.g0, O.g1, O.g2, O.g3, O.g4, O.g5, O.g6, O.g7, O.g9, O.g10, O.g11, O.p0, O.p7, O.a1, O.a2, O.a3, O.a4, O.a5, O.a6, O.a7, O.a8, O.a9, E1, E2, E3, E4, z']
        have q := bu_go (Q := QQ) O R0 J (h1 w) lb (by rw [tw_h1]; exact Nat.lt_of_le_of_ne (Nat.le_of_not_lt z) (fun e => d3 (Fin.ext e).symm)) (by exact d7) (by rw [tw_h1]; exact d6) (by rw [tw_h1]; exact d5) (by rw [tw_h1]; exact d4) (by rw [tw_h1]; exact d8.symm) (by rw [tw_h1, wB_comm]; exact w1) s2 (by rw [tw_h1]; exact s1) (by rw [tw_h1]; omega) (by rw [wl_h1]; exact fin)
        rw [wl_h1] at q
        exact q
    · have hc' : canJ s.1 w = false := by cases h : canJ s.1 w; rfl; exact absurd h hc
      rw [hc'] at E2
      dsimp only
      rw [if_neg hc]
      generalize hv : (((-3 : Int32), fRf s 2) : Int32 × Fo) = v
      generalize hq : MT m μ v = QQ
      simp (disch := first | omega | assumption) only [mm_op_some, true_and, and_true, mm_rc_some, mm_rc_none, pk_mul, nI_add, mm_in_t, nI_clamp, ok0, ok1, ok2, ok3, ok4, n1_0, n0_0, nI_le_, nI_lt_, if_true, if_false, not_true, not_false_eq_true, ce_lt, ce_cl, hf_lt, hf_cl, n0_zz, n1_zz, bI_f, wp_al0 (y := zX6_burst) dX6_burst_0, wp_iconst (y := zX6_burst) (nI 0) ki_0 dX6_burst_1, wp_putf (y := zX6_burst) kF6_44 rfl dX6_burst_2, wp_al0 (y := zX6_burst) dX6_burst_5, wp_il1 (y := zX6_burst) dX6_burst_6, wp_cv1 (y := zX6_burst) kM6_80 (by decide) dX6_burst_7, (show yo zX6_isWall = 6 from rfl), wp_if_ne (y := zX6_burst) 20 (by decide) dX6_burst_10, wp_al0 (y := zX6_burst) dX6_burst_13, wp_bipush (y := zX6_burst) ((-2)) kb_m2 dX6_burst_14, wp_cv1 (y := zX6_burst) kM6_72 (by decide) dX6_burst_16, (show yo zX6_refuse = 6 from rfl), wp_ireti (y := zX6_burst) rfl dX6_burst_19, wp_al0 (y := zX6_burst) dX6_burst_20, wp_il1 (y := zX6_burst) dX6_burst_21, wp_cv1 (y := zX6_burst) kM6_193 (by decide) dX6_burst_22, (show yo zX6_canBurst = 6 from rfl), wp_if_ne (y := zX6_burst) 35 (by decide) dX6_burst_25, wp_al0 (y := zX6_burst) dX6_burst_28, wp_bipush (y := zX6_burst) ((-3)) kb_m3 dX6_burst_29, wp_cv1 (y := zX6_burst) kM6_72 (by decide) dX6_burst_31, (show yo zX6_refuse = 6 from rfl), O.oc, O.g0, O.g1, O.g2, O.g3, O.g4, O.g5, O.g6, O.g7, O.g9, O.g10, O.g11, O.p0, O.p7, O.a1, O.a2, O.a3, O.a4, O.a5, O.a6, O.a7, O.a8, O.a9, E1, E2]
      refine cl_mono (m_ref3 O R0) ?_
      rintro r μ1 ⟨rfl, R1, F1⟩
      simp (disch := first | omega | assumption) only [mm_op_some, true_and, and_true, mm_rc_some, mm_rc_none, pk_mul, nI_add, mm_in_t, nI_clamp, ok0, ok1, ok2, ok3, ok4, n1_0, n0_0, nI_le_, nI_lt_, if_true, if_false, not_true, not_false_eq_true, ce_lt, ce_cl, hf_lt, hf_cl, wp_ireti (y := zX6_burst) rfl dX6_burst_34]
      rw [← hq, ← hv]
      exact mt_ro g0 rfl F1 rfl R1 J
end MBX
