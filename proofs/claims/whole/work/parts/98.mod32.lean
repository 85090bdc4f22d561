section MCO
variable {sh : mm_Sh} {m : Nat} {M N : Ms} {μ : mm_U} {s : Fo} {Q : Option Value → mm_U → Prop}
theorem cCe_le (M : Ms) : cCe M ≤ 48 := by
  unfold cCe
  have : ∀ n, sm n (fun i => b1 (decide (0 < sd M (cI i)))) ≤ n := by
    intro n
    induction n with
    | zero => exact Nat.le_refl _
    | succ n ih =>
      have hb : b1 (decide (0 < sd M (cI n))) ≤ 1 := by cases decide (0 < sd M (cI n)) <;> decide
      show sm n _ + b1 (decide (0 < sd M (cI n))) ≤ n + 1
      omega
  exact this 48
theorem m_count (O : MoSh sh m) (R : RepM s μ m) (J : Inv s.1) (g0 : μ m 7 = nI 0) (what : Int32) : cl sh zX6_count [.ref m, .int what] μ (MT m μ (a_count s what, s)) := by
  have R0 := R.mu0 (nI 0)
  have EC : ∀ Q', cl sh zX6_many [.ref m, .int (nI 1)] (mu μ m (upd (μ m) 0 (nI 0))) Q' = Q' (some (.int (sC s.1 (fun _ => nI 1)))) (mu μ m (upd (μ m) 0 (nI 0))) := fun Q' => m_manyC O R0.1 J
  have EW : ∀ Q', cl sh zX6_many [.ref m, .int (nI 0)] (mu μ m (upd (μ m) 0 (nI 0))) Q' = Q' (some (.int (sW s.1 (fun _ => nI 1)))) (mu μ m (upd (μ m) 0 (nI 0))) := fun Q' => m_manyW O R0.1 J
  have hw3 := J.2.2.2.2.2.1
  have hc48 := cCe_le s.1
  have v0 := R0.2.1
  have v1 := R0.2.2.1
  have v2 := R0.2.2.2.1
  have v4 := R0.2.2.2.2.2.1
  have v5 := R0.2.2.2.2.2.2.1
  have v6 := R0.2.2.2.2.2.2.2.1
  have v7 := R0.2.2.2.2.2.2.2.2.1
  have v8 := R0.2.2.2.2.2.2.2.2.2.1
  have v3 := R0.2.2.2.2.1
  rw [show (mu μ m (upd (μ m) 0 (nI 0))) m 7 = nI 0 by rw [mu_s, upd_n _ _ (by omega)]; exact g0] at v3
  have z3 : ∀ y : Int32, y + nI 0 = y := fun y => Int32.add_zero y
  rw [z3] at v3
  have v10 := R0.2.2.2.2.2.2.2.2.2.2.1 0 (by omega)
  have v11 := R0.2.2.2.2.2.2.2.2.2.2.1 1 (by omega)
  have v12 := R0.2.2.2.2.2.2.2.2.2.2.1 2 (by omega)
  have v13 := R0.2.2.2.2.2.2.2.2.2.2.1 3 (by omega)
  have i0 : (mm_in (nI 0) 1786 = true) = True := mm_in_t (by decide) (by decide)
  have c0 : (nI 0).toNatClampNeg = 0 := rfl
  have i1 : (mm_in (nI 1) 1786 = true) = True := mm_in_t (by decide) (by decide)
  have c1 : (nI 1).toNatClampNeg = 1 := rfl
  have i2 : (mm_in (nI 2) 1786 = true) = True := mm_in_t (by decide) (by decide)
  have c2 : (nI 2).toNatClampNeg = 2 := rfl
  have i3 : (mm_in (nI 3) 1786 = true) = True := mm_in_t (by decide) (by decide)
  have c3 : (nI 3).toNatClampNeg = 3 := rfl
  have i4 : (mm_in (nI 4) 1786 = true) = True := mm_in_t (by decide) (by decide)
  have c4 : (nI 4).toNatClampNeg = 4 := rfl
  have i5 : (mm_in (nI 5) 1786 = true) = True := mm_in_t (by decide) (by decide)
  have c5 : (nI 5).toNatClampNeg = 5 := rfl
  have i6 : (mm_in (nI 6) 1786 = true) = True := mm_in_t (by decide) (by decide)
  have c6 : (nI 6).toNatClampNeg = 6 := rfl
  have i7 : (mm_in (nI 7) 1786 = true) = True := mm_in_t (by decide) (by decide)
  have c7 : (nI 7).toNatClampNeg = 7 := rfl
  have i8 : (mm_in (nI 8) 1786 = true) = True := mm_in_t (by decide) (by decide)
  have c8 : (nI 8).toNatClampNeg = 8 := rfl
  have i10 : (mm_in (nI 10) 1786 = true) = True := mm_in_t (by decide) (by decide)
  have c10 : (nI 10).toNatClampNeg = 10 := rfl
  have i11 : (mm_in (nI 11) 1786 = true) = True := mm_in_t (by decide) (by decide)
  have c11 : (nI 11).toNatClampNeg = 11 := rfl
  have i12 : (mm_in (nI 12) 1786 = true) = True := mm_in_t (by decide) (by decide)
  have c12 : (nI 12).toNatClampNeg = 12 := rfl
  have i13 : (mm_in (nI 13) 1786 = true) = True := mm_in_t (by decide) (by decide)
  have c13 : (nI 13).toNatClampNeg = 13 := rfl
  have pre : ∀ QQ, cl sh zX6_count [.ref m, .int what] μ QQ = wp sh zX6_count 6 [.ref m, .int what] [.int what] (mu μ m (upd (μ m) 0 (nI 0))) QQ := by
    intro QQ
    show wp sh zX6_count 0 [.ref m, .int what] [] μ QQ = _
    simp (disch := first | omega | assumption) only [mm_op_some, true_and, and_true, mm_rc_some, mm_rc_none, pk_mul, nI_add, mm_in_t, nI_clamp, ok0, ok1, ok2, ok3, ok4, n1_0, n0_0, nI_le_, nI_lt_, if_true, if_false, not_true, not_false_eq_true, ce_lt, ce_cl, hf_lt, hf_cl, wp_al0 (y := zX6_count) dX6_count_0, wp_iconst (y := zX6_count) (nI 0) ki_0 dX6_count_1, wp_putf (y := zX6_count) kF6_44 rfl dX6_count_2, wp_il1 (y := zX6_count) dX6_count_5, O.oc, O.g0, O.g1, O.g2, O.g3, O.g4, O.g5, O.g6, O.g7, O.g9, O.g10, O.g11, O.p0, O.p7, O.a1, O.a2, O.a3, O.a4, O.a5, O.a6, O.a7, O.a8, O.a9]
  rw [pre]
  unfold a_count
  by_cases w0 : what = nI 0
  · subst w0
    rw [if_pos rfl, wp_tsIn (y := zX6_count) 84 dX6_count_6 (by decide) rfl (by decide)]
    simp (disch := first | omega | assumption) only [mm_op_some, true_and, and_true, mm_rc_some, mm_rc_none, pk_mul, nI_add, mm_in_t, nI_clamp, ok0, ok1, ok2, ok3, ok4, n1_0, n0_0, nI_le_, nI_lt_, if_true, if_false, not_true, not_false_eq_true, ce_lt, ce_cl, hf_lt, hf_cl, n0_zz, n1_zz, bI_zz, true_and, wp_al0 (y := zX6_count) dX6_count_84, wp_iconst (y := zX6_count) (nI 1) ki_1 dX6_count_85, wp_cv1 (y := zX6_count) kM6_317 (by decide) dX6_count_86, (show yo zX6_many = 6 from rfl), wp_ireti (y := zX6_count) rfl dX6_count_89, O.oc, O.g0, O.g1, O.g2, O.g3, O.g4, O.g5, O.g6, O.g7, O.g9, O.g10, O.g11, O.p0, O.p7, O.a1, O.a2, O.a3, O.a4, O.a5, O.a6, O.a7, O.a8, O.a9, EC]
    exact mt_ro g0 rfl (RO.refl _ _) rfl R0 J
  · rw [if_neg w0]
    by_cases w1 : what = nI 1
    · subst w1
      rw [if_pos rfl, wp_tsIn (y := zX6_count) 90 dX6_count_6 (by decide) rfl (by decide)]
      simp (disch := first | omega | assumption) only [mm_op_some, true_and, and_true, mm_rc_some, mm_rc_none, pk_mul, nI_add, mm_in_t, nI_clamp, ok0, ok1, ok2, ok3, ok4, n1_0, n0_0, nI_le_, nI_lt_, if_true, if_false, not_true, not_false_eq_true, ce_lt, ce_cl, hf_lt, hf_cl, n0_zz, n1_zz, bI_zz, true_and, wp_al0 (y := zX6_count) dX6_count_90, wp_iconst (y := zX6_count) (nI 0) ki_0 dX6_count_91, wp_cv1 (y := zX6_count) kM6_317 (by decide) dX6_count_92, (show yo zX6_many = 6 from rfl), wp_ireti (y := zX6_count) rfl dX6_count_95, O.oc, O.g0, O.g1, O.g2, O.g3, O.g4, O.g5, O.g6, O.g7, O.g9, O.g10, O.g11, O.p0, O.p7, O.a1, O.a2, O.a3, O.a4, O.a5, O.a6, O.a7, O.a8, O.a9, EW]
      exact mt_ro g0 rfl (RO.refl _ _) rfl R0 J
    · rw [if_neg w1]
      by_cases w2 : what = nI 2
      · subst w2
        rw [if_pos rfl, wp_tsIn (y := zX6_count) 96 dX6_count_6 (by decide) rfl (by decide)]
        have e2 : nI 2 * sW s.1 (fun _ => nI 1) / nI 3 = sW s.1 (fun _ => nI 1) / nI 3 * nI 2 := by
          have key : ∀ k : Fin 49, nI 2 * nI (3 * k.val) / nI 3 = nI (3 * k.val) / nI 3 * nI 2 := by decide +kernel
          rw [sW_cnt, hw3]
          exact key ⟨cCe s.1, by omega⟩
        have k3 : ¬ nI 3 = 0 := by decide
        rw [← e2]
        generalize sW s.1 (fun _ => nI 1) = ww at EW ⊢
        simp (disch := first | omega | assumption) only [mm_op_some, true_and, and_true, mm_rc_some, mm_rc_none, pk_mul, nI_add, mm_in_t, nI_clamp, ok0, ok1, ok2, ok3, ok4, n1_0, n0_0, nI_le_, nI_lt_, if_true, if_false, not_true, not_false_eq_true, ce_lt, ce_cl, hf_lt, hf_cl, n0_zz, n1_zz, bI_zz, true_and, wp_iconst (y := zX6_count) (nI 2) ki_2 dX6_count_96, wp_al0 (y := zX6_count) dX6_count_97, wp_iconst (y := zX6_count) (nI 0) ki_0 dX6_count_98, wp_cv1 (y := zX6_count) kM6_317 (by decide) dX6_count_99, (show yo zX6_many = 6 from rfl), wp_imul (y := zX6_count) dX6_count_102, wp_iconst (y := zX6_count) (nI 3) ki_3 dX6_count_103, wp_idiv' (y := zX6_count) dX6_count_104, wp_ireti (y := zX6_count) rfl dX6_count_105, O.oc, O.g0, O.g1, O.g2, O.g3, O.g4, O.g5, O.g6, O.g7, O.g9, O.g10, O.g11, O.p0, O.p7, O.a1, O.a2, O.a3, O.a4, O.a5, O.a6, O.a7, O.a8, O.a9, EW]
        exact mt_ro g0 rfl (RO.refl _ _) rfl R0 J
      · rw [if_neg w2]
        by_cases w3 : what = nI 3
        · subst w3
          rw [if_pos rfl, wp_tsIn (y := zX6_count) 106 dX6_count_6 (by decide) rfl (by decide)]
          simp (disch := first | omega | assumption) only [mm_op_some, true_and, and_true, mm_rc_some, mm_rc_none, pk_mul, nI_add, mm_in_t, nI_clamp, ok0, ok1, ok2, ok3, ok4, n1_0, n0_0, nI_le_, nI_lt_, if_true, if_false, not_true, not_false_eq_true, ce_lt, ce_cl, hf_lt, hf_cl, n0_zz, n1_zz, bI_zz, true_and, wp_al0 (y := zX6_count) dX6_count_106, wp_getf (y := zX6_count) kF6_9 dX6_count_107, wp_iconst (y := zX6_count) (nI 3) ki_3 dX6_count_110, wp_iald (y := zX6_count) dX6_count_111, wp_ireti (y := zX6_count) rfl dX6_count_112, O.oc, O.g0, O.g1, O.g2, O.g3, O.g4, O.g5, O.g6, O.g7, O.g9, O.g10, O.g11, O.p0, O.p7, O.a1, O.a2, O.a3, O.a4, O.a5, O.a6, O.a7, O.a8, O.a9, i3, c3, v3]
          exact mt_ro g0 rfl (RO.refl _ _) rfl R0 J
        · rw [if_neg w3]
          by_cases w4 : what = nI 4
          · subst w4
            rw [if_pos rfl, wp_tsIn (y := zX6_count) 113 dX6_count_6 (by decide) rfl (by decide)]
            simp (disch := first | omega | assumption) only [mm_op_some, true_and, and_true, mm_rc_some, mm_rc_none, pk_mul, nI_add, mm_in_t, nI_clamp, ok0, ok1, ok2, ok3, ok4, n1_0, n0_0, nI_le_, nI_lt_, if_true, if_false, not_true, not_false_eq_true, ce_lt, ce_cl, hf_lt, hf_cl, n0_zz, n1_zz, bI_zz, true_and, wp_al0 (y := zX6_count) dX6_count_113, wp_getf (y := zX6_count) kF6_9 dX6_count_114, wp_iconst (y := zX6_count) (nI 4) ki_4 dX6_count_117, wp_iald (y := zX6_count) dX6_count_118, wp_ireti (y := zX6_count) rfl dX6_count_119, O.oc, O.g0, O.g1, O.g2, O.g3, O.g4, O.g5, O.g6, O.g7, O.g9, O.g10, O.g11, O.p0, O.p7, O.a1, O.a2, O.a3, O.a4, O.a5, O.a6, O.a7, O.a8, O.a9, i4, c4, v4]
            exact mt_ro g0 rfl (RO.refl _ _) rfl R0 J
          · rw [if_neg w4]
            by_cases w5 : what = nI 5
            · subst w5
              rw [if_pos rfl, wp_tsIn (y := zX6_count) 120 dX6_count_6 (by decide) rfl (by decide)]
              simp (disch := first | omega | assumption) only [mm_op_some, true_and, and_true, mm_rc_some, mm_rc_none, pk_mul, nI_add, mm_in_t, nI_clamp, ok0, ok1, ok2, ok3, ok4, n1_0, n0_0, nI_le_, nI_lt_, if_true, if_false, not_true, not_false_eq_true, ce_lt, ce_cl, hf_lt, hf_cl, n0_zz, n1_zz, bI_zz, true_and, wp_al0 (y := zX6_count) dX6_count_120, wp_getf (y := zX6_count) kF6_9 dX6_count_121, wp_iconst (y := zX6_count) (nI 5) ki_5 dX6_count_124, wp_iald (y := zX6_count) dX6_count_125, wp_ireti (y := zX6_count) rfl dX6_count_126, O.oc, O.g0, O.g1, O.g2, O.g3, O.g4, O.g5, O.g6, O.g7, O.g9, O.g10, O.g11, O.p0, O.p7, O.a1, O.a2, O.a3, O.a4, O.a5, O.a6, O.a7, O.a8, O.a9, i5, c5, v5]
              exact mt_ro g0 rfl (RO.refl _ _) rfl R0 J
            · rw [if_neg w5]
              by_cases w6 : what = nI 6
              · subst w6
                rw [if_pos rfl, wp_tsIn (y := zX6_count) 127 dX6_count_6 (by decide) rfl (by decide)]
                simp (disch := first | omega | assumption) only [mm_op_some, true_and, and_true, mm_rc_some, mm_rc_none, pk_mul, nI_add, mm_in_t, nI_clamp, ok0, ok1, ok2, ok3, ok4, n1_0, n0_0, nI_le_, nI_lt_, if_true, if_false, not_true, not_false_eq_true, ce_lt, ce_cl, hf_lt, hf_cl, n0_zz, n1_zz, bI_zz, true_and, wp_al0 (y := zX6_count) dX6_count_127, wp_getf (y := zX6_count) kF6_9 dX6_count_128, wp_bipush (y := zX6_count) (nI 6) kb_6 dX6_count_131, wp_iald (y := zX6_count) dX6_count_133, wp_ireti (y := zX6_count) rfl dX6_count_134, O.oc, O.g0, O.g1, O.g2, O.g3, O.g4, O.g5, O.g6, O.g7, O.g9, O.g10, O.g11, O.p0, O.p7, O.a1, O.a2, O.a3, O.a4, O.a5, O.a6, O.a7, O.a8, O.a9, i6, c6, v6]
                exact mt_ro g0 rfl (RO.refl _ _) rfl R0 J
              · rw [if_neg w6]
                by_cases w7 : what = nI 7
                · subst w7
                  rw [if_pos rfl, wp_tsIn (y := zX6_count) 135 dX6_count_6 (by decide) rfl (by decide)]
                  simp (disch := first | omega | assumption) only [mm_op_some, true_and, and_true, mm_rc_some, mm_rc_none, pk_mul, nI_add, mm_in_t, nI_clamp, ok0, ok1, ok2, ok3, ok4, n1_0, n0_0, nI_le_, nI_lt_, if_true, if_false, not_true, not_false_eq_true, ce_lt, ce_cl, hf_lt, hf_cl, n0_zz, n1_zz, bI_zz, true_and, wp_al0 (y := zX6_count) dX6_count_135, wp_getf (y := zX6_count) kF6_9 dX6_count_136, wp_iconst (y := zX6_count) (nI 0) ki_0 dX6_count_139, wp_iald (y := zX6_count) dX6_count_140, wp_ireti (y := zX6_count) rfl dX6_count_141, O.oc, O.g0, O.g1, O.g2, O.g3, O.g4, O.g5, O.g6, O.g7, O.g9, O.g10, O.g11, O.p0, O.p7, O.a1, O.a2, O.a3, O.a4, O.a5, O.a6, O.a7, O.a8, O.a9, i0, c0, v0]
                  exact mt_ro g0 rfl (RO.refl _ _) rfl R0 J
                · rw [if_neg w7]
                  by_cases w8 : what = nI 8
                  · subst w8
                    rw [if_pos rfl, wp_tsIn (y := zX6_count) 142 dX6_count_6 (by decide) rfl (by decide)]
                    simp (disch := first | omega | assumption) only [mm_op_some, true_and, and_true, mm_rc_some, mm_rc_none, pk_mul, nI_add, mm_in_t, nI_clamp, ok0, ok1, ok2, ok3, ok4, n1_0, n0_0, nI_le_, nI_lt_, if_true, if_false, not_true, not_false_eq_true, ce_lt, ce_cl, hf_lt, hf_cl, n0_zz, n1_zz, bI_zz, true_and, wp_al0 (y := zX6_count) dX6_count_142, wp_getf (y := zX6_count) kF6_9 dX6_count_143, wp_iconst (y := zX6_count) (nI 1) ki_1 dX6_count_146, wp_iald (y := zX6_count) dX6_count_147, wp_ireti (y := zX6_count) rfl dX6_count_148, O.oc, O.g0, O.g1, O.g2, O.g3, O.g4, O.g5, O.g6, O.g7, O.g9, O.g10, O.g11, O.p0, O.p7, O.a1, O.a2, O.a3, O.a4, O.a5, O.a6, O.a7, O.a8, O.a9, i1, c1, v1]
                    exact mt_ro g0 rfl (RO.refl _ _) rfl R0 J
                  · rw [if_neg w8]
                    by_cases w9 : what = nI 9
                    · subst w9
                      rw [if_pos rfl, wp_tsIn (y := zX6_count) 149 dX6_count_6 (by decide) rfl (by decide)]
                      simp (disch := first | omega | assumption) only [mm_op_some, true_and, and_true, mm_rc_some, mm_rc_none, pk_mul, nI_add, mm_in_t, nI_clamp, ok0, ok1, ok2, ok3, ok4, n1_0, n0_0, nI_le_, nI_lt_, if_true, if_false, not_true, not_false_eq_true, ce_lt, ce_cl, hf_lt, hf_cl, n0_zz, n1_zz, bI_zz, true_and, wp_al0 (y := zX6_count) dX6_count_149, wp_getf (y := zX6_count) kF6_9 dX6_count_150, wp_iconst (y := zX6_count) (nI 2) ki_2 dX6_count_153, wp_iald (y := zX6_count) dX6_count_154, wp_ireti (y := zX6_count) rfl dX6_count_155, O.oc, O.g0, O.g1, O.g2, O.g3, O.g4, O.g5, O.g6, O.g7, O.g9, O.g10, O.g11, O.p0, O.p7, O.a1, O.a2, O.a3, O.a4, O.a5, O.a6, O.a7, O.a8, O.a9, i2, c2, v2]
                      exact mt_ro g0 rfl (RO.refl _ _) rfl R0 J
                    · rw [if_neg w9]
                      by_cases w10 : what = nI 10
                      · subst w10
                        rw [if_pos rfl, wp_tsIn (y := zX6_count) 156 dX6_count_6 (by decide) rfl (by decide)]
                        simp (disch := first | omega | assumption) only [mm_op_some, true_and, and_true, mm_rc_some, mm_rc_none, pk_mul, nI_add, mm_in_t, nI_clamp, ok0, ok1, ok2, ok3, ok4, n1_0, n0_0, nI_le_, nI_lt_, if_true, if_false, not_true, not_false_eq_true, ce_lt, ce_cl, hf_lt, hf_cl, n0_zz, n1_zz, bI_zz, true_and, wp_al0 (y := zX6_count) dX6_count_156, wp_getf (y := zX6_count) kF6_9 dX6_count_157, wp_bipush (y := zX6_count) (nI 8) kb_8 dX6_count_160, wp_iald (y := zX6_count) dX6_count_162, wp_ireti (y := zX6_count) rfl dX6_count_163, O.oc, O.g0, O.g1, O.g2, O.g3, O.g4, O.g5, O.g6, O.g7, O.g9, O.g10, O.g11, O.p0, O.p7, O.a1, O.a2, O.a3, O.a4, O.a5, O.a6, O.a7, O.a8, O.a9, i8, c8, v8]
                        exact mt_ro g0 rfl (RO.refl _ _) rfl R0 J
                      · rw [if_neg w10]
                        by_cases w11 : what = nI 11
                        · subst w11
                          rw [if_pos rfl, wp_tsIn (y := zX6_count) 172 dX6_count_6 (by decide) rfl (by decide)]
                          have ee : mm_isin (nI 11).toInt64 11 14 = nI 1 := by decide
                          have ex : nI 9 + nI 11 - nI 10 = nI 10 := by decide
                          have ex2 : nI (9 + 11) - nI 10 = nI 10 := by decide
                          simp (disch := first | omega | assumption) only [mm_op_some, true_and, and_true, mm_rc_some, mm_rc_none, pk_mul, nI_add, mm_in_t, nI_clamp, ok0, ok1, ok2, ok3, ok4, n1_0, n0_0, nI_le_, nI_lt_, if_true, if_false, not_true, not_false_eq_true, ce_lt, ce_cl, hf_lt, hf_cl, n0_zz, n1_zz, bI_zz, true_and, wp_il1 (y := zX6_count) dX6_count_172, wp_i2l (y := zX6_count) dX6_count_173, wp_ldc2 (y := zX6_count) kL6_326 dX6_count_174, wp_ldc2 (y := zX6_count) kL6_328 dX6_count_177, wp_in (y := zX6_count) rfl kP6_48 (by decide) dX6_count_180, wp_if_eq (y := zX6_count) 201 (by decide) dX6_count_183, wp_al0 (y := zX6_count) dX6_count_186, wp_getf (y := zX6_count) kF6_9 dX6_count_187, wp_bipush (y := zX6_count) (nI 9) kb_9 dX6_count_190, wp_il1 (y := zX6_count) dX6_count_192, wp_iadd (y := zX6_count) dX6_count_193, wp_bipush (y := zX6_count) (nI 10) kb_10 dX6_count_194, wp_isub (y := zX6_count) dX6_count_196, wp_iald (y := zX6_count) dX6_count_197, wp_goto (y := zX6_count) 202 (by decide) dX6_count_198, wp_ireti (y := zX6_count) rfl dX6_count_202, O.oc, O.g0, O.g1, O.g2, O.g3, O.g4, O.g5, O.g6, O.g7, O.g9, O.g10, O.g11, O.p0, O.p7, O.a1, O.a2, O.a3, O.a4, O.a5, O.a6, O.a7, O.a8, O.a9, ee, ex, ex2, i10, c10, v10]
                          exact mt_ro g0 rfl (RO.refl _ _) rfl R0 J
                        · rw [if_neg w11]
                          by_cases w12 : what = nI 12
                          · subst w12
                            rw [if_pos rfl, wp_tsIn (y := zX6_count) 172 dX6_count_6 (by decide) rfl (by decide)]
                            have ee : mm_isin (nI 12).toInt64 11 14 = nI 1 := by decide
                            have ex : nI 9 + nI 12 - nI 10 = nI 11 := by decide
                            have ex2 : nI (9 + 12) - nI 10 = nI 11 := by decide
                            simp (disch := first | omega | assumption) only [mm_op_some, true_and, and_true, mm_rc_some, mm_rc_none, pk_mul, nI_add, mm_in_t, nI_clamp, ok0, ok1, ok2, ok3, ok4, n1_0, n0_0, nI_le_, nI_lt_, if_true, if_false, not_true, not_false_eq_true, ce_lt, ce_cl, hf_lt, hf_cl, n0_zz, n1_zz, bI_zz, true_and, wp_il1 (y := zX6_count) dX6_count_172, wp_i2l (y := zX6_count) dX6_count_173, wp_ldc2 (y := zX6_count) kL6_326 dX6_count_174, wp_ldc2 (y := zX6_count) kL6_328 dX6_count_177, wp_in (y := zX6_count) rfl kP6_48 (by decide) dX6_count_180, wp_if_eq (y := zX6_count) 201 (by decide) dX6_count_183, wp_al0 (y := zX6_count) dX6_count_186, wp_getf (y := zX6_count) kF6_9 dX6_count_187, wp_bipush (y := zX6_count) (nI 9) kb_9 dX6_count_190, wp_il1 (y := zX6_count) dX6_count_192, wp_iadd (y := zX6_count) dX6_count_193, wp_bipush (y := zX6_count) (nI 10) kb_10 dX6_count_194, wp_isub (y := zX6_count) dX6_count_196, wp_iald (y := zX6_count) dX6_count_197, wp_goto (y := zX6_count) 202 (by decide) dX6_count_198, wp_ireti (y := zX6_count) rfl dX6_count_202, O.oc, O.g0, O.g1, O.g2, O.g3, O.g4, O.g5, O.g6, O.g7, O.g9, O.g10, O.g11, O.p0, O.p7, O.a1, O.a2, O.a3, O.a4, O.a5, O.a6, O.a7, O.a8, O.a9, ee, ex, ex2, i11, c11, v11]
                            exact mt_ro g0 rfl (RO.refl _ _) rfl R0 J
                          · rw [if_neg w12]
                            by_cases w13 : what = nI 13
                            · subst w13
                              rw [if_pos rfl, wp_tsIn (y := zX6_count) 172 dX6_count_6 (by decide) rfl (by decide)]
                              have ee : mm_isin (nI 13).toInt64 11 14 = nI 1 := by decide
                              have ex : nI 9 + nI 13 - nI 10 = nI 12 := by decide
                              have ex2 : nI (9 + 13) - nI 10 = nI 12 := by decide
                              simp (disch := first | omega | assumption) only [mm_op_some, true_and, and_true, mm_rc_some, mm_rc_none, pk_mul, nI_add, mm_in_t, nI_clamp, ok0, ok1, ok2, ok3, ok4, n1_0, n0_0, nI_le_, nI_lt_, if_true, if_false, not_true, not_false_eq_true, ce_lt, ce_cl, hf_lt, hf_cl, n0_zz, n1_zz, bI_zz, true_and, wp_il1 (y := zX6_count) dX6_count_172, wp_i2l (y := zX6_count) dX6_count_173, wp_ldc2 (y := zX6_count) kL6_326 dX6_count_174, wp_ldc2 (y := zX6_count) kL6_328 dX6_count_177, wp_in (y := zX6_count) rfl kP6_48 (by decide) dX6_count_180, wp_if_eq (y := zX6_count) 201 (by decide) dX6_count_183, wp_al0 (y := zX6_count) dX6_count_186, wp_getf (y := zX6_count) kF6_9 dX6_count_187, wp_bipush (y := zX6_count) (nI 9) kb_9 dX6_count_190, wp_il1 (y := zX6_count) dX6_count_192, wp_iadd (y := zX6_count) dX6_count_193, wp_bipush (y := zX6_count) (nI 10) kb_10 dX6_count_194, wp_isub (y := zX6_count) dX6_count_196, wp_iald (y := zX6_count) dX6_count_197, wp_goto (y := zX6_count) 202 (by decide) dX6_count_198, wp_ireti (y := zX6_count) rfl dX6_count_202, O.oc, O.g0, O.g1, O.g2, O.g3, O.g4, O.g5, O.g6, O.g7, O.g9, O.g10, O.g11, O.p0, O.p7, O.a1, O.a2, O.a3, O.a4, O.a5, O.a6, O.a7, O.a8, O.a9, ee, ex, ex2, i12, c12, v12]
                              exact mt_ro g0 rfl (RO.refl _ _) rfl R0 J
                            · rw [if_neg w13]
                              by_cases w14 : what = nI 14
                              · subst w14
                                rw [if_pos rfl, wp_tsIn (y := zX6_count) 172 dX6_count_6 (by decide) rfl (by decide)]
                                have ee : mm_isin (nI 14).toInt64 11 14 = nI 1 := by decide
                                have ex : nI 9 + nI 14 - nI 10 = nI 13 := by decide
                                have ex2 : nI (9 + 14) - nI 10 = nI 13 := by decide
                                simp (disch := first | omega | assumption) only [mm_op_some, true_and, and_true, mm_rc_some, mm_rc_none, pk_mul, nI_add, mm_in_t, nI_clamp, ok0, ok1, ok2, ok3, ok4, n1_0, n0_0, nI_le_, nI_lt_, if_true, if_false, not_true, not_false_eq_true, ce_lt, ce_cl, hf_lt, hf_cl, n0_zz, n1_zz, bI_zz, true_and, wp_il1 (y := zX6_count) dX6_count_172, wp_i2l (y := zX6_count) dX6_count_173, wp_ldc2 (y := zX6_count) kL6_326 dX6_count_174, wp_ldc2 (y := zX6_count) kL6_328 dX6_count_177, wp_in (y := zX6_count) rfl kP6_48 (by decide) dX6_count_180, wp_if_eq (y := zX6_count) 201 (by decide) dX6_count_183, wp_al0 (y := zX6_count) dX6_count_186, wp_getf (y := zX6_count) kF6_9 dX6_count_187, wp_bipush (y := zX6_count) (nI 9) kb_9 dX6_count_190, wp_il1 (y := zX6_count) dX6_count_192, wp_iadd (y := zX6_count) dX6_count_193, wp_bipush (y := zX6_count) (nI 10) kb_10 dX6_count_194, wp_isub (y := zX6_count) dX6_count_196, wp_iald (y := zX6_count) dX6_count_197, wp_goto (y := zX6_count) 202 (by decide) dX6_count_198, wp_ireti (y := zX6_count) rfl dX6_count_202, O.oc, O.g0, O.g1, O.g2, O.g3, O.g4, O.g5, O.g6, O.g7, O.g9, O.g10, O.g11, O.p0, O.p7, O.a1, O.a2, O.a3, O.a4, O.a5, O.a6, O.a7, O.a8, O.a9, ee, ex, ex2, i13, c13, v13]
                                exact mt_ro g0 rfl (RO.refl _ _) rfl R0 J
                              · rw [if_neg w14]
                                by_cases w15 : what = nI 15
                                · subst w15
                                  rw [if_pos rfl, wp_tsIn (y := zX6_count) 164 dX6_count_6 (by decide) rfl (by decide)]
                                  simp (disch := first | omega | assumption) only [mm_op_some, true_and, and_true, mm_rc_some, mm_rc_none, pk_mul, nI_add, mm_in_t, nI_clamp, ok0, ok1, ok2, ok3, ok4, n1_0, n0_0, nI_le_, nI_lt_, if_true, if_false, not_true, not_false_eq_true, ce_lt, ce_cl, hf_lt, hf_cl, n0_zz, n1_zz, bI_zz, true_and, wp_al0 (y := zX6_count) dX6_count_164, wp_getf (y := zX6_count) kF6_9 dX6_count_165, wp_bipush (y := zX6_count) (nI 7) kb_7 dX6_count_168, wp_iald (y := zX6_count) dX6_count_170, wp_ireti (y := zX6_count) rfl dX6_count_171, O.oc, O.g0, O.g1, O.g2, O.g3, O.g4, O.g5, O.g6, O.g7, O.g9, O.g10, O.g11, O.p0, O.p7, O.a1, O.a2, O.a3, O.a4, O.a5, O.a6, O.a7, O.a8, O.a9, i7, c7, v7]
                                  exact mt_ro g0 rfl (RO.refl _ _) rfl R0 J
                                · rw [if_neg w15]
                                  have hts : what.toInt < 0 ∨ 15 < what.toInt := by
                                    rcases Int.lt_or_le what.toInt 0 with q | q
                                    · exact Or.inl q
                                    · rcases Int.lt_or_le 15 what.toInt with q2 | q2
                                      · exact Or.inr q2
                                      · exfalso
                                        have hh : ∀ j : Nat, j < 16 → what.toInt = j → what = nI j := fun j hj e => Int32.toInt_inj.mp (by rw [e, nI_toInt (by omega)])
                                        have : what.toInt = 0 ∨ what.toInt = 1 ∨ what.toInt = 2 ∨ what.toInt = 3 ∨ what.toInt = 4 ∨ what.toInt = 5 ∨ what.toInt = 6 ∨ what.toInt = 7 ∨ what.toInt = 8 ∨ what.toInt = 9 ∨ what.toInt = 10 ∨ what.toInt = 11 ∨ what.toInt = 12 ∨ what.toInt = 13 ∨ what.toInt = 14 ∨ what.toInt = 15 := by omega
                                        rcases this with e | e | e | e | e | e | e | e | e | e | e | e | e | e | e | e
                                        · exact w0 (hh 0 (by omega) e)
                                        · exact w1 (hh 1 (by omega) e)
                                        · exact w2 (hh 2 (by omega) e)
                                        · exact w3 (hh 3 (by omega) e)
                                        · exact w4 (hh 4 (by omega) e)
                                        · exact w5 (hh 5 (by omega) e)
                                        · exact w6 (hh 6 (by omega) e)
                                        · exact w7 (hh 7 (by omega) e)
                                        · exact w8 (hh 8 (by omega) e)
                                        · exact w9 (hh 9 (by omega) e)
                                        · exact w10 (hh 10 (by omega) e)
                                        · exact w11 (hh 11 (by omega) e)
                                        · exact w12 (hh 12 (by omega) e)
                                        · exact w13 (hh 13 (by omega) e)
                                        · exact w14 (hh 14 (by omega) e)
                                        · exact w15 (hh 15 (by omega) e)
                                  rw [wp_tsOut (y := zX6_count) 172 dX6_count_6 (by decide) hts]
                                  have ee : mm_isin what.toInt64 11 14 = nI 0 := isin_f (fun q => by
                                    have z1 : (11 : Int64).toInt = 11 := rfl
                                    have z2 : (14 : Int64).toInt = 14 := rfl
                                    rw [z1, z2] at q
                                    omega)
                                  simp (disch := first | omega | assumption) only [mm_op_some, true_and, and_true, mm_rc_some, mm_rc_none, pk_mul, nI_add, mm_in_t, nI_clamp, ok0, ok1, ok2, ok3, ok4, n1_0, n0_0, nI_le_, nI_lt_, if_true, if_false, not_true, not_false_eq_true, ce_lt, ce_cl, hf_lt, hf_cl, n0_zz, n1_zz, bI_zz, true_and, wp_il1 (y := zX6_count) dX6_count_172, wp_i2l (y := zX6_count) dX6_count_173, wp_ldc2 (y := zX6_count) kL6_326 dX6_count_174, wp_ldc2 (y := zX6_count) kL6_328 dX6_count_177, wp_in (y := zX6_count) rfl kP6_48 (by decide) dX6_count_180, wp_if_eq (y := zX6_count) 201 (by decide) dX6_count_183, wp_iconst (y := zX6_count) ((-1)) ki_m1 dX6_count_201, wp_ireti (y := zX6_count) rfl dX6_count_202, O.oc, O.g0, O.g1, O.g2, O.g3, O.g4, O.g5, O.g6, O.g7, O.g9, O.g10, O.g11, O.p0, O.p7, O.a1, O.a2, O.a3, O.a4, O.a5, O.a6, O.a7, O.a8, O.a9, ee]
                                  exact mt_ro g0 rfl (RO.refl _ _) rfl R0 J
end MCO
