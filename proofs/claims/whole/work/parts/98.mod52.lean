theorem isin_ab {x lo hi : Int32} {l h : Int64} (e1 : l.toInt = lo.toInt) (e2 : h.toInt = hi.toInt) (q1 : ¬ x < lo) (q2 : ¬ hi < x) : mm_isin x.toInt64 l h = nI 1 := isin_t (by
  rw [Int32.lt_iff_toInt_lt] at q1 q2
  omega)
theorem isin_an {x lo hi : Int32} {l h : Int64} (e1 : l.toInt = lo.toInt) (e2 : h.toInt = hi.toInt) (q : x < lo ∨ hi < x) : mm_isin x.toInt64 l h = nI 0 := isin_f (by
  rw [Int32.lt_iff_toInt_lt, Int32.lt_iff_toInt_lt] at q
  omega)
section MRD
variable {sh : mm_Sh} {m : Nat} {M : Ms} {μ : mm_U} {s : Fo} {Q : Option Value → mm_U → Prop}
theorem m_rounds (O : MoSh sh m) (R : RepM s μ m) (J : Inv s.1) (g0 : μ m 7 = nI 0) (x what : Int32) : cl sh zX6_rounds [.ref m, .int x, .int what] μ (MT m μ (a_rounds s x what, s)) := by
  have R0 := R.mu0 (nI 0)
  have A := R0.1
  show wp sh zX6_rounds 0 [.ref m, .int x, .int what, .null] [] μ _
  have fin : ∀ v, MT m μ (v, s) (some (.int v)) (mu μ m (upd (μ m) 0 (nI 0))) := fun v => mt_ro g0 rfl (RO.refl _ _) rfl R0 J
  unfold a_rounds
  cases ex : waO s.1 x with
  | none =>
    have E1 : ∀ Q', cl sh zX6_isWall [.ref m, .int x] (mu μ m (upd (μ m) 0 (nI 0))) Q' = Q' (some (.int (nI 0))) (mu μ m (upd (μ m) 0 (nI 0))) := fun Q' => m_isWallN O A ex
    have fin := fin (-2147483648)
    dsimp only
    generalize MT m μ ((-2147483648 : Int32), s) = QQ at fin ⊢
    simp (disch := first | omega | assumption) only [mm_op_some, true_and, and_true, mm_rc_some, mm_rc_none, pk_mul, nI_add, mm_in_t, nI_clamp, ok0, ok1, ok2, ok3, ok4, n1_0, n0_0, nI_le_, nI_lt_, if_true, if_false, not_true, not_false_eq_true, ce_lt, ce_cl, hf_lt, hf_cl, n0_zz, wp_al0 (y := zX6_rounds) dX6_rounds_0, wp_iconst (y := zX6_rounds) (nI 0) ki_0 dX6_rounds_1, wp_putf (y := zX6_rounds) kF6_44 rfl dX6_rounds_2, wp_al0 (y := zX6_rounds) dX6_rounds_5, wp_il1 (y := zX6_rounds) dX6_rounds_6, wp_cv1 (y := zX6_rounds) kM6_80 (by decide) dX6_rounds_7, (show yo zX6_isWall = 6 from rfl), wp_if_eq (y := zX6_rounds) 23 (by decide) dX6_rounds_10, wp_ldc (y := zX6_rounds) kC6_252 dX6_rounds_23, wp_ireti (y := zX6_rounds) rfl dX6_rounds_25, O.oc, O.g0, O.g1, O.g2, O.g3, O.g4, O.g5, O.g6, O.g7, O.g9, O.g10, O.g11, O.p0, O.p7, O.a1, O.a2, O.a3, O.a4, O.a5, O.a6, O.a7, O.a8, O.a9, E1]
    exact fin
  | some w =>
    obtain ⟨rfl, hl⟩ := waO_some ex
    have wb := w.isLt
    have E1 : ∀ Q', cl sh zX6_isWall [.ref m, .int (nI w.val)] (mu μ m (upd (μ m) 0 (nI 0))) Q' = Q' (some (.int (nI 1))) (mu μ m (upd (μ m) 0 (nI 0))) := fun Q' => m_isWallS O A J.lnb hl
    have la : LvH s.1 (h0 w) := LvH_h0.mpr hl
    have lb : LvH s.1 (h1 w) := LvH_h1.mpr hl
    have E2 : ∀ Q', cl sh zX6_cellOf [.ref m, .int (nI (2 * w.val))] (mu μ m (upd (μ m) 0 (nI 0))) Q' = Q' (some (.int (nI (ow s.1 (h0 w)).val))) (mu μ m (upd (μ m) 0 (nI 0))) := fun Q' => m_cellOf O A (h0 w) la
    have E3 : ∀ Q', cl sh zX6_over [.ref m, .int (nI (2 * w.val))] (mu μ m (upd (μ m) 0 (nI 0))) Q' = Q' (some (.int (nI (ow s.1 (h1 w)).val))) (mu μ m (upd (μ m) 0 (nI 0))) := fun Q' => by rw [← tw_h0]; exact m_over O A (h0 w) la
    have x0 := (A.1 _ la).2.2.2.1
    have y0 := (A.1 _ la).2.2.2.2
    have x1 := (A.1 _ lb).2.2.2.1
    have y1 := (A.1 _ lb).2.2.2.2
    rw [h0_val] at x0 y0
    rw [h1_val] at x1 y1
    have b0 := (ow s.1 (h0 w)).isLt
    have b1 := (ow s.1 (h1 w)).isLt
    dsimp only
    by_cases w0 : what = nI 0
    · subst w0
      have i0 : mm_isin (nI 0).toInt64 0 1 = nI 1 := by decide
      rw [if_pos rfl]
      unfold buA
      by_cases lt : (ow s.1 (h0 w)).val < (ow s.1 (h1 w)).val
      · have lt' : ((ow s.1 (h1 w)).val ≤ (ow s.1 (h0 w)).val) = False := eq_false (by omega)
        rw [if_pos lt]
        have fin := fin (rx s.1 (h0 w))
        generalize MT m μ (rx s.1 (h0 w), s) = QQ at fin ⊢
        simp (disch := first | omega | assumption) only [mm_op_some, true_and, and_true, mm_rc_some, mm_rc_none, pk_mul, nI_add, mm_in_t, nI_clamp, ok0, ok1, ok2, ok3, ok4, n1_0, n0_0, nI_le_, nI_lt_, if_true, if_false, not_true, not_false_eq_true, ce_lt, ce_cl, hf_lt, hf_cl, n0_zz, n1_zz, wp_al0 (y := zX6_rounds) dX6_rounds_0, wp_iconst (y := zX6_rounds) (nI 0) ki_0 dX6_rounds_1, wp_putf (y := zX6_rounds) kF6_44 rfl dX6_rounds_2, wp_al0 (y := zX6_rounds) dX6_rounds_5, wp_il1 (y := zX6_rounds) dX6_rounds_6, wp_cv1 (y := zX6_rounds) kM6_80 (by decide) dX6_rounds_7, (show yo zX6_isWall = 6 from rfl), wp_if_eq (y := zX6_rounds) 23 (by decide) dX6_rounds_10, wp_il2 (y := zX6_rounds) dX6_rounds_13, wp_i2l (y := zX6_rounds) dX6_rounds_14, wp_lconst (y := zX6_rounds) (0) kl_0 dX6_rounds_15, wp_lconst (y := zX6_rounds) (1) kl_1 dX6_rounds_16, wp_in (y := zX6_rounds) rfl kP6_48 (by decide) dX6_rounds_17, wp_if_ne (y := zX6_rounds) 26 (by decide) dX6_rounds_20, wp_al0 (y := zX6_rounds) dX6_rounds_26, wp_iconst (y := zX6_rounds) (nI 2) ki_2 dX6_rounds_27, wp_il1 (y := zX6_rounds) dX6_rounds_28, wp_imul (y := zX6_rounds) dX6_rounds_29, wp_cv1 (y := zX6_rounds) kM6_84 (by decide) dX6_rounds_30, (show yo zX6_cellOf = 6 from rfl), wp_al0 (y := zX6_rounds) dX6_rounds_33, wp_iconst (y := zX6_rounds) (nI 2) ki_2 dX6_rounds_34, wp_il1 (y := zX6_rounds) dX6_rounds_35, wp_imul (y := zX6_rounds) dX6_rounds_36, wp_cv1 (y := zX6_rounds) kM6_105 (by decide) dX6_rounds_37, (show yo zX6_over = 6 from rfl), wp_icmp_ge (y := zX6_rounds) 49 (by decide) dX6_rounds_40, wp_iconst (y := zX6_rounds) (nI 2) ki_2 dX6_rounds_43, wp_il1 (y := zX6_rounds) dX6_rounds_44, wp_imul (y := zX6_rounds) dX6_rounds_45, wp_goto (y := zX6_rounds) 54 (by decide) dX6_rounds_46, wp_is3 (y := zX6_rounds) dX6_rounds_54, wp_al0 (y := zX6_rounds) dX6_rounds_55, wp_getf (y := zX6_rounds) kF6_9 dX6_rounds_56, wp_il2 (y := zX6_rounds) dX6_rounds_59, wp_if_ne (y := zX6_rounds) 69 (by decide) dX6_rounds_60, wp_sipush (y := zX6_rounds) (nI 880) ks_880 dX6_rounds_63, wp_goto (y := zX6_rounds) 72 (by decide) dX6_rounds_66, wp_il3 (y := zX6_rounds) dX6_rounds_72, wp_iadd (y := zX6_rounds) dX6_rounds_73, wp_iald (y := zX6_rounds) dX6_rounds_74, wp_ireti (y := zX6_rounds) rfl dX6_rounds_75, O.oc, O.g0, O.g1, O.g2, O.g3, O.g4, O.g5, O.g6, O.g7, O.g9, O.g10, O.g11, O.p0, O.p7, O.a1, O.a2, O.a3, O.a4, O.a5, O.a6, O.a7, O.a8, O.a9, E1, E2, E3, i0, lt', x0]
        exact fin
      · have lt' : ((ow s.1 (h1 w)).val ≤ (ow s.1 (h0 w)).val) = True := eq_true (by omega)
        rw [if_neg lt]
        have fin := fin (rx s.1 (h1 w))
        generalize MT m μ (rx s.1 (h1 w), s) = QQ at fin ⊢
        simp (disch := first | omega | assumption) only [mm_op_some, true_and, and_true, mm_rc_some, mm_rc_none, pk_mul, nI_add, mm_in_t, nI_clamp, ok0, ok1, ok2, ok3, ok4, n1_0, n0_0, nI_le_, nI_lt_, if_true, if_false, not_true, not_false_eq_true, ce_lt, ce_cl, hf_lt, hf_cl, n0_zz, n1_zz, wp_al0 (y := zX6_rounds) dX6_rounds_0, wp_iconst (y := zX6_rounds) (nI 0) ki_0 dX6_rounds_1, wp_putf (y := zX6_rounds) kF6_44 rfl dX6_rounds_2, wp_al0 (y := zX6_rounds) dX6_rounds_5, wp_il1 (y := zX6_rounds) dX6_rounds_6, wp_cv1 (y := zX6_rounds) kM6_80 (by decide) dX6_rounds_7, (show yo zX6_isWall = 6 from rfl), wp_if_eq (y := zX6_rounds) 23 (by decide) dX6_rounds_10, wp_il2 (y := zX6_rounds) dX6_rounds_13, wp_i2l (y := zX6_rounds) dX6_rounds_14, wp_lconst (y := zX6_rounds) (0) kl_0 dX6_rounds_15, wp_lconst (y := zX6_rounds) (1) kl_1 dX6_rounds_16, wp_in (y := zX6_rounds) rfl kP6_48 (by decide) dX6_rounds_17, wp_if_ne (y := zX6_rounds) 26 (by decide) dX6_rounds_20, wp_al0 (y := zX6_rounds) dX6_rounds_26, wp_iconst (y := zX6_rounds) (nI 2) ki_2 dX6_rounds_27, wp_il1 (y := zX6_rounds) dX6_rounds_28, wp_imul (y := zX6_rounds) dX6_rounds_29, wp_cv1 (y := zX6_rounds) kM6_84 (by decide) dX6_rounds_30, (show yo zX6_cellOf = 6 from rfl), wp_al0 (y := zX6_rounds) dX6_rounds_33, wp_iconst (y := zX6_rounds) (nI 2) ki_2 dX6_rounds_34, wp_il1 (y := zX6_rounds) dX6_rounds_35, wp_imul (y := zX6_rounds) dX6_rounds_36, wp_cv1 (y := zX6_rounds) kM6_105 (by decide) dX6_rounds_37, (show yo zX6_over = 6 from rfl), wp_icmp_ge (y := zX6_rounds) 49 (by decide) dX6_rounds_40, wp_iconst (y := zX6_rounds) (nI 2) ki_2 dX6_rounds_49, wp_il1 (y := zX6_rounds) dX6_rounds_50, wp_imul (y := zX6_rounds) dX6_rounds_51, wp_iconst (y := zX6_rounds) (nI 1) ki_1 dX6_rounds_52, wp_iadd (y := zX6_rounds) dX6_rounds_53, wp_is3 (y := zX6_rounds) dX6_rounds_54, wp_al0 (y := zX6_rounds) dX6_rounds_55, wp_getf (y := zX6_rounds) kF6_9 dX6_rounds_56, wp_il2 (y := zX6_rounds) dX6_rounds_59, wp_if_ne (y := zX6_rounds) 69 (by decide) dX6_rounds_60, wp_sipush (y := zX6_rounds) (nI 880) ks_880 dX6_rounds_63, wp_goto (y := zX6_rounds) 72 (by decide) dX6_rounds_66, wp_il3 (y := zX6_rounds) dX6_rounds_72, wp_iadd (y := zX6_rounds) dX6_rounds_73, wp_iald (y := zX6_rounds) dX6_rounds_74, wp_ireti (y := zX6_rounds) rfl dX6_rounds_75, O.oc, O.g0, O.g1, O.g2, O.g3, O.g4, O.g5, O.g6, O.g7, O.g9, O.g10, O.g11, O.p0, O.p7, O.a1, O.a2, O.a3, O.a4, O.a5, O.a6, O.a7, O.a8, O.a9, E1, E2, E3, i0, lt', x1]
        exact fin
    · rw [if_neg w0]
      by_cases w1 : what = nI 1
      · subst w1
        have i0 : mm_isin (nI 1).toInt64 0 1 = nI 1 := by decide
        rw [if_pos rfl]
        unfold buA
        by_cases lt : (ow s.1 (h0 w)).val < (ow s.1 (h1 w)).val
        · have lt' : ((ow s.1 (h1 w)).val ≤ (ow s.1 (h0 w)).val) = False := eq_false (by omega)
          rw [if_pos lt]
          have fin := fin (ry s.1 (h0 w))
          generalize MT m μ (ry s.1 (h0 w), s) = QQ at fin ⊢
          simp (disch := first | omega | assumption) only [mm_op_some, true_and, and_true, mm_rc_some, mm_rc_none, pk_mul, nI_add, mm_in_t, nI_clamp, ok0, ok1, ok2, ok3, ok4, n1_0, n0_0, nI_le_, nI_lt_, if_true, if_false, not_true, not_false_eq_true, ce_lt, ce_cl, hf_lt, hf_cl, n0_zz, n1_zz, wp_al0 (y := zX6_rounds) dX6_rounds_0, wp_iconst (y := zX6_rounds) (nI 0) ki_0 dX6_rounds_1, wp_putf (y := zX6_rounds) kF6_44 rfl dX6_rounds_2, wp_al0 (y := zX6_rounds) dX6_rounds_5, wp_il1 (y := zX6_rounds) dX6_rounds_6, wp_cv1 (y := zX6_rounds) kM6_80 (by decide) dX6_rounds_7, (show yo zX6_isWall = 6 from rfl), wp_if_eq (y := zX6_rounds) 23 (by decide) dX6_rounds_10, wp_il2 (y := zX6_rounds) dX6_rounds_13, wp_i2l (y := zX6_rounds) dX6_rounds_14, wp_lconst (y := zX6_rounds) (0) kl_0 dX6_rounds_15, wp_lconst (y := zX6_rounds) (1) kl_1 dX6_rounds_16, wp_in (y := zX6_rounds) rfl kP6_48 (by decide) dX6_rounds_17, wp_if_ne (y := zX6_rounds) 26 (by decide) dX6_rounds_20, wp_al0 (y := zX6_rounds) dX6_rounds_26, wp_iconst (y := zX6_rounds) (nI 2) ki_2 dX6_rounds_27, wp_il1 (y := zX6_rounds) dX6_rounds_28, wp_imul (y := zX6_rounds) dX6_rounds_29, wp_cv1 (y := zX6_rounds) kM6_84 (by decide) dX6_rounds_30, (show yo zX6_cellOf = 6 from rfl), wp_al0 (y := zX6_rounds) dX6_rounds_33, wp_iconst (y := zX6_rounds) (nI 2) ki_2 dX6_rounds_34, wp_il1 (y := zX6_rounds) dX6_rounds_35, wp_imul (y := zX6_rounds) dX6_rounds_36, wp_cv1 (y := zX6_rounds) kM6_105 (by decide) dX6_rounds_37, (show yo zX6_over = 6 from rfl), wp_icmp_ge (y := zX6_rounds) 49 (by decide) dX6_rounds_40, wp_iconst (y := zX6_rounds) (nI 2) ki_2 dX6_rounds_43, wp_il1 (y := zX6_rounds) dX6_rounds_44, wp_imul (y := zX6_rounds) dX6_rounds_45, wp_goto (y := zX6_rounds) 54 (by decide) dX6_rounds_46, wp_is3 (y := zX6_rounds) dX6_rounds_54, wp_al0 (y := zX6_rounds) dX6_rounds_55, wp_getf (y := zX6_rounds) kF6_9 dX6_rounds_56, wp_il2 (y := zX6_rounds) dX6_rounds_59, wp_if_ne (y := zX6_rounds) 69 (by decide) dX6_rounds_60, wp_sipush (y := zX6_rounds) (nI 1168) ks_1168 dX6_rounds_69, wp_il3 (y := zX6_rounds) dX6_rounds_72, wp_iadd (y := zX6_rounds) dX6_rounds_73, wp_iald (y := zX6_rounds) dX6_rounds_74, wp_ireti (y := zX6_rounds) rfl dX6_rounds_75, O.oc, O.g0, O.g1, O.g2, O.g3, O.g4, O.g5, O.g6, O.g7, O.g9, O.g10, O.g11, O.p0, O.p7, O.a1, O.a2, O.a3, O.a4, O.a5, O.a6, O.a7, O.a8, O.a9, E1, E2, E3, i0, lt', y0]
          exact fin
        · have lt' : ((ow s.1 (h1 w)).val ≤ (ow s.1 (h0 w)).val) = True := eq_true (by omega)
          rw [if_neg lt]
          have fin := fin (ry s.1 (h1 w))
          generalize MT m μ (ry s.1 (h1 w), s) = QQ at fin ⊢
          simp (disch := first | omega | assumption) only [mm_op_some, true_and, and_true, mm_rc_some, mm_rc_none, pk_mul, nI_add, mm_in_t, nI_clamp, ok0, ok1, ok2, ok3, ok4, n1_0, n0_0, nI_le_, nI_lt_, if_true, if_false, not_true, not_false_eq_true, ce_lt, ce_cl, hf_lt, hf_cl, n0_zz, n1_zz, wp_al0 (y := zX6_rounds) dX6_rounds_0, wp_iconst (y := zX6_rounds) (nI 0) ki_0 dX6_rounds_1, wp_putf (y := zX6_rounds) kF6_44 rfl dX6_rounds_2, wp_al0 (y := zX6_rounds) dX6_rounds_5, wp_il1 (y := zX6_rounds) dX6_rounds_6, wp_cv1 (y := zX6_rounds) kM6_80 (by decide) dX6_rounds_7, (show yo zX6_isWall = 6 from rfl), wp_if_eq (y := zX6_rounds) 23 (by decide) dX6_rounds_10, wp_il2 (y := zX6_rounds) dX6_rounds_13, wp_i2l (y := zX6_rounds) dX6_rounds_14, wp_lconst (y := zX6_rounds) (0) kl_0 dX6_rounds_15, wp_lconst (y := zX6_rounds) (1) kl_1 dX6_rounds_16, wp_in (y := zX6_rounds) rfl kP6_48 (by decide) dX6_rounds_17, wp_if_ne (y := zX6_rounds) 26 (by decide) dX6_rounds_20, wp_al0 (y := zX6_rounds) dX6_rounds_26, wp_iconst (y := zX6_rounds) (nI 2) ki_2 dX6_rounds_27, wp_il1 (y := zX6_rounds) dX6_rounds_28, wp_imul (y := zX6_rounds) dX6_rounds_29, wp_cv1 (y := zX6_rounds) kM6_84 (by decide) dX6_rounds_30, (show yo zX6_cellOf = 6 from rfl), wp_al0 (y := zX6_rounds) dX6_rounds_33, wp_iconst (y := zX6_rounds) (nI 2) ki_2 dX6_rounds_34, wp_il1 (y := zX6_rounds) dX6_rounds_35, wp_imul (y := zX6_rounds) dX6_rounds_36, wp_cv1 (y := zX6_rounds) kM6_105 (by decide) dX6_rounds_37, (show yo zX6_over = 6 from rfl), wp_icmp_ge (y := zX6_rounds) 49 (by decide) dX6_rounds_40, wp_iconst (y := zX6_rounds) (nI 2) ki_2 dX6_rounds_49, wp_il1 (y := zX6_rounds) dX6_rounds_50, wp_imul (y := zX6_rounds) dX6_rounds_51, wp_iconst (y := zX6_rounds) (nI 1) ki_1 dX6_rounds_52, wp_iadd (y := zX6_rounds) dX6_rounds_53, wp_is3 (y := zX6_rounds) dX6_rounds_54, wp_al0 (y := zX6_rounds) dX6_rounds_55, wp_getf (y := zX6_rounds) kF6_9 dX6_rounds_56, wp_il2 (y := zX6_rounds) dX6_rounds_59, wp_if_ne (y := zX6_rounds) 69 (by decide) dX6_rounds_60, wp_sipush (y := zX6_rounds) (nI 1168) ks_1168 dX6_rounds_69, wp_il3 (y := zX6_rounds) dX6_rounds_72, wp_iadd (y := zX6_rounds) dX6_rounds_73, wp_iald (y := zX6_rounds) dX6_rounds_74, wp_ireti (y := zX6_rounds) rfl dX6_rounds_75, O.oc, O.g0, O.g1, O.g2, O.g3, O.g4, O.g5, O.g6, O.g7, O.g9, O.g10, O.g11, O.p0, O.p7, O.a1, O.a2, O.a3, O.a4, O.a5, O.a6, O.a7, O.a8, O.a9, E1, E2, E3, i0, lt', y1]
          exact fin
      · rw [if_neg w1]
        have i0 : mm_isin what.toInt64 0 1 = nI 0 := isin_f (fun q => by
          have z0 : (0 : Int64).toInt = 0 := rfl
          have z1 : (1 : Int64).toInt = 1 := rfl
          rw [z0, z1] at q
          have : what.toInt = 0 ∨ what.toInt = 1 := by omega
          rcases this with e | e
          · exact w0 (Int32.toInt_inj.mp (by rw [e]; rfl))
          · exact w1 (Int32.toInt_inj.mp (by rw [e]; rfl)))
        have fin := fin (-2147483648)
        generalize MT m μ ((-2147483648 : Int32), s) = QQ at fin ⊢
        simp (disch := first | omega | assumption) only [mm_op_some, true_and, and_true, mm_rc_some, mm_rc_none, pk_mul, nI_add, mm_in_t, nI_clamp, ok0, ok1, ok2, ok3, ok4, n1_0, n0_0, nI_le_, nI_lt_, if_true, if_false, not_true, not_false_eq_true, ce_lt, ce_cl, hf_lt, hf_cl, n0_zz, n1_zz, wp_al0 (y := zX6_rounds) dX6_rounds_0, wp_iconst (y := zX6_rounds) (nI 0) ki_0 dX6_rounds_1, wp_putf (y := zX6_rounds) kF6_44 rfl dX6_rounds_2, wp_al0 (y := zX6_rounds) dX6_rounds_5, wp_il1 (y := zX6_rounds) dX6_rounds_6, wp_cv1 (y := zX6_rounds) kM6_80 (by decide) dX6_rounds_7, (show yo zX6_isWall = 6 from rfl), wp_if_eq (y := zX6_rounds) 23 (by decide) dX6_rounds_10, wp_il2 (y := zX6_rounds) dX6_rounds_13, wp_i2l (y := zX6_rounds) dX6_rounds_14, wp_lconst (y := zX6_rounds) (0) kl_0 dX6_rounds_15, wp_lconst (y := zX6_rounds) (1) kl_1 dX6_rounds_16, wp_in (y := zX6_rounds) rfl kP6_48 (by decide) dX6_rounds_17, wp_if_ne (y := zX6_rounds) 26 (by decide) dX6_rounds_20, wp_ldc (y := zX6_rounds) kC6_252 dX6_rounds_23, wp_ireti (y := zX6_rounds) rfl dX6_rounds_25, O.oc, O.g0, O.g1, O.g2, O.g3, O.g4, O.g5, O.g6, O.g7, O.g9, O.g10, O.g11, O.p0, O.p7, O.a1, O.a2, O.a3, O.a4, O.a5, O.a6, O.a7, O.a8, O.a9, E1, i0]
        exact fin
end MRD
