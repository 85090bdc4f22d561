section MOC
variable {sh : mm_Sh} {m : Nat} {M N : Ms} {μ : mm_U} {s : Fo} {Q : Option Value → mm_U → Prop}
theorem m_wall (O : MoSh sh m) (R : RepM s μ m) (J : Inv s.1) (g0 : μ m 7 = nI 0) (x what : Int32) : cl sh zX6_wall [.ref m, .int x, .int what] μ (MT m μ (a_wall s x what, s)) := by
  have R0 := R.mu0 (nI 0)
  show wp sh zX6_wall 0 [.ref m, .int x, .int what, .null, .null, .null] [] μ _
  unfold a_wall
  cases e : waO s.1 x with
  | none =>
    have E1 : ∀ Q', cl sh zX6_isWall [.ref m, .int x] (mu μ m (upd (μ m) 0 (nI 0))) Q' = Q' (some (.int (nI 0))) (mu μ m (upd (μ m) 0 (nI 0))) := fun Q' => m_isWallN O R0.1 e
    have fin : MT m μ ((-1 : Int32), s) (some (.int (-1))) (mu μ m (upd (μ m) 0 (nI 0))) := mt_ro g0 rfl (RO.refl _ _) rfl R0 J
    generalize MT m μ ((-1 : Int32), s) = QQ at fin ⊢
    simp (disch := first | omega | assumption) only [mm_op_some, true_and, and_true, mm_rc_some, mm_rc_none, pk_mul, nI_add, mm_in_t, nI_clamp, ok0, ok1, ok2, ok3, ok4, n1_0, n0_0, nI_le_, nI_lt_, if_true, if_false, not_true, not_false_eq_true, ce_lt, ce_cl, hf_lt, hf_cl, n0_zz, wp_al0 (y := zX6_wall) dX6_wall_0, wp_iconst (y := zX6_wall) (nI 0) ki_0 dX6_wall_1, wp_putf (y := zX6_wall) kF6_44 rfl dX6_wall_2, wp_al0 (y := zX6_wall) dX6_wall_5, wp_il1 (y := zX6_wall) dX6_wall_6, wp_cv1 (y := zX6_wall) kM6_80 (by decide) dX6_wall_7, (show yo zX6_isWall = 6 from rfl), wp_if_ne (y := zX6_wall) 15 (by decide) dX6_wall_10, wp_iconst (y := zX6_wall) ((-1)) ki_m1 dX6_wall_13, wp_ireti (y := zX6_wall) rfl dX6_wall_14, O.oc, O.g0, O.g1, O.g2, O.g3, O.g4, O.g5, O.g6, O.g7, O.g9, O.g10, O.g11, O.p0, O.p7, O.a1, O.a2, O.a3, O.a4, O.a5, O.a6, O.a7, O.a8, O.a9, E1]
    exact fin
  | some k =>
    obtain ⟨rfl, hl⟩ := waO_some e
    have la : LvH s.1 (h0 k) := LvH_h0.mpr hl
    have E1 : ∀ Q', cl sh zX6_isWall [.ref m, .int (nI k.val)] (mu μ m (upd (μ m) 0 (nI 0))) Q' = Q' (some (.int (nI 1))) (mu μ m (upd (μ m) 0 (nI 0))) := fun Q' => m_isWallS O R0.1 J.lnb hl
    have E2 : ∀ Q', cl sh zX6_canSwap [.ref m, .int (nI k.val)] (mu μ m (upd (μ m) 0 (nI 0))) Q' = Q' (some (.int (bI (lv s.1 k && can s.1 k)))) (mu μ m (upd (μ m) 0 (nI 0))) := fun Q' => m_canSwapW O R0.1 J k
    have E5 : ∀ Q', cl sh zX6_easing [.ref m, .int (nI k.val)] (mu μ m (upd (μ m) 0 (nI 0))) Q' = Q' (some (.int (ease s.1 k))) (mu μ m (upd (μ m) 0 (nI 0))) := fun Q' => m_easing O R0.1 J k hl
    rw [hl, Bool.true_and] at E2
    have C0 : ∀ Q', cl sh zX6_cellOf [.ref m, .int (nI (2 * k.val))] (mu μ m (upd (μ m) 0 (nI 0))) Q' = Q' (some (.int (nI (ow s.1 (h0 k)).val))) (mu μ m (upd (μ m) 0 (nI 0))) := fun Q' => m_cellOf O R0.1 (h0 k) la
    have C1 : ∀ Q', cl sh zX6_over [.ref m, .int (nI (2 * k.val))] (mu μ m (upd (μ m) 0 (nI 0))) Q' = Q' (some (.int (nI (ow s.1 (h1 k)).val))) (mu μ m (upd (μ m) 0 (nI 0))) := fun Q' => by rw [← tw_h0]; exact m_over O R0.1 (h0 k) la
    have N0 : ∀ Q', cl sh zX6_next [.ref m, .int (nI (2 * k.val))] (mu μ m (upd (μ m) 0 (nI 0))) Q' = Q' (some (.int (nI (nx s.1 (h0 k)).val))) (mu μ m (upd (μ m) 0 (nI 0))) := fun Q' => m_next O R0.1 (h0 k) la
    have P0 : ∀ Q', cl sh zX6_before [.ref m, .int (nI (2 * k.val))] (mu μ m (upd (μ m) 0 (nI 0))) Q' = Q' (some (.int (nI (pv s.1 (h0 k)).val))) (mu μ m (upd (μ m) 0 (nI 0))) := fun Q' => m_before O R0.1 (h0 k) la
    have V0 : ∀ Q', cl sh zX6_over [.ref m, .int (nI (nx s.1 (h0 k)).val)] (mu μ m (upd (μ m) 0 (nI 0))) Q' = Q' (some (.int (nI (en s.1 (h0 k)).val))) (mu μ m (upd (μ m) 0 (nI 0))) := fun Q' => m_over O R0.1 _ (J.nl la)
    have V1 : ∀ Q', cl sh zX6_over [.ref m, .int (nI (pv s.1 (h0 k)).val)] (mu μ m (upd (μ m) 0 (nI 0))) Q' = Q' (some (.int (nI (en s.1 (h1 k)).val))) (mu μ m (upd (μ m) 0 (nI 0))) := fun Q' => by
      rw [← tw_h0, ← J.endp la]
      exact m_over O R0.1 _ (J.pl la)
    have Emin : ∀ a c Q', cl sh zX6_lesser [.int a, .int c] (mu μ m (upd (μ m) 0 (nI 0))) Q' = Q' (some (.int (imin a c))) (mu μ m (upd (μ m) 0 (nI 0))) := fun a c Q' => m_lesser a c
    have Emax : ∀ a c Q', cl sh zX6_greater [.int a, .int c] (mu μ m (upd (μ m) 0 (nI 0))) Q' = Q' (some (.int (imax a c))) (mu μ m (upd (μ m) 0 (nI 0))) := fun a c Q' => m_greater a c
    have rl : (mu μ m (upd (μ m) 0 (nI 0))) (m + 1) (1456 + k.val) = ln s.1 k := R0.1.lnv hl
    have pre : ∀ QQ, wp sh zX6_wall 0 [.ref m, .int (nI k.val), .int what, .null, .null, .null] [] μ QQ = wp sh zX6_wall 42 [.ref m, .int (nI k.val), .int what, .int (nI (2 * k.val)), .int (nI (en s.1 (h0 k)).val), .int (nI (en s.1 (h1 k)).val)] [.int what] (mu μ m (upd (μ m) 0 (nI 0))) QQ := by
      intro QQ
      simp (disch := first | omega | assumption) only [mm_op_some, true_and, and_true, mm_rc_some, mm_rc_none, pk_mul, nI_add, mm_in_t, nI_clamp, ok0, ok1, ok2, ok3, ok4, n1_0, n0_0, nI_le_, nI_lt_, if_true, if_false, not_true, not_false_eq_true, ce_lt, ce_cl, hf_lt, hf_cl, n1_zz, wp_al0 (y := zX6_wall) dX6_wall_0, wp_iconst (y := zX6_wall) (nI 0) ki_0 dX6_wall_1, wp_putf (y := zX6_wall) kF6_44 rfl dX6_wall_2, wp_al0 (y := zX6_wall) dX6_wall_5, wp_il1 (y := zX6_wall) dX6_wall_6, wp_cv1 (y := zX6_wall) kM6_80 (by decide) dX6_wall_7, (show yo zX6_isWall = 6 from rfl), wp_if_ne (y := zX6_wall) 15 (by decide) dX6_wall_10, wp_iconst (y := zX6_wall) (nI 2) ki_2 dX6_wall_15, wp_il1 (y := zX6_wall) dX6_wall_16, wp_imul (y := zX6_wall) dX6_wall_17, wp_is3 (y := zX6_wall) dX6_wall_18, wp_al0 (y := zX6_wall) dX6_wall_19, wp_al0 (y := zX6_wall) dX6_wall_20, wp_il3 (y := zX6_wall) dX6_wall_21, wp_cv1 (y := zX6_wall) kM6_90 (by decide) dX6_wall_22, (show yo zX6_next = 6 from rfl), wp_cv1 (y := zX6_wall) kM6_105 (by decide) dX6_wall_25, (show yo zX6_over = 6 from rfl), wp_is4 (y := zX6_wall) dX6_wall_28, wp_al0 (y := zX6_wall) dX6_wall_30, wp_al0 (y := zX6_wall) dX6_wall_31, wp_il3 (y := zX6_wall) dX6_wall_32, wp_cv1 (y := zX6_wall) kM6_96 (by decide) dX6_wall_33, (show yo zX6_before = 6 from rfl), wp_cv1 (y := zX6_wall) kM6_105 (by decide) dX6_wall_36, (show yo zX6_over = 6 from rfl), wp_is5 (y := zX6_wall) dX6_wall_39, wp_il2 (y := zX6_wall) dX6_wall_41, O.oc, O.g0, O.g1, O.g2, O.g3, O.g4, O.g5, O.g6, O.g7, O.g9, O.g10, O.g11, O.p0, O.p7, O.a1, O.a2, O.a3, O.a4, O.a5, O.a6, O.a7, O.a8, O.a9, E1, N0, P0, V0, V1]
    rw [pre]
    dsimp only
    by_cases w0 : what = nI 0
    · subst w0
      rw [if_pos rfl, wp_tsIn (y := zX6_wall) 84 dX6_wall_42 (by decide) rfl (by decide)]
      simp (disch := first | omega | assumption) only [mm_op_some, true_and, and_true, mm_rc_some, mm_rc_none, pk_mul, nI_add, mm_in_t, nI_clamp, ok0, ok1, ok2, ok3, ok4, n1_0, n0_0, nI_le_, nI_lt_, if_true, if_false, not_true, not_false_eq_true, ce_lt, ce_cl, hf_lt, hf_cl, n0_zz, n1_zz, bI_zz, true_and, wp_al0 (y := zX6_wall) dX6_wall_84, wp_il3 (y := zX6_wall) dX6_wall_85, wp_cv1 (y := zX6_wall) kM6_84 (by decide) dX6_wall_86, (show yo zX6_cellOf = 6 from rfl), wp_al0 (y := zX6_wall) dX6_wall_89, wp_il3 (y := zX6_wall) dX6_wall_90, wp_cv1 (y := zX6_wall) kM6_105 (by decide) dX6_wall_91, (show yo zX6_over = 6 from rfl), wp_cs2 (y := zX6_wall) kM6_255 (by decide) dX6_wall_94, wp_ireti (y := zX6_wall) rfl dX6_wall_97, O.oc, O.g0, O.g1, O.g2, O.g3, O.g4, O.g5, O.g6, O.g7, O.g9, O.g10, O.g11, O.p0, O.p7, O.a1, O.a2, O.a3, O.a4, O.a5, O.a6, O.a7, O.a8, O.a9, C0, C1, Emin]
      exact mt_ro g0 rfl (RO.refl _ _) rfl R0 J
    · rw [if_neg w0]
      by_cases w1 : what = nI 1
      · subst w1
        rw [if_pos rfl, wp_tsIn (y := zX6_wall) 98 dX6_wall_42 (by decide) rfl (by decide)]
        simp (disch := first | omega | assumption) only [mm_op_some, true_and, and_true, mm_rc_some, mm_rc_none, pk_mul, nI_add, mm_in_t, nI_clamp, ok0, ok1, ok2, ok3, ok4, n1_0, n0_0, nI_le_, nI_lt_, if_true, if_false, not_true, not_false_eq_true, ce_lt, ce_cl, hf_lt, hf_cl, n0_zz, n1_zz, bI_zz, true_and, wp_al0 (y := zX6_wall) dX6_wall_98, wp_il3 (y := zX6_wall) dX6_wall_99, wp_cv1 (y := zX6_wall) kM6_84 (by decide) dX6_wall_100, (show yo zX6_cellOf = 6 from rfl), wp_al0 (y := zX6_wall) dX6_wall_103, wp_il3 (y := zX6_wall) dX6_wall_104, wp_cv1 (y := zX6_wall) kM6_105 (by decide) dX6_wall_105, (show yo zX6_over = 6 from rfl), wp_cs2 (y := zX6_wall) kM6_258 (by decide) dX6_wall_108, wp_ireti (y := zX6_wall) rfl dX6_wall_111, O.oc, O.g0, O.g1, O.g2, O.g3, O.g4, O.g5, O.g6, O.g7, O.g9, O.g10, O.g11, O.p0, O.p7, O.a1, O.a2, O.a3, O.a4, O.a5, O.a6, O.a7, O.a8, O.a9, C0, C1, Emax]
        exact mt_ro g0 rfl (RO.refl _ _) rfl R0 J
      · rw [if_neg w1]
        by_cases w2 : what = nI 2
        · subst w2
          rw [if_pos rfl, wp_tsIn (y := zX6_wall) 112 dX6_wall_42 (by decide) rfl (by decide)]
          simp (disch := first | omega | assumption) only [mm_op_some, true_and, and_true, mm_rc_some, mm_rc_none, pk_mul, nI_add, mm_in_t, nI_clamp, ok0, ok1, ok2, ok3, ok4, n1_0, n0_0, nI_le_, nI_lt_, if_true, if_false, not_true, not_false_eq_true, ce_lt, ce_cl, hf_lt, hf_cl, n0_zz, n1_zz, bI_zz, true_and, wp_il4 (y := zX6_wall) dX6_wall_112, wp_il5 (y := zX6_wall) dX6_wall_114, wp_cs2 (y := zX6_wall) kM6_255 (by decide) dX6_wall_116, wp_ireti (y := zX6_wall) rfl dX6_wall_119, O.oc, O.g0, O.g1, O.g2, O.g3, O.g4, O.g5, O.g6, O.g7, O.g9, O.g10, O.g11, O.p0, O.p7, O.a1, O.a2, O.a3, O.a4, O.a5, O.a6, O.a7, O.a8, O.a9, Emin]
          exact mt_ro g0 rfl (RO.refl _ _) rfl R0 J
        · rw [if_neg w2]
          by_cases w3 : what = nI 3
          · subst w3
            rw [if_pos rfl, wp_tsIn (y := zX6_wall) 120 dX6_wall_42 (by decide) rfl (by decide)]
            simp (disch := first | omega | assumption) only [mm_op_some, true_and, and_true, mm_rc_some, mm_rc_none, pk_mul, nI_add, mm_in_t, nI_clamp, ok0, ok1, ok2, ok3, ok4, n1_0, n0_0, nI_le_, nI_lt_, if_true, if_false, not_true, not_false_eq_true, ce_lt, ce_cl, hf_lt, hf_cl, n0_zz, n1_zz, bI_zz, true_and, wp_il4 (y := zX6_wall) dX6_wall_120, wp_il5 (y := zX6_wall) dX6_wall_122, wp_cs2 (y := zX6_wall) kM6_258 (by decide) dX6_wall_124, wp_ireti (y := zX6_wall) rfl dX6_wall_127, O.oc, O.g0, O.g1, O.g2, O.g3, O.g4, O.g5, O.g6, O.g7, O.g9, O.g10, O.g11, O.p0, O.p7, O.a1, O.a2, O.a3, O.a4, O.a5, O.a6, O.a7, O.a8, O.a9, Emax]
            exact mt_ro g0 rfl (RO.refl _ _) rfl R0 J
          · rw [if_neg w3]
            by_cases w4 : what = nI 4
            · subst w4
              rw [if_pos rfl, wp_tsIn (y := zX6_wall) 128 dX6_wall_42 (by decide) rfl (by decide)]
              simp (disch := first | omega | assumption) only [mm_op_some, true_and, and_true, mm_rc_some, mm_rc_none, pk_mul, nI_add, mm_in_t, nI_clamp, ok0, ok1, ok2, ok3, ok4, n1_0, n0_0, nI_le_, nI_lt_, if_true, if_false, not_true, not_false_eq_true, ce_lt, ce_cl, hf_lt, hf_cl, n0_zz, n1_zz, bI_zz, true_and, wp_al0 (y := zX6_wall) dX6_wall_128, wp_getf (y := zX6_wall) kF6_9 dX6_wall_129, wp_sipush (y := zX6_wall) (nI 1456) ks_1456 dX6_wall_132, wp_il1 (y := zX6_wall) dX6_wall_135, wp_iadd (y := zX6_wall) dX6_wall_136, wp_iald (y := zX6_wall) dX6_wall_137, wp_ireti (y := zX6_wall) rfl dX6_wall_138, O.oc, O.g0, O.g1, O.g2, O.g3, O.g4, O.g5, O.g6, O.g7, O.g9, O.g10, O.g11, O.p0, O.p7, O.a1, O.a2, O.a3, O.a4, O.a5, O.a6, O.a7, O.a8, O.a9, rl, wa_lt, wa_cl]
              exact mt_ro g0 rfl (RO.refl _ _) rfl R0 J
            · rw [if_neg w4]
              by_cases w5 : what = nI 5
              · subst w5
                rw [if_pos rfl, wp_tsIn (y := zX6_wall) 139 dX6_wall_42 (by decide) rfl (by decide)]
                cases hc : can s.1 k with
                | false =>
                  rw [hc] at E2
                  simp (disch := first | omega | assumption) only [mm_op_some, true_and, and_true, mm_rc_some, mm_rc_none, pk_mul, nI_add, mm_in_t, nI_clamp, ok0, ok1, ok2, ok3, ok4, n1_0, n0_0, nI_le_, nI_lt_, if_true, if_false, not_true, not_false_eq_true, ce_lt, ce_cl, hf_lt, hf_cl, n0_zz, n1_zz, bI_zz, true_and, wp_al0 (y := zX6_wall) dX6_wall_139, wp_il1 (y := zX6_wall) dX6_wall_140, wp_cv1 (y := zX6_wall) kM6_147 (by decide) dX6_wall_141, (show yo zX6_canSwap = 6 from rfl), wp_if_eq (y := zX6_wall) 151 (by decide) dX6_wall_144, wp_iconst (y := zX6_wall) (nI 0) ki_0 dX6_wall_151, wp_ireti (y := zX6_wall) rfl dX6_wall_152, O.oc, O.g0, O.g1, O.g2, O.g3, O.g4, O.g5, O.g6, O.g7, O.g9, O.g10, O.g11, O.p0, O.p7, O.a1, O.a2, O.a3, O.a4, O.a5, O.a6, O.a7, O.a8, O.a9, E2, bI_f]
                  exact mt_ro g0 rfl (RO.refl _ _) rfl R0 J
                | true =>
                  rw [hc] at E2
                  simp (disch := first | omega | assumption) only [mm_op_some, true_and, and_true, mm_rc_some, mm_rc_none, pk_mul, nI_add, mm_in_t, nI_clamp, ok0, ok1, ok2, ok3, ok4, n1_0, n0_0, nI_le_, nI_lt_, if_true, if_false, not_true, not_false_eq_true, ce_lt, ce_cl, hf_lt, hf_cl, n0_zz, n1_zz, bI_zz, true_and, wp_al0 (y := zX6_wall) dX6_wall_139, wp_il1 (y := zX6_wall) dX6_wall_140, wp_cv1 (y := zX6_wall) kM6_147 (by decide) dX6_wall_141, (show yo zX6_canSwap = 6 from rfl), wp_if_eq (y := zX6_wall) 151 (by decide) dX6_wall_144, wp_iconst (y := zX6_wall) (nI 1) ki_1 dX6_wall_147, wp_goto (y := zX6_wall) 152 (by decide) dX6_wall_148, wp_ireti (y := zX6_wall) rfl dX6_wall_152, O.oc, O.g0, O.g1, O.g2, O.g3, O.g4, O.g5, O.g6, O.g7, O.g9, O.g10, O.g11, O.p0, O.p7, O.a1, O.a2, O.a3, O.a4, O.a5, O.a6, O.a7, O.a8, O.a9, E2, bI_t]
                  exact mt_ro g0 rfl (RO.refl _ _) rfl R0 J
              · rw [if_neg w5]
                by_cases w6 : what = nI 6
                · subst w6
                  rw [if_pos rfl, wp_tsIn (y := zX6_wall) 153 dX6_wall_42 (by decide) rfl (by decide)]
                  cases hc : can s.1 k with
                  | false =>
                    rw [hc] at E2
                    rw [if_neg (by decide)]
                    simp (disch := first | omega | assumption) only [mm_op_some, true_and, and_true, mm_rc_some, mm_rc_none, pk_mul, nI_add, mm_in_t, nI_clamp, ok0, ok1, ok2, ok3, ok4, n1_0, n0_0, nI_le_, nI_lt_, if_true, if_false, not_true, not_false_eq_true, ce_lt, ce_cl, hf_lt, hf_cl, n0_zz, n1_zz, bI_zz, true_and, wp_al0 (y := zX6_wall) dX6_wall_153, wp_il1 (y := zX6_wall) dX6_wall_154, wp_cv1 (y := zX6_wall) kM6_147 (by decide) dX6_wall_155, (show yo zX6_canSwap = 6 from rfl), wp_if_eq (y := zX6_wall) 173 (by decide) dX6_wall_158, wp_iconst (y := zX6_wall) ((-1)) ki_m1 dX6_wall_173, wp_ireti (y := zX6_wall) rfl dX6_wall_174, O.oc, O.g0, O.g1, O.g2, O.g3, O.g4, O.g5, O.g6, O.g7, O.g9, O.g10, O.g11, O.p0, O.p7, O.a1, O.a2, O.a3, O.a4, O.a5, O.a6, O.a7, O.a8, O.a9, E2, bI_f]
                    exact mt_ro g0 rfl (RO.refl _ _) rfl R0 J
                  | true =>
                    rw [hc] at E2
                    rw [if_pos rfl]
                    simp (disch := first | omega | assumption) only [mm_op_some, true_and, and_true, mm_rc_some, mm_rc_none, pk_mul, nI_add, mm_in_t, nI_clamp, ok0, ok1, ok2, ok3, ok4, n1_0, n0_0, nI_le_, nI_lt_, if_true, if_false, not_true, not_false_eq_true, ce_lt, ce_cl, hf_lt, hf_cl, n0_zz, n1_zz, bI_zz, true_and, wp_al0 (y := zX6_wall) dX6_wall_153, wp_il1 (y := zX6_wall) dX6_wall_154, wp_cv1 (y := zX6_wall) kM6_147 (by decide) dX6_wall_155, (show yo zX6_canSwap = 6 from rfl), wp_if_eq (y := zX6_wall) 173 (by decide) dX6_wall_158, wp_sipush (y := zX6_wall) (nI 1000) ks_1000 dX6_wall_161, wp_al0 (y := zX6_wall) dX6_wall_164, wp_il1 (y := zX6_wall) dX6_wall_165, wp_cv1 (y := zX6_wall) kM6_150 (by decide) dX6_wall_166, (show yo zX6_easing = 6 from rfl), wp_iadd (y := zX6_wall) dX6_wall_169, wp_goto (y := zX6_wall) 174 (by decide) dX6_wall_170, wp_ireti (y := zX6_wall) rfl dX6_wall_174, O.oc, O.g0, O.g1, O.g2, O.g3, O.g4, O.g5, O.g6, O.g7, O.g9, O.g10, O.g11, O.p0, O.p7, O.a1, O.a2, O.a3, O.a4, O.a5, O.a6, O.a7, O.a8, O.a9, E2, E5, bI_t]
                    exact mt_ro g0 rfl (RO.refl _ _) rfl R0 J
                · rw [if_neg w6]
                  have hts : what.toInt < 0 ∨ 6 < what.toInt := by
                    rcases Int.lt_or_le what.toInt 0 with q | q
                    · exact Or.inl q
                    · rcases Int.lt_or_le 6 what.toInt with q2 | q2
                      · exact Or.inr q2
                      · exfalso
                        have hh : ∀ j : Nat, j < 7 → what.toInt = j → what = nI j := fun j hj e => Int32.toInt_inj.mp (by rw [e, nI_toInt (by omega)])
                        have : what.toInt = 0 ∨ what.toInt = 1 ∨ what.toInt = 2 ∨ what.toInt = 3 ∨ what.toInt = 4 ∨ what.toInt = 5 ∨ what.toInt = 6 := by omega
                        rcases this with e | e | e | e | e | e | e
                        · exact w0 (hh 0 (by omega) e)
                        · exact w1 (hh 1 (by omega) e)
                        · exact w2 (hh 2 (by omega) e)
                        · exact w3 (hh 3 (by omega) e)
                        · exact w4 (hh 4 (by omega) e)
                        · exact w5 (hh 5 (by omega) e)
                        · exact w6 (hh 6 (by omega) e)
                  rw [wp_tsOut (y := zX6_wall) 175 dX6_wall_42 (by decide) hts]
                  simp (disch := first | omega | assumption) only [mm_op_some, true_and, and_true, mm_rc_some, mm_rc_none, pk_mul, nI_add, mm_in_t, nI_clamp, ok0, ok1, ok2, ok3, ok4, n1_0, n0_0, nI_le_, nI_lt_, if_true, if_false, not_true, not_false_eq_true, ce_lt, ce_cl, hf_lt, hf_cl, n0_zz, n1_zz, bI_zz, true_and, wp_iconst (y := zX6_wall) ((-1)) ki_m1 dX6_wall_175, wp_ireti (y := zX6_wall) rfl dX6_wall_176, O.oc, O.g0, O.g1, O.g2, O.g3, O.g4, O.g5, O.g6, O.g7, O.g9, O.g10, O.g11, O.p0, O.p7, O.a1, O.a2, O.a3, O.a4, O.a5, O.a6, O.a7, O.a8, O.a9, rl]
                  exact mt_ro g0 rfl (RO.refl _ _) rfl R0 J
theorem m_ofCells1 (O : MoSh sh m) (A : MeR M (μ (m + 1))) (J : Inv M) : cl sh zX6_ofCells [.ref m, .int (nI 1)] μ Q = Q (some (.int (it (fun i a => if 0 < sd M (cI i) then a + tn M (cI i) else a) 48 0 (nI 0)))) μ := by
  have key : ∀ d i acc v4, i + d = 48 → wp sh zX6_ofCells 36 [.ref m, .int (nI 1), .int acc, .int (nI i), v4] [] μ Q = Q (some (.int (it (fun i a => if 0 < sd M (cI i) then a + tn M (cI i) else a) d i acc))) μ := by
    intro d
    induction d with
    | zero =>
      intro i acc v4 hi
      have e : i = 48 := by omega
      rw [e, wp_il3 (y := zX6_ofCells) dX6_ofCells_36]
      simp (disch := first | omega | assumption) only [mm_op_some, true_and, and_true, mm_rc_some, mm_rc_none, pk_mul, nI_add, mm_in_t, nI_clamp, ok0, ok1, ok2, ok3, ok4, n1_0, n0_0, nI_le_, nI_lt_, if_true, if_false, not_true, not_false_eq_true, ce_lt, ce_cl, hf_lt, hf_cl, wp_bipush (y := zX6_ofCells) (nI 48) kb_48 dX6_ofCells_37, wp_icmp_ge (y := zX6_ofCells) 134 (by decide) dX6_ofCells_39, wp_il2 (y := zX6_ofCells) dX6_ofCells_134, wp_ireti (y := zX6_ofCells) rfl dX6_ofCells_135, Nat.le_refl]
      rfl
    | succ d ih =>
      intro i acc v4 hi
      have hi' : i < 48 := by omega
      have h9 : (48 ≤ i) = False := eq_false (by omega)
      have bb := J.sdb (cI i)
      rw [wp_il3 (y := zX6_ofCells) dX6_ofCells_36]
      by_cases h : 0 < sd M (cI i)
      · have E1 : ∀ Q', cl sh zX6_isCell [.ref m, .int (nI i)] μ Q' = Q' (some (.int (nI 1))) μ := fun Q' => m_isCell1 O A J.sdb hi' h
        have ra := A.2.2.2 (cI i) h
        have rs := A.2.2.1 (cI i)
        rw [cI_lt hi'] at ra rs
        have Et : ∀ Q', cl sh zX6_turn [.ref m, .int (nI i)] μ Q' = Q' (some (.int (tn M (cI i)))) μ := fun Q' => by
          have q := m_turn (Q := Q') O A (cI i)
          rw [cI_lt hi'] at q
          exact q
        have Es : ∀ Q', cl sh zX6_sidesOf [.ref m, .int (nI i)] μ Q' = Q' (some (.int (nI (sd M (cI i))))) μ := fun Q' => by
          have q := m_sidesOf (Q := Q') O A (cI i)
          rw [cI_lt hi'] at q
          exact q
        have Emin : ∀ a c Q', cl sh zX6_lesser [.int a, .int c] μ Q' = Q' (some (.int (imin a c))) μ := fun a c Q' => m_lesser a c
        have Emax : ∀ a c Q', cl sh zX6_greater [.int a, .int c] μ Q' = Q' (some (.int (imax a c))) μ := fun a c Q' => m_greater a c
        rw [show it (fun i a => if 0 < sd M (cI i) then a + tn M (cI i) else a) (d + 1) i acc = it (fun i a => if 0 < sd M (cI i) then a + tn M (cI i) else a) d (i + 1) (if 0 < sd M (cI i) then (fun a => a + tn M (cI i)) acc else acc) from rfl, if_pos h]
        simp (disch := first | omega | assumption) only [mm_op_some, true_and, and_true, mm_rc_some, mm_rc_none, pk_mul, nI_add, mm_in_t, nI_clamp, ok0, ok1, ok2, ok3, ok4, n1_0, n0_0, nI_le_, nI_lt_, if_true, if_false, not_true, not_false_eq_true, ce_lt, ce_cl, hf_lt, hf_cl, n1_zz, wp_bipush (y := zX6_ofCells) (nI 48) kb_48 dX6_ofCells_37, wp_icmp_ge (y := zX6_ofCells) 134 (by decide) dX6_ofCells_39, wp_al0 (y := zX6_ofCells) dX6_ofCells_42, wp_il3 (y := zX6_ofCells) dX6_ofCells_43, wp_cv1 (y := zX6_ofCells) kM6_93 (by decide) dX6_ofCells_44, (show yo zX6_isCell = 6 from rfl), wp_if_eq (y := zX6_ofCells) 128 (by decide) dX6_ofCells_47, wp_il1 (y := zX6_ofCells) dX6_ofCells_50, wp_iconst (y := zX6_ofCells) (nI 1) ki_1 dX6_ofCells_51, wp_icmp_ne (y := zX6_ofCells) 63 (by decide) dX6_ofCells_52, wp_al0 (y := zX6_ofCells) dX6_ofCells_55, wp_il3 (y := zX6_ofCells) dX6_ofCells_56, wp_cv1 (y := zX6_ofCells) kM6_118 (by decide) dX6_ofCells_57, (show yo zX6_turn = 6 from rfl), wp_goto (y := zX6_ofCells) 87 (by decide) dX6_ofCells_60, wp_is4 (y := zX6_ofCells) dX6_ofCells_87, wp_il1 (y := zX6_ofCells) dX6_ofCells_89, wp_iconst (y := zX6_ofCells) (nI 3) ki_3 dX6_ofCells_90, wp_icmp_ge (y := zX6_ofCells) 101 (by decide) dX6_ofCells_91, wp_il2 (y := zX6_ofCells) dX6_ofCells_94, wp_il4 (y := zX6_ofCells) dX6_ofCells_95, wp_iadd (y := zX6_ofCells) dX6_ofCells_97, wp_goto (y := zX6_ofCells) 127 (by decide) dX6_ofCells_98, wp_is2 (y := zX6_ofCells) dX6_ofCells_127, wp_inc3 (y := zX6_ofCells) (nI 1) ki_1 dX6_ofCells_128, wp_goto (y := zX6_ofCells) 36 (by decide) dX6_ofCells_131, O.oc, O.g0, O.g1, O.g2, O.g3, O.g4, O.g5, O.g6, O.g7, O.g9, O.g10, O.g11, O.p0, O.p7, O.a1, O.a2, O.a3, O.a4, O.a5, O.a6, O.a7, O.a8, O.a9, h9, E1, ra, Et, Es, Emin, Emax, nI_eq_, (show (1 = 1) = True from eq_true (by decide)), (show (1 = 2) = False from eq_false (by decide)), (show (1 = 3) = False from eq_false (by decide)), (show (1 = 4) = False from eq_false (by decide)), (show (1 = 8) = False from eq_false (by decide)), (show (1 = 9) = False from eq_false (by decide)), (show (3 ≤ 1) = False from eq_false (by decide)), (show (1 ≤ 7) = True from eq_true (by decide))]
        exact ih (i + 1) _ _ (by omega)
      · have E1 : ∀ Q', cl sh zX6_isCell [.ref m, .int (nI i)] μ Q' = Q' (some (.int (nI 0))) μ := fun Q' => m_isCell0 O A J.sdb hi' h
        rw [show it (fun i a => if 0 < sd M (cI i) then a + tn M (cI i) else a) (d + 1) i acc = it (fun i a => if 0 < sd M (cI i) then a + tn M (cI i) else a) d (i + 1) (if 0 < sd M (cI i) then (fun a => a + tn M (cI i)) acc else acc) from rfl, if_neg h]
        simp (disch := first | omega | assumption) only [mm_op_some, true_and, and_true, mm_rc_some, mm_rc_none, pk_mul, nI_add, mm_in_t, nI_clamp, ok0, ok1, ok2, ok3, ok4, n1_0, n0_0, nI_le_, nI_lt_, if_true, if_false, not_true, not_false_eq_true, ce_lt, ce_cl, hf_lt, hf_cl, n0_zz, wp_bipush (y := zX6_ofCells) (nI 48) kb_48 dX6_ofCells_37, wp_icmp_ge (y := zX6_ofCells) 134 (by decide) dX6_ofCells_39, wp_al0 (y := zX6_ofCells) dX6_ofCells_42, wp_il3 (y := zX6_ofCells) dX6_ofCells_43, wp_cv1 (y := zX6_ofCells) kM6_93 (by decide) dX6_ofCells_44, (show yo zX6_isCell = 6 from rfl), wp_if_eq (y := zX6_ofCells) 128 (by decide) dX6_ofCells_47, wp_inc3 (y := zX6_ofCells) (nI 1) ki_1 dX6_ofCells_128, wp_goto (y := zX6_ofCells) 36 (by decide) dX6_ofCells_131, O.oc, O.g0, O.g1, O.g2, O.g3, O.g4, O.g5, O.g6, O.g7, O.g9, O.g10, O.g11, O.p0, O.p7, O.a1, O.a2, O.a3, O.a4, O.a5, O.a6, O.a7, O.a8, O.a9, h9, E1]
        exact ih (i + 1) _ _ (by omega)
  show wp sh zX6_ofCells 0 [.ref m, .int (nI 1), .null, .null, .null] [] μ Q = _
  simp (disch := first | omega | assumption) only [mm_op_some, true_and, and_true, mm_rc_some, mm_rc_none, pk_mul, nI_add, mm_in_t, nI_clamp, ok0, ok1, ok2, ok3, ok4, n1_0, n0_0, nI_le_, nI_lt_, if_true, if_false, not_true, not_false_eq_true, ce_lt, ce_cl, hf_lt, hf_cl, nI_eq_, (show (1 = 1) = True from eq_true (by decide)), (show (1 = 2) = False from eq_false (by decide)), (show (1 = 3) = False from eq_false (by decide)), (show (1 = 4) = False from eq_false (by decide)), (show (1 = 8) = False from eq_false (by decide)), (show (1 = 9) = False from eq_false (by decide)), (show (3 ≤ 1) = False from eq_false (by decide)), (show (1 ≤ 7) = True from eq_true (by decide)), wp_il1 (y := zX6_ofCells) dX6_ofCells_0, wp_iconst (y := zX6_ofCells) (nI 4) ki_4 dX6_ofCells_1, wp_icmp_eq (y := zX6_ofCells) 11 (by decide) dX6_ofCells_2, wp_il1 (y := zX6_ofCells) dX6_ofCells_5, wp_bipush (y := zX6_ofCells) (nI 9) kb_9 dX6_ofCells_6, wp_icmp_ne (y := zX6_ofCells) 17 (by decide) dX6_ofCells_8, wp_il1 (y := zX6_ofCells) dX6_ofCells_17, wp_iconst (y := zX6_ofCells) (nI 2) ki_2 dX6_ofCells_18, wp_icmp_eq (y := zX6_ofCells) 27 (by decide) dX6_ofCells_19, wp_il1 (y := zX6_ofCells) dX6_ofCells_22, wp_iconst (y := zX6_ofCells) (nI 1) ki_1 dX6_ofCells_23, wp_icmp_ne (y := zX6_ofCells) 31 (by decide) dX6_ofCells_24, wp_iconst (y := zX6_ofCells) (nI 0) ki_0 dX6_ofCells_27, wp_goto (y := zX6_ofCells) 33 (by decide) dX6_ofCells_28, wp_is2 (y := zX6_ofCells) dX6_ofCells_33, wp_iconst (y := zX6_ofCells) (nI 0) ki_0 dX6_ofCells_34, wp_is3 (y := zX6_ofCells) dX6_ofCells_35]
  exact key 48 0 _ _ (by omega)
theorem m_ofCells2 (O : MoSh sh m) (A : MeR M (μ (m + 1))) (J : Inv M) : cl sh zX6_ofCells [.ref m, .int (nI 2)] μ Q = Q (some (.int (it (fun i a => if 0 < sd M (cI i) then a + ar M (cI i) else a) 48 0 (nI 0)))) μ := by
  have key : ∀ d i acc v4, i + d = 48 → wp sh zX6_ofCells 36 [.ref m, .int (nI 2), .int acc, .int (nI i), v4] [] μ Q = Q (some (.int (it (fun i a => if 0 < sd M (cI i) then a + ar M (cI i) else a) d i acc))) μ := by
    intro d
    induction d with
    | zero =>
      intro i acc v4 hi
      have e : i = 48 := by omega
      rw [e, wp_il3 (y := zX6_ofCells) dX6_ofCells_36]
      simp (disch := first | omega | assumption) only [mm_op_some, true_and, and_true, mm_rc_some, mm_rc_none, pk_mul, nI_add, mm_in_t, nI_clamp, ok0, ok1, ok2, ok3, ok4, n1_0, n0_0, nI_le_, nI_lt_, if_true, if_false, not_true, not_false_eq_true, ce_lt, ce_cl, hf_lt, hf_cl, wp_bipush (y := zX6_ofCells) (nI 48) kb_48 dX6_ofCells_37, wp_icmp_ge (y := zX6_ofCells) 134 (by decide) dX6_ofCells_39, wp_il2 (y := zX6_ofCells) dX6_ofCells_134, wp_ireti (y := zX6_ofCells) rfl dX6_ofCells_135, Nat.le_refl]
      rfl
    | succ d ih =>
      intro i acc v4 hi
      have hi' : i < 48 := by omega
      have h9 : (48 ≤ i) = False := eq_false (by omega)
      have bb := J.sdb (cI i)
      rw [wp_il3 (y := zX6_ofCells) dX6_ofCells_36]
      by_cases h : 0 < sd M (cI i)
      · have E1 : ∀ Q', cl sh zX6_isCell [.ref m, .int (nI i)] μ Q' = Q' (some (.int (nI 1))) μ := fun Q' => m_isCell1 O A J.sdb hi' h
        have ra := A.2.2.2 (cI i) h
        have rs := A.2.2.1 (cI i)
        rw [cI_lt hi'] at ra rs
        have Et : ∀ Q', cl sh zX6_turn [.ref m, .int (nI i)] μ Q' = Q' (some (.int (tn M (cI i)))) μ := fun Q' => by
          have q := m_turn (Q := Q') O A (cI i)
          rw [cI_lt hi'] at q
          exact q
        have Es : ∀ Q', cl sh zX6_sidesOf [.ref m, .int (nI i)] μ Q' = Q' (some (.int (nI (sd M (cI i))))) μ := fun Q' => by
          have q := m_sidesOf (Q := Q') O A (cI i)
          rw [cI_lt hi'] at q
          exact q
        have Emin : ∀ a c Q', cl sh zX6_lesser [.int a, .int c] μ Q' = Q' (some (.int (imin a c))) μ := fun a c Q' => m_lesser a c
        have Emax : ∀ a c Q', cl sh zX6_greater [.int a, .int c] μ Q' = Q' (some (.int (imax a c))) μ := fun a c Q' => m_greater a c
        rw [show it (fun i a => if 0 < sd M (cI i) then a + ar M (cI i) else a) (d + 1) i acc = it (fun i a => if 0 < sd M (cI i) then a + ar M (cI i) else a) d (i + 1) (if 0 < sd M (cI i) then (fun a => a + ar M (cI i)) acc else acc) from rfl, if_pos h]
        simp (disch := first | omega | assumption) only [mm_op_some, true_and, and_true, mm_rc_some, mm_rc_none, pk_mul, nI_add, mm_in_t, nI_clamp, ok0, ok1, ok2, ok3, ok4, n1_0, n0_0, nI_le_, nI_lt_, if_true, if_false, not_true, not_false_eq_true, ce_lt, ce_cl, hf_lt, hf_cl, n1_zz, wp_bipush (y := zX6_ofCells) (nI 48) kb_48 dX6_ofCells_37, wp_icmp_ge (y := zX6_ofCells) 134 (by decide) dX6_ofCells_39, wp_al0 (y := zX6_ofCells) dX6_ofCells_42, wp_il3 (y := zX6_ofCells) dX6_ofCells_43, wp_cv1 (y := zX6_ofCells) kM6_93 (by decide) dX6_ofCells_44, (show yo zX6_isCell = 6 from rfl), wp_if_eq (y := zX6_ofCells) 128 (by decide) dX6_ofCells_47, wp_il1 (y := zX6_ofCells) dX6_ofCells_50, wp_iconst (y := zX6_ofCells) (nI 1) ki_1 dX6_ofCells_51, wp_icmp_ne (y := zX6_ofCells) 63 (by decide) dX6_ofCells_52, wp_il1 (y := zX6_ofCells) dX6_ofCells_63, wp_bipush (y := zX6_ofCells) (nI 7) kb_7 dX6_ofCells_64, wp_icmp_le (y := zX6_ofCells) 77 (by decide) dX6_ofCells_66, wp_al0 (y := zX6_ofCells) dX6_ofCells_77, wp_getf (y := zX6_ofCells) kF6_9 dX6_ofCells_78, wp_sipush (y := zX6_ofCells) (nI 1600) ks_1600 dX6_ofCells_81, wp_il3 (y := zX6_ofCells) dX6_ofCells_84, wp_iadd (y := zX6_ofCells) dX6_ofCells_85, wp_iald (y := zX6_ofCells) dX6_ofCells_86, wp_is4 (y := zX6_ofCells) dX6_ofCells_87, wp_il1 (y := zX6_ofCells) dX6_ofCells_89, wp_iconst (y := zX6_ofCells) (nI 3) ki_3 dX6_ofCells_90, wp_icmp_ge (y := zX6_ofCells) 101 (by decide) dX6_ofCells_91, wp_il2 (y := zX6_ofCells) dX6_ofCells_94, wp_il4 (y := zX6_ofCells) dX6_ofCells_95, wp_iadd (y := zX6_ofCells) dX6_ofCells_97, wp_goto (y := zX6_ofCells) 127 (by decide) dX6_ofCells_98, wp_is2 (y := zX6_ofCells) dX6_ofCells_127, wp_inc3 (y := zX6_ofCells) (nI 1) ki_1 dX6_ofCells_128, wp_goto (y := zX6_ofCells) 36 (by decide) dX6_ofCells_131, O.oc, O.g0, O.g1, O.g2, O.g3, O.g4, O.g5, O.g6, O.g7, O.g9, O.g10, O.g11, O.p0, O.p7, O.a1, O.a2, O.a3, O.a4, O.a5, O.a6, O.a7, O.a8, O.a9, h9, E1, ra, Et, Es, Emin, Emax, nI_eq_, (show (2 = 1) = False from eq_false (by decide)), (show (2 = 2) = True from eq_true (by decide)), (show (2 = 3) = False from eq_false (by decide)), (show (2 = 4) = False from eq_false (by decide)), (show (2 = 8) = False from eq_false (by decide)), (show (2 = 9) = False from eq_false (by decide)), (show (3 ≤ 2) = False from eq_false (by decide)), (show (2 ≤ 7) = True from eq_true (by decide))]
        exact ih (i + 1) _ _ (by omega)
      · have E1 : ∀ Q', cl sh zX6_isCell [.ref m, .int (nI i)] μ Q' = Q' (some (.int (nI 0))) μ := fun Q' => m_isCell0 O A J.sdb hi' h
        rw [show it (fun i a => if 0 < sd M (cI i) then a + ar M (cI i) else a) (d + 1) i acc = it (fun i a => if 0 < sd M (cI i) then a + ar M (cI i) else a) d (i + 1) (if 0 < sd M (cI i) then (fun a => a + ar M (cI i)) acc else acc) from rfl, if_neg h]
        simp (disch := first | omega | assumption) only [mm_op_some, true_and, and_true, mm_rc_some, mm_rc_none, pk_mul, nI_add, mm_in_t, nI_clamp, ok0, ok1, ok2, ok3, ok4, n1_0, n0_0, nI_le_, nI_lt_, if_true, if_false, not_true, not_false_eq_true, ce_lt, ce_cl, hf_lt, hf_cl, n0_zz, wp_bipush (y := zX6_ofCells) (nI 48) kb_48 dX6_ofCells_37, wp_icmp_ge (y := zX6_ofCells) 134 (by decide) dX6_ofCells_39, wp_al0 (y := zX6_ofCells) dX6_ofCells_42, wp_il3 (y := zX6_ofCells) dX6_ofCells_43, wp_cv1 (y := zX6_ofCells) kM6_93 (by decide) dX6_ofCells_44, (show yo zX6_isCell = 6 from rfl), wp_if_eq (y := zX6_ofCells) 128 (by decide) dX6_ofCells_47, wp_inc3 (y := zX6_ofCells) (nI 1) ki_1 dX6_ofCells_128, wp_goto (y := zX6_ofCells) 36 (by decide) dX6_ofCells_131, O.oc, O.g0, O.g1, O.g2, O.g3, O.g4, O.g5, O.g6, O.g7, O.g9, O.g10, O.g11, O.p0, O.p7, O.a1, O.a2, O.a3, O.a4, O.a5, O.a6, O.a7, O.a8, O.a9, h9, E1]
        exact ih (i + 1) _ _ (by omega)
  show wp sh zX6_ofCells 0 [.ref m, .int (nI 2), .null, .null, .null] [] μ Q = _
  simp (disch := first | omega | assumption) only [mm_op_some, true_and, and_true, mm_rc_some, mm_rc_none, pk_mul, nI_add, mm_in_t, nI_clamp, ok0, ok1, ok2, ok3, ok4, n1_0, n0_0, nI_le_, nI_lt_, if_true, if_false, not_true, not_false_eq_true, ce_lt, ce_cl, hf_lt, hf_cl, nI_eq_, (show (2 = 1) = False from eq_false (by decide)), (show (2 = 2) = True from eq_true (by decide)), (show (2 = 3) = False from eq_false (by decide)), (show (2 = 4) = False from eq_false (by decide)), (show (2 = 8) = False from eq_false (by decide)), (show (2 = 9) = False from eq_false (by decide)), (show (3 ≤ 2) = False from eq_false (by decide)), (show (2 ≤ 7) = True from eq_true (by decide)), wp_il1 (y := zX6_ofCells) dX6_ofCells_0, wp_iconst (y := zX6_ofCells) (nI 4) ki_4 dX6_ofCells_1, wp_icmp_eq (y := zX6_ofCells) 11 (by decide) dX6_ofCells_2, wp_il1 (y := zX6_ofCells) dX6_ofCells_5, wp_bipush (y := zX6_ofCells) (nI 9) kb_9 dX6_ofCells_6, wp_icmp_ne (y := zX6_ofCells) 17 (by decide) dX6_ofCells_8, wp_il1 (y := zX6_ofCells) dX6_ofCells_17, wp_iconst (y := zX6_ofCells) (nI 2) ki_2 dX6_ofCells_18, wp_icmp_eq (y := zX6_ofCells) 27 (by decide) dX6_ofCells_19, wp_iconst (y := zX6_ofCells) (nI 0) ki_0 dX6_ofCells_27, wp_goto (y := zX6_ofCells) 33 (by decide) dX6_ofCells_28, wp_is2 (y := zX6_ofCells) dX6_ofCells_33, wp_iconst (y := zX6_ofCells) (nI 0) ki_0 dX6_ofCells_34, wp_is3 (y := zX6_ofCells) dX6_ofCells_35]
  exact key 48 0 _ _ (by omega)
theorem m_ofCells3 (O : MoSh sh m) (A : MeR M (μ (m + 1))) (J : Inv M) : cl sh zX6_ofCells [.ref m, .int (nI 3)] μ Q = Q (some (.int (it (fun i a => if 0 < sd M (cI i) then imax a (ar M (cI i)) else a) 48 0 (-2147483648)))) μ := by
  have key : ∀ d i acc v4, i + d = 48 → wp sh zX6_ofCells 36 [.ref m, .int (nI 3), .int acc, .int (nI i), v4] [] μ Q = Q (some (.int (it (fun i a => if 0 < sd M (cI i) then imax a (ar M (cI i)) else a) d i acc))) μ := by
    intro d
    induction d with
    | zero =>
      intro i acc v4 hi
      have e : i = 48 := by omega
      rw [e, wp_il3 (y := zX6_ofCells) dX6_ofCells_36]
      simp (disch := first | omega | assumption) only [mm_op_some, true_and, and_true, mm_rc_some, mm_rc_none, pk_mul, nI_add, mm_in_t, nI_clamp, ok0, ok1, ok2, ok3, ok4, n1_0, n0_0, nI_le_, nI_lt_, if_true, if_false, not_true, not_false_eq_true, ce_lt, ce_cl, hf_lt, hf_cl, wp_bipush (y := zX6_ofCells) (nI 48) kb_48 dX6_ofCells_37, wp_icmp_ge (y := zX6_ofCells) 134 (by decide) dX6_ofCells_39, wp_il2 (y := zX6_ofCells) dX6_ofCells_134, wp_ireti (y := zX6_ofCells) rfl dX6_ofCells_135, Nat.le_refl]
      rfl
    | succ d ih =>
      intro i acc v4 hi
      have hi' : i < 48 := by omega
      have h9 : (48 ≤ i) = False := eq_false (by omega)
      have bb := J.sdb (cI i)
      rw [wp_il3 (y := zX6_ofCells) dX6_ofCells_36]
      by_cases h : 0 < sd M (cI i)
      · have E1 : ∀ Q', cl sh zX6_isCell [.ref m, .int (nI i)] μ Q' = Q' (some (.int (nI 1))) μ := fun Q' => m_isCell1 O A J.sdb hi' h
        have ra := A.2.2.2 (cI i) h
        have rs := A.2.2.1 (cI i)
        rw [cI_lt hi'] at ra rs
        have Et : ∀ Q', cl sh zX6_turn [.ref m, .int (nI i)] μ Q' = Q' (some (.int (tn M (cI i)))) μ := fun Q' => by
          have q := m_turn (Q := Q') O A (cI i)
          rw [cI_lt hi'] at q
          exact q
        have Es : ∀ Q', cl sh zX6_sidesOf [.ref m, .int (nI i)] μ Q' = Q' (some (.int (nI (sd M (cI i))))) μ := fun Q' => by
          have q := m_sidesOf (Q := Q') O A (cI i)
          rw [cI_lt hi'] at q
          exact q
        have Emin : ∀ a c Q', cl sh zX6_lesser [.int a, .int c] μ Q' = Q' (some (.int (imin a c))) μ := fun a c Q' => m_lesser a c
        have Emax : ∀ a c Q', cl sh zX6_greater [.int a, .int c] μ Q' = Q' (some (.int (imax a c))) μ := fun a c Q' => m_greater a c
        rw [show it (fun i a => if 0 < sd M (cI i) then imax a (ar M (cI i)) else a) (d + 1) i acc = it (fun i a => if 0 < sd M (cI i) then imax a (ar M (cI i)) else a) d (i + 1) (if 0 < sd M (cI i) then (fun a => imax a (ar M (cI i))) acc else acc) from rfl, if_pos h]
        simp (disch := first | omega | assumption) only [mm_op_some, true_and, and_true, mm_rc_some, mm_rc_none, pk_mul, nI_add, mm_in_t, nI_clamp, ok0, ok1, ok2, ok3, ok4, n1_0, n0_0, nI_le_, nI_lt_, if_true, if_false, not_true, not_false_eq_true, ce_lt, ce_cl, hf_lt, hf_cl, n1_zz, wp_bipush (y := zX6_ofCells) (nI 48) kb_48 dX6_ofCells_37, wp_icmp_ge (y := zX6_ofCells) 134 (by decide) dX6_ofCells_39, wp_al0 (y := zX6_ofCells) dX6_ofCells_42, wp_il3 (y := zX6_ofCells) dX6_ofCells_43, wp_cv1 (y := zX6_ofCells) kM6_93 (by decide) dX6_ofCells_44, (show yo zX6_isCell = 6 from rfl), wp_if_eq (y := zX6_ofCells) 128 (by decide) dX6_ofCells_47, wp_il1 (y := zX6_ofCells) dX6_ofCells_50, wp_iconst (y := zX6_ofCells) (nI 1) ki_1 dX6_ofCells_51, wp_icmp_ne (y := zX6_ofCells) 63 (by decide) dX6_ofCells_52, wp_il1 (y := zX6_ofCells) dX6_ofCells_63, wp_bipush (y := zX6_ofCells) (nI 7) kb_7 dX6_ofCells_64, wp_icmp_le (y := zX6_ofCells) 77 (by decide) dX6_ofCells_66, wp_al0 (y := zX6_ofCells) dX6_ofCells_77, wp_getf (y := zX6_ofCells) kF6_9 dX6_ofCells_78, wp_sipush (y := zX6_ofCells) (nI 1600) ks_1600 dX6_ofCells_81, wp_il3 (y := zX6_ofCells) dX6_ofCells_84, wp_iadd (y := zX6_ofCells) dX6_ofCells_85, wp_iald (y := zX6_ofCells) dX6_ofCells_86, wp_is4 (y := zX6_ofCells) dX6_ofCells_87, wp_il1 (y := zX6_ofCells) dX6_ofCells_89, wp_iconst (y := zX6_ofCells) (nI 3) ki_3 dX6_ofCells_90, wp_icmp_ge (y := zX6_ofCells) 101 (by decide) dX6_ofCells_91, wp_il1 (y := zX6_ofCells) dX6_ofCells_101, wp_iconst (y := zX6_ofCells) (nI 3) ki_3 dX6_ofCells_102, wp_icmp_eq (y := zX6_ofCells) 112 (by decide) dX6_ofCells_103, wp_il2 (y := zX6_ofCells) dX6_ofCells_112, wp_il4 (y := zX6_ofCells) dX6_ofCells_113, wp_cs2 (y := zX6_ofCells) kM6_258 (by decide) dX6_ofCells_115, wp_goto (y := zX6_ofCells) 127 (by decide) dX6_ofCells_118, wp_is2 (y := zX6_ofCells) dX6_ofCells_127, wp_inc3 (y := zX6_ofCells) (nI 1) ki_1 dX6_ofCells_128, wp_goto (y := zX6_ofCells) 36 (by decide) dX6_ofCells_131, O.oc, O.g0, O.g1, O.g2, O.g3, O.g4, O.g5, O.g6, O.g7, O.g9, O.g10, O.g11, O.p0, O.p7, O.a1, O.a2, O.a3, O.a4, O.a5, O.a6, O.a7, O.a8, O.a9, h9, E1, ra, Et, Es, Emin, Emax, nI_eq_, (show (3 = 1) = False from eq_false (by decide)), (show (3 = 2) = False from eq_false (by decide)), (show (3 = 3) = True from eq_true (by decide)), (show (3 = 4) = False from eq_false (by decide)), (show (3 = 8) = False from eq_false (by decide)), (show (3 = 9) = False from eq_false (by decide)), (show (3 ≤ 3) = True from eq_true (by decide)), (show (3 ≤ 7) = True from eq_true (by decide))]
        exact ih (i + 1) _ _ (by omega)
      · have E1 : ∀ Q', cl sh zX6_isCell [.ref m, .int (nI i)] μ Q' = Q' (some (.int (nI 0))) μ := fun Q' => m_isCell0 O A J.sdb hi' h
        rw [show it (fun i a => if 0 < sd M (cI i) then imax a (ar M (cI i)) else a) (d + 1) i acc = it (fun i a => if 0 < sd M (cI i) then imax a (ar M (cI i)) else a) d (i + 1) (if 0 < sd M (cI i) then (fun a => imax a (ar M (cI i))) acc else acc) from rfl, if_neg h]
        simp (disch := first | omega | assumption) only [mm_op_some, true_and, and_true, mm_rc_some, mm_rc_none, pk_mul, nI_add, mm_in_t, nI_clamp, ok0, ok1, ok2, ok3, ok4, n1_0, n0_0, nI_le_, nI_lt_, if_true, if_false, not_true, not_false_eq_true, ce_lt, ce_cl, hf_lt, hf_cl, n0_zz, wp_bipush (y := zX6_ofCells) (nI 48) kb_48 dX6_ofCells_37, wp_icmp_ge (y := zX6_ofCells) 134 (by decide) dX6_ofCells_39, wp_al0 (y := zX6_ofCells) dX6_ofCells_42, wp_il3 (y := zX6_ofCells) dX6_ofCells_43, wp_cv1 (y := zX6_ofCells) kM6_93 (by decide) dX6_ofCells_44, (show yo zX6_isCell = 6 from rfl), wp_if_eq (y := zX6_ofCells) 128 (by decide) dX6_ofCells_47, wp_inc3 (y := zX6_ofCells) (nI 1) ki_1 dX6_ofCells_128, wp_goto (y := zX6_ofCells) 36 (by decide) dX6_ofCells_131, O.oc, O.g0, O.g1, O.g2, O.g3, O.g4, O.g5, O.g6, O.g7, O.g9, O.g10, O.g11, O.p0, O.p7, O.a1, O.a2, O.a3, O.a4, O.a5, O.a6, O.a7, O.a8, O.a9, h9, E1]
        exact ih (i + 1) _ _ (by omega)
  show wp sh zX6_ofCells 0 [.ref m, .int (nI 3), .null, .null, .null] [] μ Q = _
  simp (disch := first | omega | assumption) only [mm_op_some, true_and, and_true, mm_rc_some, mm_rc_none, pk_mul, nI_add, mm_in_t, nI_clamp, ok0, ok1, ok2, ok3, ok4, n1_0, n0_0, nI_le_, nI_lt_, if_true, if_false, not_true, not_false_eq_true, ce_lt, ce_cl, hf_lt, hf_cl, nI_eq_, (show (3 = 1) = False from eq_false (by decide)), (show (3 = 2) = False from eq_false (by decide)), (show (3 = 3) = True from eq_true (by decide)), (show (3 = 4) = False from eq_false (by decide)), (show (3 = 8) = False from eq_false (by decide)), (show (3 = 9) = False from eq_false (by decide)), (show (3 ≤ 3) = True from eq_true (by decide)), (show (3 ≤ 7) = True from eq_true (by decide)), wp_il1 (y := zX6_ofCells) dX6_ofCells_0, wp_iconst (y := zX6_ofCells) (nI 4) ki_4 dX6_ofCells_1, wp_icmp_eq (y := zX6_ofCells) 11 (by decide) dX6_ofCells_2, wp_il1 (y := zX6_ofCells) dX6_ofCells_5, wp_bipush (y := zX6_ofCells) (nI 9) kb_9 dX6_ofCells_6, wp_icmp_ne (y := zX6_ofCells) 17 (by decide) dX6_ofCells_8, wp_il1 (y := zX6_ofCells) dX6_ofCells_17, wp_iconst (y := zX6_ofCells) (nI 2) ki_2 dX6_ofCells_18, wp_icmp_eq (y := zX6_ofCells) 27 (by decide) dX6_ofCells_19, wp_il1 (y := zX6_ofCells) dX6_ofCells_22, wp_iconst (y := zX6_ofCells) (nI 1) ki_1 dX6_ofCells_23, wp_icmp_ne (y := zX6_ofCells) 31 (by decide) dX6_ofCells_24, wp_ldc (y := zX6_ofCells) kC6_252 dX6_ofCells_31, wp_is2 (y := zX6_ofCells) dX6_ofCells_33, wp_iconst (y := zX6_ofCells) (nI 0) ki_0 dX6_ofCells_34, wp_is3 (y := zX6_ofCells) dX6_ofCells_35]
  exact key 48 0 _ _ (by omega)
theorem m_ofCells4 (O : MoSh sh m) (A : MeR M (μ (m + 1))) (J : Inv M) : cl sh zX6_ofCells [.ref m, .int (nI 4)] μ Q = Q (some (.int (it (fun i a => if 0 < sd M (cI i) then imin a (ar M (cI i)) else a) 48 0 (2147483647)))) μ := by
  have key : ∀ d i acc v4, i + d = 48 → wp sh zX6_ofCells 36 [.ref m, .int (nI 4), .int acc, .int (nI i), v4] [] μ Q = Q (some (.int (it (fun i a => if 0 < sd M (cI i) then imin a (ar M (cI i)) else a) d i acc))) μ := by
    intro d
    induction d with
    | zero =>
      intro i acc v4 hi
      have e : i = 48 := by omega
      rw [e, wp_il3 (y := zX6_ofCells) dX6_ofCells_36]
      simp (disch := first | omega | assumption) only [mm_op_some, true_and, and_true, mm_rc_some, mm_rc_none, pk_mul, nI_add, mm_in_t, nI_clamp, ok0, ok1, ok2, ok3, ok4, n1_0, n0_0, nI_le_, nI_lt_, if_true, if_false, not_true, not_false_eq_true, ce_lt, ce_cl, hf_lt, hf_cl, wp_bipush (y := zX6_ofCells) (nI 48) kb_48 dX6_ofCells_37, wp_icmp_ge (y := zX6_ofCells) 134 (by decide) dX6_ofCells_39, wp_il2 (y := zX6_ofCells) dX6_ofCells_134, wp_ireti (y := zX6_ofCells) rfl dX6_ofCells_135, Nat.le_refl]
      rfl
    | succ d ih =>
      intro i acc v4 hi
      have hi' : i < 48 := by omega
      have h9 : (48 ≤ i) = False := eq_false (by omega)
      have bb := J.sdb (cI i)
      rw [wp_il3 (y := zX6_ofCells) dX6_ofCells_36]
      by_cases h : 0 < sd M (cI i)
      · have E1 : ∀ Q', cl sh zX6_isCell [.ref m, .int (nI i)] μ Q' = Q' (some (.int (nI 1))) μ := fun Q' => m_isCell1 O A J.sdb hi' h
        have ra := A.2.2.2 (cI i) h
        have rs := A.2.2.1 (cI i)
        rw [cI_lt hi'] at ra rs
        have Et : ∀ Q', cl sh zX6_turn [.ref m, .int (nI i)] μ Q' = Q' (some (.int (tn M (cI i)))) μ := fun Q' => by
          have q := m_turn (Q := Q') O A (cI i)
          rw [cI_lt hi'] at q
          exact q
        have Es : ∀ Q', cl sh zX6_sidesOf [.ref m, .int (nI i)] μ Q' = Q' (some (.int (nI (sd M (cI i))))) μ := fun Q' => by
          have q := m_sidesOf (Q := Q') O A (cI i)
          rw [cI_lt hi'] at q
          exact q
        have Emin : ∀ a c Q', cl sh zX6_lesser [.int a, .int c] μ Q' = Q' (some (.int (imin a c))) μ := fun a c Q' => m_lesser a c
        have Emax : ∀ a c Q', cl sh zX6_greater [.int a, .int c] μ Q' = Q' (some (.int (imax a c))) μ := fun a c Q' => m_greater a c
        rw [show it (fun i a => if 0 < sd M (cI i) then imin a (ar M (cI i)) else a) (d + 1) i acc = it (fun i a => if 0 < sd M (cI i) then imin a (ar M (cI i)) else a) d (i + 1) (if 0 < sd M (cI i) then (fun a => imin a (ar M (cI i))) acc else acc) from rfl, if_pos h]
        simp (disch := first | omega | assumption) only [mm_op_some, true_and, and_true, mm_rc_some, mm_rc_none, pk_mul, nI_add, mm_in_t, nI_clamp, ok0, ok1, ok2, ok3, ok4, n1_0, n0_0, nI_le_, nI_lt_, if_true, if_false, not_true, not_false_eq_true, ce_lt, ce_cl, hf_lt, hf_cl, n1_zz, wp_bipush (y := zX6_ofCells) (nI 48) kb_48 dX6_ofCells_37, wp_icmp_ge (y := zX6_ofCells) 134 (by decide) dX6_ofCells_39, wp_al0 (y := zX6_ofCells) dX6_ofCells_42, wp_il3 (y := zX6_ofCells) dX6_ofCells_43, wp_cv1 (y := zX6_ofCells) kM6_93 (by decide) dX6_ofCells_44, (show yo zX6_isCell = 6 from rfl), wp_if_eq (y := zX6_ofCells) 128 (by decide) dX6_ofCells_47, wp_il1 (y := zX6_ofCells) dX6_ofCells_50, wp_iconst (y := zX6_ofCells) (nI 1) ki_1 dX6_ofCells_51, wp_icmp_ne (y := zX6_ofCells) 63 (by decide) dX6_ofCells_52, wp_il1 (y := zX6_ofCells) dX6_ofCells_63, wp_bipush (y := zX6_ofCells) (nI 7) kb_7 dX6_ofCells_64, wp_icmp_le (y := zX6_ofCells) 77 (by decide) dX6_ofCells_66, wp_al0 (y := zX6_ofCells) dX6_ofCells_77, wp_getf (y := zX6_ofCells) kF6_9 dX6_ofCells_78, wp_sipush (y := zX6_ofCells) (nI 1600) ks_1600 dX6_ofCells_81, wp_il3 (y := zX6_ofCells) dX6_ofCells_84, wp_iadd (y := zX6_ofCells) dX6_ofCells_85, wp_iald (y := zX6_ofCells) dX6_ofCells_86, wp_is4 (y := zX6_ofCells) dX6_ofCells_87, wp_il1 (y := zX6_ofCells) dX6_ofCells_89, wp_iconst (y := zX6_ofCells) (nI 3) ki_3 dX6_ofCells_90, wp_icmp_ge (y := zX6_ofCells) 101 (by decide) dX6_ofCells_91, wp_il1 (y := zX6_ofCells) dX6_ofCells_101, wp_iconst (y := zX6_ofCells) (nI 3) ki_3 dX6_ofCells_102, wp_icmp_eq (y := zX6_ofCells) 112 (by decide) dX6_ofCells_103, wp_il1 (y := zX6_ofCells) dX6_ofCells_106, wp_bipush (y := zX6_ofCells) (nI 8) kb_8 dX6_ofCells_107, wp_icmp_ne (y := zX6_ofCells) 121 (by decide) dX6_ofCells_109, wp_il2 (y := zX6_ofCells) dX6_ofCells_121, wp_il4 (y := zX6_ofCells) dX6_ofCells_122, wp_cs2 (y := zX6_ofCells) kM6_255 (by decide) dX6_ofCells_124, wp_is2 (y := zX6_ofCells) dX6_ofCells_127, wp_inc3 (y := zX6_ofCells) (nI 1) ki_1 dX6_ofCells_128, wp_goto (y := zX6_ofCells) 36 (by decide) dX6_ofCells_131, O.oc, O.g0, O.g1, O.g2, O.g3, O.g4, O.g5, O.g6, O.g7, O.g9, O.g10, O.g11, O.p0, O.p7, O.a1, O.a2, O.a3, O.a4, O.a5, O.a6, O.a7, O.a8, O.a9, h9, E1, ra, Et, Es, Emin, Emax, nI_eq_, (show (4 = 1) = False from eq_false (by decide)), (show (4 = 2) = False from eq_false (by decide)), (show (4 = 3) = False from eq_false (by decide)), (show (4 = 4) = True from eq_true (by decide)), (show (4 = 8) = False from eq_false (by decide)), (show (4 = 9) = False from eq_false (by decide)), (show (3 ≤ 4) = True from eq_true (by decide)), (show (4 ≤ 7) = True from eq_true (by decide))]
        exact ih (i + 1) _ _ (by omega)
      · have E1 : ∀ Q', cl sh zX6_isCell [.ref m, .int (nI i)] μ Q' = Q' (some (.int (nI 0))) μ := fun Q' => m_isCell0 O A J.sdb hi' h
        rw [show it (fun i a => if 0 < sd M (cI i) then imin a (ar M (cI i)) else a) (d + 1) i acc = it (fun i a => if 0 < sd M (cI i) then imin a (ar M (cI i)) else a) d (i + 1) (if 0 < sd M (cI i) then (fun a => imin a (ar M (cI i))) acc else acc) from rfl, if_neg h]
        simp (disch := first | omega | assumption) only [mm_op_some, true_and, and_true, mm_rc_some, mm_rc_none, pk_mul, nI_add, mm_in_t, nI_clamp, ok0, ok1, ok2, ok3, ok4, n1_0, n0_0, nI_le_, nI_lt_, if_true, if_false, not_true, not_false_eq_true, ce_lt, ce_cl, hf_lt, hf_cl, n0_zz, wp_bipush (y := zX6_ofCells) (nI 48) kb_48 dX6_ofCells_37, wp_icmp_ge (y := zX6_ofCells) 134 (by decide) dX6_ofCells_39, wp_al0 (y := zX6_ofCells) dX6_ofCells_42, wp_il3 (y := zX6_ofCells) dX6_ofCells_43, wp_cv1 (y := zX6_ofCells) kM6_93 (by decide) dX6_ofCells_44, (show yo zX6_isCell = 6 from rfl), wp_if_eq (y := zX6_ofCells) 128 (by decide) dX6_ofCells_47, wp_inc3 (y := zX6_ofCells) (nI 1) ki_1 dX6_ofCells_128, wp_goto (y := zX6_ofCells) 36 (by decide) dX6_ofCells_131, O.oc, O.g0, O.g1, O.g2, O.g3, O.g4, O.g5, O.g6, O.g7, O.g9, O.g10, O.g11, O.p0, O.p7, O.a1, O.a2, O.a3, O.a4, O.a5, O.a6, O.a7, O.a8, O.a9, h9, E1]
        exact ih (i + 1) _ _ (by omega)
  show wp sh zX6_ofCells 0 [.ref m, .int (nI 4), .null, .null, .null] [] μ Q = _
  simp (disch := first | omega | assumption) only [mm_op_some, true_and, and_true, mm_rc_some, mm_rc_none, pk_mul, nI_add, mm_in_t, nI_clamp, ok0, ok1, ok2, ok3, ok4, n1_0, n0_0, nI_le_, nI_lt_, if_true, if_false, not_true, not_false_eq_true, ce_lt, ce_cl, hf_lt, hf_cl, nI_eq_, (show (4 = 1) = False from eq_false (by decide)), (show (4 = 2) = False from eq_false (by decide)), (show (4 = 3) = False from eq_false (by decide)), (show (4 = 4) = True from eq_true (by decide)), (show (4 = 8) = False from eq_false (by decide)), (show (4 = 9) = False from eq_false (by decide)), (show (3 ≤ 4) = True from eq_true (by decide)), (show (4 ≤ 7) = True from eq_true (by decide)), wp_il1 (y := zX6_ofCells) dX6_ofCells_0, wp_iconst (y := zX6_ofCells) (nI 4) ki_4 dX6_ofCells_1, wp_icmp_eq (y := zX6_ofCells) 11 (by decide) dX6_ofCells_2, wp_ldcw (y := zX6_ofCells) kC6_287 dX6_ofCells_11, wp_goto (y := zX6_ofCells) 33 (by decide) dX6_ofCells_14, wp_is2 (y := zX6_ofCells) dX6_ofCells_33, wp_iconst (y := zX6_ofCells) (nI 0) ki_0 dX6_ofCells_34, wp_is3 (y := zX6_ofCells) dX6_ofCells_35]
  exact key 48 0 _ _ (by omega)
theorem m_ofCells8 (O : MoSh sh m) (A : MeR M (μ (m + 1))) (J : Inv M) : cl sh zX6_ofCells [.ref m, .int (nI 8)] μ Q = Q (some (.int (it (fun i a => if 0 < sd M (cI i) then imax a (nI (sd M (cI i))) else a) 48 0 (-2147483648)))) μ := by
  have key : ∀ d i acc v4, i + d = 48 → wp sh zX6_ofCells 36 [.ref m, .int (nI 8), .int acc, .int (nI i), v4] [] μ Q = Q (some (.int (it (fun i a => if 0 < sd M (cI i) then imax a (nI (sd M (cI i))) else a) d i acc))) μ := by
    intro d
    induction d with
    | zero =>
      intro i acc v4 hi
      have e : i = 48 := by omega
      rw [e, wp_il3 (y := zX6_ofCells) dX6_ofCells_36]
      simp (disch := first | omega | assumption) only [mm_op_some, true_and, and_true, mm_rc_some, mm_rc_none, pk_mul, nI_add, mm_in_t, nI_clamp, ok0, ok1, ok2, ok3, ok4, n1_0, n0_0, nI_le_, nI_lt_, if_true, if_false, not_true, not_false_eq_true, ce_lt, ce_cl, hf_lt, hf_cl, wp_bipush (y := zX6_ofCells) (nI 48) kb_48 dX6_ofCells_37, wp_icmp_ge (y := zX6_ofCells) 134 (by decide) dX6_ofCells_39, wp_il2 (y := zX6_ofCells) dX6_ofCells_134, wp_ireti (y := zX6_ofCells) rfl dX6_ofCells_135, Nat.le_refl]
      rfl
    | succ d ih =>
      intro i acc v4 hi
      have hi' : i < 48 := by omega
      have h9 : (48 ≤ i) = False := eq_false (by omega)
      have bb := J.sdb (cI i)
      rw [wp_il3 (y := zX6_ofCells) dX6_ofCells_36]
      by_cases h : 0 < sd M (cI i)
      · have E1 : ∀ Q', cl sh zX6_isCell [.ref m, .int (nI i)] μ Q' = Q' (some (.int (nI 1))) μ := fun Q' => m_isCell1 O A J.sdb hi' h
        have ra := A.2.2.2 (cI i) h
        have rs := A.2.2.1 (cI i)
        rw [cI_lt hi'] at ra rs
        have Et : ∀ Q', cl sh zX6_turn [.ref m, .int (nI i)] μ Q' = Q' (some (.int (tn M (cI i)))) μ := fun Q' => by
          have q := m_turn (Q := Q') O A (cI i)
          rw [cI_lt hi'] at q
          exact q
        have Es : ∀ Q', cl sh zX6_sidesOf [.ref m, .int (nI i)] μ Q' = Q' (some (.int (nI (sd M (cI i))))) μ := fun Q' => by
          have q := m_sidesOf (Q := Q') O A (cI i)
          rw [cI_lt hi'] at q
          exact q
        have Emin : ∀ a c Q', cl sh zX6_lesser [.int a, .int c] μ Q' = Q' (some (.int (imin a c))) μ := fun a c Q' => m_lesser a c
        have Emax : ∀ a c Q', cl sh zX6_greater [.int a, .int c] μ Q' = Q' (some (.int (imax a c))) μ := fun a c Q' => m_greater a c
        rw [show it (fun i a => if 0 < sd M (cI i) then imax a (nI (sd M (cI i))) else a) (d + 1) i acc = it (fun i a => if 0 < sd M (cI i) then imax a (nI (sd M (cI i))) else a) d (i + 1) (if 0 < sd M (cI i) then (fun a => imax a (nI (sd M (cI i)))) acc else acc) from rfl, if_pos h]
        simp (disch := first | omega | assumption) only [mm_op_some, true_and, and_true, mm_rc_some, mm_rc_none, pk_mul, nI_add, mm_in_t, nI_clamp, ok0, ok1, ok2, ok3, ok4, n1_0, n0_0, nI_le_, nI_lt_, if_true, if_false, not_true, not_false_eq_true, ce_lt, ce_cl, hf_lt, hf_cl, n1_zz, wp_bipush (y := zX6_ofCells) (nI 48) kb_48 dX6_ofCells_37, wp_icmp_ge (y := zX6_ofCells) 134 (by decide) dX6_ofCells_39, wp_al0 (y := zX6_ofCells) dX6_ofCells_42, wp_il3 (y := zX6_ofCells) dX6_ofCells_43, wp_cv1 (y := zX6_ofCells) kM6_93 (by decide) dX6_ofCells_44, (show yo zX6_isCell = 6 from rfl), wp_if_eq (y := zX6_ofCells) 128 (by decide) dX6_ofCells_47, wp_il1 (y := zX6_ofCells) dX6_ofCells_50, wp_iconst (y := zX6_ofCells) (nI 1) ki_1 dX6_ofCells_51, wp_icmp_ne (y := zX6_ofCells) 63 (by decide) dX6_ofCells_52, wp_il1 (y := zX6_ofCells) dX6_ofCells_63, wp_bipush (y := zX6_ofCells) (nI 7) kb_7 dX6_ofCells_64, wp_icmp_le (y := zX6_ofCells) 77 (by decide) dX6_ofCells_66, wp_al0 (y := zX6_ofCells) dX6_ofCells_69, wp_il3 (y := zX6_ofCells) dX6_ofCells_70, wp_cv1 (y := zX6_ofCells) kM6_115 (by decide) dX6_ofCells_71, (show yo zX6_sidesOf = 6 from rfl), wp_goto (y := zX6_ofCells) 87 (by decide) dX6_ofCells_74, wp_is4 (y := zX6_ofCells) dX6_ofCells_87, wp_il1 (y := zX6_ofCells) dX6_ofCells_89, wp_iconst (y := zX6_ofCells) (nI 3) ki_3 dX6_ofCells_90, wp_icmp_ge (y := zX6_ofCells) 101 (by decide) dX6_ofCells_91, wp_il1 (y := zX6_ofCells) dX6_ofCells_101, wp_iconst (y := zX6_ofCells) (nI 3) ki_3 dX6_ofCells_102, wp_icmp_eq (y := zX6_ofCells) 112 (by decide) dX6_ofCells_103, wp_il1 (y := zX6_ofCells) dX6_ofCells_106, wp_bipush (y := zX6_ofCells) (nI 8) kb_8 dX6_ofCells_107, wp_icmp_ne (y := zX6_ofCells) 121 (by decide) dX6_ofCells_109, wp_il2 (y := zX6_ofCells) dX6_ofCells_112, wp_il4 (y := zX6_ofCells) dX6_ofCells_113, wp_cs2 (y := zX6_ofCells) kM6_258 (by decide) dX6_ofCells_115, wp_goto (y := zX6_ofCells) 127 (by decide) dX6_ofCells_118, wp_is2 (y := zX6_ofCells) dX6_ofCells_127, wp_inc3 (y := zX6_ofCells) (nI 1) ki_1 dX6_ofCells_128, wp_goto (y := zX6_ofCells) 36 (by decide) dX6_ofCells_131, O.oc, O.g0, O.g1, O.g2, O.g3, O.g4, O.g5, O.g6, O.g7, O.g9, O.g10, O.g11, O.p0, O.p7, O.a1, O.a2, O.a3, O.a4, O.a5, O.a6, O.a7, O.a8, O.a9, h9, E1, ra, Et, Es, Emin, Emax, nI_eq_, (show (8 = 1) = False from eq_false (by decide)), (show (8 = 2) = False from eq_false (by decide)), (show (8 = 3) = False from eq_false (by decide)), (show (8 = 4) = False from eq_false (by decide)), (show (8 = 8) = True from eq_true (by decide)), (show (8 = 9) = False from eq_false (by decide)), (show (3 ≤ 8) = True from eq_true (by decide)), (show (8 ≤ 7) = False from eq_false (by decide))]
        exact ih (i + 1) _ _ (by omega)
      · have E1 : ∀ Q', cl sh zX6_isCell [.ref m, .int (nI i)] μ Q' = Q' (some (.int (nI 0))) μ := fun Q' => m_isCell0 O A J.sdb hi' h
        rw [show it (fun i a => if 0 < sd M (cI i) then imax a (nI (sd M (cI i))) else a) (d + 1) i acc = it (fun i a => if 0 < sd M (cI i) then imax a (nI (sd M (cI i))) else a) d (i + 1) (if 0 < sd M (cI i) then (fun a => imax a (nI (sd M (cI i)))) acc else acc) from rfl, if_neg h]
        simp (disch := first | omega | assumption) only [mm_op_some, true_and, and_true, mm_rc_some, mm_rc_none, pk_mul, nI_add, mm_in_t, nI_clamp, ok0, ok1, ok2, ok3, ok4, n1_0, n0_0, nI_le_, nI_lt_, if_true, if_false, not_true, not_false_eq_true, ce_lt, ce_cl, hf_lt, hf_cl, n0_zz, wp_bipush (y := zX6_ofCells) (nI 48) kb_48 dX6_ofCells_37, wp_icmp_ge (y := zX6_ofCells) 134 (by decide) dX6_ofCells_39, wp_al0 (y := zX6_ofCells) dX6_ofCells_42, wp_il3 (y := zX6_ofCells) dX6_ofCells_43, wp_cv1 (y := zX6_ofCells) kM6_93 (by decide) dX6_ofCells_44, (show yo zX6_isCell = 6 from rfl), wp_if_eq (y := zX6_ofCells) 128 (by decide) dX6_ofCells_47, wp_inc3 (y := zX6_ofCells) (nI 1) ki_1 dX6_ofCells_128, wp_goto (y := zX6_ofCells) 36 (by decide) dX6_ofCells_131, O.oc, O.g0, O.g1, O.g2, O.g3, O.g4, O.g5, O.g6, O.g7, O.g9, O.g10, O.g11, O.p0, O.p7, O.a1, O.a2, O.a3, O.a4, O.a5, O.a6, O.a7, O.a8, O.a9, h9, E1]
        exact ih (i + 1) _ _ (by omega)
  show wp sh zX6_ofCells 0 [.ref m, .int (nI 8), .null, .null, .null] [] μ Q = _
  simp (disch := first | omega | assumption) only [mm_op_some, true_and, and_true, mm_rc_some, mm_rc_none, pk_mul, nI_add, mm_in_t, nI_clamp, ok0, ok1, ok2, ok3, ok4, n1_0, n0_0, nI_le_, nI_lt_, if_true, if_false, not_true, not_false_eq_true, ce_lt, ce_cl, hf_lt, hf_cl, nI_eq_, (show (8 = 1) = False from eq_false (by decide)), (show (8 = 2) = False from eq_false (by decide)), (show (8 = 3) = False from eq_false (by decide)), (show (8 = 4) = False from eq_false (by decide)), (show (8 = 8) = True from eq_true (by decide)), (show (8 = 9) = False from eq_false (by decide)), (show (3 ≤ 8) = True from eq_true (by decide)), (show (8 ≤ 7) = False from eq_false (by decide)), wp_il1 (y := zX6_ofCells) dX6_ofCells_0, wp_iconst (y := zX6_ofCells) (nI 4) ki_4 dX6_ofCells_1, wp_icmp_eq (y := zX6_ofCells) 11 (by decide) dX6_ofCells_2, wp_il1 (y := zX6_ofCells) dX6_ofCells_5, wp_bipush (y := zX6_ofCells) (nI 9) kb_9 dX6_ofCells_6, wp_icmp_ne (y := zX6_ofCells) 17 (by decide) dX6_ofCells_8, wp_il1 (y := zX6_ofCells) dX6_ofCells_17, wp_iconst (y := zX6_ofCells) (nI 2) ki_2 dX6_ofCells_18, wp_icmp_eq (y := zX6_ofCells) 27 (by decide) dX6_ofCells_19, wp_il1 (y := zX6_ofCells) dX6_ofCells_22, wp_iconst (y := zX6_ofCells) (nI 1) ki_1 dX6_ofCells_23, wp_icmp_ne (y := zX6_ofCells) 31 (by decide) dX6_ofCells_24, wp_ldc (y := zX6_ofCells) kC6_252 dX6_ofCells_31, wp_is2 (y := zX6_ofCells) dX6_ofCells_33, wp_iconst (y := zX6_ofCells) (nI 0) ki_0 dX6_ofCells_34, wp_is3 (y := zX6_ofCells) dX6_ofCells_35]
  exact key 48 0 _ _ (by omega)
theorem m_ofCells9 (O : MoSh sh m) (A : MeR M (μ (m + 1))) (J : Inv M) : cl sh zX6_ofCells [.ref m, .int (nI 9)] μ Q = Q (some (.int (it (fun i a => if 0 < sd M (cI i) then imin a (nI (sd M (cI i))) else a) 48 0 (2147483647)))) μ := by
  have key : ∀ d i acc v4, i + d = 48 → wp sh zX6_ofCells 36 [.ref m, .int (nI 9), .int acc, .int (nI i), v4] [] μ Q = Q (some (.int (it (fun i a => if 0 < sd M (cI i) then imin a (nI (sd M (cI i))) else a) d i acc))) μ := by
    intro d
    induction d with
    | zero =>
      intro i acc v4 hi
      have e : i = 48 := by omega
      rw [e, wp_il3 (y := zX6_ofCells) dX6_ofCells_36]
      simp (disch := first | omega | assumption) only [mm_op_some, true_and, and_true, mm_rc_some, mm_rc_none, pk_mul, nI_add, mm_in_t, nI_clamp, ok0, ok1, ok2, ok3, ok4, n1_0, n0_0, nI_le_, nI_lt_, if_true, if_false, not_true, not_false_eq_true, ce_lt, ce_cl, hf_lt, hf_cl, wp_bipush (y := zX6_ofCells) (nI 48) kb_48 dX6_ofCells_37, wp_icmp_ge (y := zX6_ofCells) 134 (by decide) dX6_ofCells_39, wp_il2 (y := zX6_ofCells) dX6_ofCells_134, wp_ireti (y := zX6_ofCells) rfl dX6_ofCells_135, Nat.le_refl]
      rfl
    | succ d ih =>
      intro i acc v4 hi
      have hi' : i < 48 := by omega
      have h9 : (48 ≤ i) = False := eq_false (by omega)
      have bb := J.sdb (cI i)
      rw [wp_il3 (y := zX6_ofCells) dX6_ofCells_36]
      by_cases h : 0 < sd M (cI i)
      · have E1 : ∀ Q', cl sh zX6_isCell [.ref m, .int (nI i)] μ Q' = Q' (some (.int (nI 1))) μ := fun Q' => m_isCell1 O A J.sdb hi' h
        have ra := A.2.2.2 (cI i) h
        have rs := A.2.2.1 (cI i)
        rw [cI_lt hi'] at ra rs
        have Et : ∀ Q', cl sh zX6_turn [.ref m, .int (nI i)] μ Q' = Q' (some (.int (tn M (cI i)))) μ := fun Q' => by
          have q := m_turn (Q := Q') O A (cI i)
          rw [cI_lt hi'] at q
          exact q
        have Es : ∀ Q', cl sh zX6_sidesOf [.ref m, .int (nI i)] μ Q' = Q' (some (.int (nI (sd M (cI i))))) μ := fun Q' => by
          have q := m_sidesOf (Q := Q') O A (cI i)
          rw [cI_lt hi'] at q
          exact q
        have Emin : ∀ a c Q', cl sh zX6_lesser [.int a, .int c] μ Q' = Q' (some (.int (imin a c))) μ := fun a c Q' => m_lesser a c
        have Emax : ∀ a c Q', cl sh zX6_greater [.int a, .int c] μ Q' = Q' (some (.int (imax a c))) μ := fun a c Q' => m_greater a c
        rw [show it (fun i a => if 0 < sd M (cI i) then imin a (nI (sd M (cI i))) else a) (d + 1) i acc = it (fun i a => if 0 < sd M (cI i) then imin a (nI (sd M (cI i))) else a) d (i + 1) (if 0 < sd M (cI i) then (fun a => imin a (nI (sd M (cI i)))) acc else acc) from rfl, if_pos h]
        simp (disch := first | omega | assumption) only [mm_op_some, true_and, and_true, mm_rc_some, mm_rc_none, pk_mul, nI_add, mm_in_t, nI_clamp, ok0, ok1, ok2, ok3, ok4, n1_0, n0_0, nI_le_, nI_lt_, if_true, if_false, not_true, not_false_eq_true, ce_lt, ce_cl, hf_lt, hf_cl, n1_zz, wp_bipush (y := zX6_ofCells) (nI 48) kb_48 dX6_ofCells_37, wp_icmp_ge (y := zX6_ofCells) 134 (by decide) dX6_ofCells_39, wp_al0 (y := zX6_ofCells) dX6_ofCells_42, wp_il3 (y := zX6_ofCells) dX6_ofCells_43, wp_cv1 (y := zX6_ofCells) kM6_93 (by decide) dX6_ofCells_44, (show yo zX6_isCell = 6 from rfl), wp_if_eq (y := zX6_ofCells) 128 (by decide) dX6_ofCells_47, wp_il1 (y := zX6_ofCells) dX6_ofCells_50, wp_iconst (y := zX6_ofCells) (nI 1) ki_1 dX6_ofCells_51, wp_icmp_ne (y := zX6_ofCells) 63 (by decide) dX6_ofCells_52, wp_il1 (y := zX6_ofCells) dX6_ofCells_63, wp_bipush (y := zX6_ofCells) (nI 7) kb_7 dX6_ofCells_64, wp_icmp_le (y := zX6_ofCells) 77 (by decide) dX6_ofCells_66, wp_al0 (y := zX6_ofCells) dX6_ofCells_69, wp_il3 (y := zX6_ofCells) dX6_ofCells_70, wp_cv1 (y := zX6_ofCells) kM6_115 (by decide) dX6_ofCells_71, (show yo zX6_sidesOf = 6 from rfl), wp_goto (y := zX6_ofCells) 87 (by decide) dX6_ofCells_74, wp_is4 (y := zX6_ofCells) dX6_ofCells_87, wp_il1 (y := zX6_ofCells) dX6_ofCells_89, wp_iconst (y := zX6_ofCells) (nI 3) ki_3 dX6_ofCells_90, wp_icmp_ge (y := zX6_ofCells) 101 (by decide) dX6_ofCells_91, wp_il1 (y := zX6_ofCells) dX6_ofCells_101, wp_iconst (y := zX6_ofCells) (nI 3) ki_3 dX6_ofCells_102, wp_icmp_eq (y := zX6_ofCells) 112 (by decide) dX6_ofCells_103, wp_il1 (y := zX6_ofCells) dX6_ofCells_106, wp_bipush (y := zX6_ofCells) (nI 8) kb_8 dX6_ofCells_107, wp_icmp_ne (y := zX6_ofCells) 121 (by decide) dX6_ofCells_109, wp_il2 (y := zX6_ofCells) dX6_ofCells_121, wp_il4 (y := zX6_ofCells) dX6_ofCells_122, wp_cs2 (y := zX6_ofCells) kM6_255 (by decide) dX6_ofCells_124, wp_is2 (y := zX6_ofCells) dX6_ofCells_127, wp_inc3 (y := zX6_ofCells) (nI 1) ki_1 dX6_ofCells_128, wp_goto (y := zX6_ofCells) 36 (by decide) dX6_ofCells_131, O.oc, O.g0, O.g1, O.g2, O.g3, O.g4, O.g5, O.g6, O.g7, O.g9, O.g10, O.g11, O.p0, O.p7, O.a1, O.a2, O.a3, O.a4, O.a5, O.a6, O.a7, O.a8, O.a9, h9, E1, ra, Et, Es, Emin, Emax, nI_eq_, (show (9 = 1) = False from eq_false (by decide)), (show (9 = 2) = False from eq_false (by decide)), (show (9 = 3) = False from eq_false (by decide)), (show (9 = 4) = False from eq_false (by decide)), (show (9 = 8) = False from eq_false (by decide)), (show (9 = 9) = True from eq_true (by decide)), (show (3 ≤ 9) = True from eq_true (by decide)), (show (9 ≤ 7) = False from eq_false (by decide))]
        exact ih (i + 1) _ _ (by omega)
      · have E1 : ∀ Q', cl sh zX6_isCell [.ref m, .int (nI i)] μ Q' = Q' (some (.int (nI 0))) μ := fun Q' => m_isCell0 O A J.sdb hi' h
        rw [show it (fun i a => if 0 < sd M (cI i) then imin a (nI (sd M (cI i))) else a) (d + 1) i acc = it (fun i a => if 0 < sd M (cI i) then imin a (nI (sd M (cI i))) else a) d (i + 1) (if 0 < sd M (cI i) then (fun a => imin a (nI (sd M (cI i)))) acc else acc) from rfl, if_neg h]
        simp (disch := first | omega | assumption) only [mm_op_some, true_and, and_true, mm_rc_some, mm_rc_none, pk_mul, nI_add, mm_in_t, nI_clamp, ok0, ok1, ok2, ok3, ok4, n1_0, n0_0, nI_le_, nI_lt_, if_true, if_false, not_true, not_false_eq_true, ce_lt, ce_cl, hf_lt, hf_cl, n0_zz, wp_bipush (y := zX6_ofCells) (nI 48) kb_48 dX6_ofCells_37, wp_icmp_ge (y := zX6_ofCells) 134 (by decide) dX6_ofCells_39, wp_al0 (y := zX6_ofCells) dX6_ofCells_42, wp_il3 (y := zX6_ofCells) dX6_ofCells_43, wp_cv1 (y := zX6_ofCells) kM6_93 (by decide) dX6_ofCells_44, (show yo zX6_isCell = 6 from rfl), wp_if_eq (y := zX6_ofCells) 128 (by decide) dX6_ofCells_47, wp_inc3 (y := zX6_ofCells) (nI 1) ki_1 dX6_ofCells_128, wp_goto (y := zX6_ofCells) 36 (by decide) dX6_ofCells_131, O.oc, O.g0, O.g1, O.g2, O.g3, O.g4, O.g5, O.g6, O.g7, O.g9, O.g10, O.g11, O.p0, O.p7, O.a1, O.a2, O.a3, O.a4, O.a5, O.a6, O.a7, O.a8, O.a9, h9, E1]
        exact ih (i + 1) _ _ (by omega)
  show wp sh zX6_ofCells 0 [.ref m, .int (nI 9), .null, .null, .null] [] μ Q = _
  simp (disch := first | omega | assumption) only [mm_op_some, true_and, and_true, mm_rc_some, mm_rc_none, pk_mul, nI_add, mm_in_t, nI_clamp, ok0, ok1, ok2, ok3, ok4, n1_0, n0_0, nI_le_, nI_lt_, if_true, if_false, not_true, not_false_eq_true, ce_lt, ce_cl, hf_lt, hf_cl, nI_eq_, (show (9 = 1) = False from eq_false (by decide)), (show (9 = 2) = False from eq_false (by decide)), (show (9 = 3) = False from eq_false (by decide)), (show (9 = 4) = False from eq_false (by decide)), (show (9 = 8) = False from eq_false (by decide)), (show (9 = 9) = True from eq_true (by decide)), (show (3 ≤ 9) = True from eq_true (by decide)), (show (9 ≤ 7) = False from eq_false (by decide)), wp_il1 (y := zX6_ofCells) dX6_ofCells_0, wp_iconst (y := zX6_ofCells) (nI 4) ki_4 dX6_ofCells_1, wp_icmp_eq (y := zX6_ofCells) 11 (by decide) dX6_ofCells_2, wp_il1 (y := zX6_ofCells) dX6_ofCells_5, wp_bipush (y := zX6_ofCells) (nI 9) kb_9 dX6_ofCells_6, wp_icmp_ne (y := zX6_ofCells) 17 (by decide) dX6_ofCells_8, wp_ldcw (y := zX6_ofCells) kC6_287 dX6_ofCells_11, wp_goto (y := zX6_ofCells) 33 (by decide) dX6_ofCells_14, wp_is2 (y := zX6_ofCells) dX6_ofCells_33, wp_iconst (y := zX6_ofCells) (nI 0) ki_0 dX6_ofCells_34, wp_is3 (y := zX6_ofCells) dX6_ofCells_35]
  exact key 48 0 _ _ (by omega)
end MOC
