section MGO
variable {sh : mm_Sh} {m : Nat} {M : Ms} {μ : mm_U} {s : Fo} {Q : Option Value → mm_U → Prop}
theorem m_gone (O : MoSh sh m) (R : RepM s μ m) (J : Inv s.1) (g0 : μ m 7 = nI 0) (c : Int32) : cl sh zX6_gone [.ref m, .int c] μ (MT m μ (a_gone s c, s)) := by
  have R0 := R.mu0 (nI 0)
  have g1 : (mu μ m (upd (μ m) 0 (nI 0))) m 7 = nI 0 := by rw [mu_s, upd_n _ _ (by omega)]; exact g0
  show wp sh zX6_gone 0 [.ref m, .int c, .null, .null] [] μ _
  unfold a_gone
  cases e : ceO s.1 c with
  | none =>
    have E1 : ∀ Q', cl sh zX6_isCell [.ref m, .int c] (mu μ m (upd (μ m) 0 (nI 0))) Q' = Q' (some (.int (nI 0))) (mu μ m (upd (μ m) 0 (nI 0))) := fun Q' => m_isCellN O R0.1 J.sdb e
    have fin : MT m μ ((-1 : Int32), s) (some (.int (-1))) (mu μ m (upd (μ m) 0 (nI 0))) := mt_ro g0 rfl (RO.refl _ _) rfl R0 J
    generalize MT m μ ((-1 : Int32), s) = QQ at fin ⊢
    simp (disch := first | omega | assumption) only [mm_op_some, true_and, and_true, mm_rc_some, mm_rc_none, pk_mul, nI_add, mm_in_t, nI_clamp, ok0, ok1, ok2, ok3, ok4, n1_0, n0_0, nI_le_, nI_lt_, if_true, if_false, not_true, not_false_eq_true, ce_lt, ce_cl, hf_lt, hf_cl, n0_zz, wp_al0 (y := zX6_gone) dX6_gone_0, wp_iconst (y := zX6_gone) (nI 0) ki_0 dX6_gone_1, wp_putf (y := zX6_gone) kF6_44 rfl dX6_gone_2, wp_al0 (y := zX6_gone) dX6_gone_5, wp_il1 (y := zX6_gone) dX6_gone_6, wp_cv1 (y := zX6_gone) kM6_93 (by decide) dX6_gone_7, (show yo zX6_isCell = 6 from rfl), wp_if_ne (y := zX6_gone) 15 (by decide) dX6_gone_10, wp_iconst (y := zX6_gone) ((-1)) ki_m1 dX6_gone_13, wp_ireti (y := zX6_gone) rfl dX6_gone_14, O.oc, O.g0, O.g1, O.g2, O.g3, O.g4, O.g5, O.g6, O.g7, O.g9, O.g10, O.g11, O.p0, O.p7, O.a1, O.a2, O.a3, O.a4, O.a5, O.a6, O.a7, O.a8, O.a9, E1]
    exact fin
  | some a =>
    obtain ⟨rfl, ha⟩ := ceO_some e
    have E1 : ∀ Q', cl sh zX6_isCell [.ref m, .int (nI a.val)] (mu μ m (upd (μ m) 0 (nI 0))) Q' = Q' (some (.int (nI 1))) (mu μ m (upd (μ m) 0 (nI 0))) := fun Q' => m_isCellS O R0.1 J.sdb ha
    have E2 : ∀ Q', cl sh zX6_think [.ref m] (mu μ m (upd (μ m) 0 (nI 0))) Q' = Q' none (mu (mu μ m (upd (μ m) 0 (nI 0))) (m + 2) (cpR ((mu μ m (upd (μ m) 0 (nI 0))) (m + 1)) ((mu μ m (upd (μ m) 0 (nI 0))) (m + 2)) 0 0 1786)) := fun Q' => m_think O
    dsimp only
    have fin : ∀ μ2, RM (mu (mu μ m (upd (μ m) 0 (nI 0))) (m + 2) (cpR ((mu μ m (upd (μ m) 0 (nI 0))) (m + 1)) ((mu μ m (upd (μ m) 0 (nI 0))) (m + 2)) 0 0 1786)) μ2 m → μ2 m 7 = nI 0 → MT m μ (fo1 (fd (goneP s a) 50 0), s) (some (.int (fo1 (fd (goneP s a) 50 0)))) (mu μ2 (m + 1) (cpR (μ2 (m + 2)) (μ2 (m + 1)) 0 0 1786)) := fun μ2 F h7 => th_end R0 J g0 F.rs h7
    generalize MT m μ (fo1 (fd (goneP s a) 50 0), s) = QQ at fin ⊢
    have R1 : RepM s (mu (mu μ m (upd (μ m) 0 (nI 0))) (m + 2) (cpR ((mu μ m (upd (μ m) 0 (nI 0))) (m + 1)) ((mu μ m (upd (μ m) 0 (nI 0))) (m + 2)) 0 0 1786)) m := th_of R0
    have g2 : (mu (mu μ m (upd (μ m) 0 (nI 0))) (m + 2) (cpR ((mu μ m (upd (μ m) 0 (nI 0))) (m + 1)) ((mu μ m (upd (μ m) 0 (nI 0))) (m + 2)) 0 0 1786)) m 7 = nI 0 := by rw [mu_n _ _ (by omega)]; exact g1
    have loop : ∀ d i μ1, i + d = 50 → RepM (goK i s) μ1 m → Inv (goK i s).1 → μ1 m 7 = nI 0 → RM (mu (mu μ m (upd (μ m) 0 (nI 0))) (m + 2) (cpR ((mu μ m (upd (μ m) 0 (nI 0))) (m + 1)) ((mu μ m (upd (μ m) 0 (nI 0))) (m + 2)) 0 0 1786)) μ1 m → (∀ (w : Value) μ2, RM (mu (mu μ m (upd (μ m) 0 (nI 0))) (m + 2) (cpR ((mu μ m (upd (μ m) 0 (nI 0))) (m + 1)) ((mu μ m (upd (μ m) 0 (nI 0))) (m + 2)) 0 0 1786)) μ2 m → μ2 m 7 = nI 0 → wp sh zX6_gone 58 [.ref m, .int (nI a.val), .int (fo1 (fd (goneP s a) d i)), w] [] μ2 QQ) → wp sh zX6_gone 23 [.ref m, .int (nI a.val), .int (-1), .int (nI (i + 1))] [] μ1 QQ := by
      intro d
      induction d with
      | zero =>
        intro i μ1 hi R1 J1 h7 F1 K
        have e : i = 50 := by omega
        rw [e] at K ⊢
        have e9 : (50 < 50 + 1) = True := eq_true (by omega)
        rw [wp_il3 (y := zX6_gone) dX6_gone_23]
        simp (disch := first | omega | assumption) only [mm_op_some, true_and, and_true, mm_rc_some, mm_rc_none, pk_mul, nI_add, mm_in_t, nI_clamp, ok0, ok1, ok2, ok3, ok4, n1_0, n0_0, nI_le_, nI_lt_, if_true, if_false, not_true, not_false_eq_true, ce_lt, ce_cl, hf_lt, hf_cl, wp_bipush (y := zX6_gone) (nI 50) kb_50 dX6_gone_24, wp_icmp_gt (y := zX6_gone) 58 (by decide) dX6_gone_26, e9]
        exact K _ μ1 F1 h7
      | succ d ih =>
        intro i μ1 hi R1 J1 h7 F1 K
        have e9 : (50 < i + 1) = False := eq_false (by omega)
        have em : ((-1 : Int32) = -1) = True := eq_true rfl
        rw [wp_il3 (y := zX6_gone) dX6_gone_23]
        simp (disch := first | omega | assumption) only [mm_op_some, true_and, and_true, mm_rc_some, mm_rc_none, pk_mul, nI_add, mm_in_t, nI_clamp, ok0, ok1, ok2, ok3, ok4, n1_0, n0_0, nI_le_, nI_lt_, if_true, if_false, not_true, not_false_eq_true, ce_lt, ce_cl, hf_lt, hf_cl, wp_bipush (y := zX6_gone) (nI 50) kb_50 dX6_gone_24, wp_icmp_gt (y := zX6_gone) 58 (by decide) dX6_gone_26, wp_il2 (y := zX6_gone) dX6_gone_29, wp_iconst (y := zX6_gone) ((-1)) ki_m1 dX6_gone_30, wp_icmp_ne (y := zX6_gone) 58 (by decide) dX6_gone_31, wp_al0 (y := zX6_gone) dX6_gone_34, wp_cv0 (y := zX6_gone) kM6_228 (by decide) dX6_gone_35, (show yo zX6_step = 6 from rfl), O.oc, O.g0, O.g1, O.g2, O.g3, O.g4, O.g5, O.g6, O.g7, O.g9, O.g10, O.g11, O.p0, O.p7, O.a1, O.a2, O.a3, O.a4, O.a5, O.a6, O.a7, O.a8, O.a9, e9, em]
        refine cl_mono (m_step O R1 J1 h7) ?_
        rintro r μ2 ⟨rfl, ⟨R2, J2, h72⟩, F2⟩
        rw [← goK_s] at R2 J2
        by_cases hp : goneP s a i = true
        · have ef : fd (goneP s a) (d + 1) i = some i := if_pos hp
          rw [ef] at K
          have hz : ¬ 0 < sd (goK (i + 1) s).1 a := of_decide_eq_true hp
          have E : ∀ Q', cl sh zX6_isCell [.ref m, .int (nI a.val)] μ2 Q' = Q' (some (.int (nI 0))) μ2 := fun Q' => by have q := m_isCell0 (Q := Q') O R2.1 J2.sdb a.isLt (by rw [cI_val]; exact hz); exact q
          simp (disch := first | omega | assumption) only [mm_op_some, true_and, and_true, mm_rc_some, mm_rc_none, pk_mul, nI_add, mm_in_t, nI_clamp, ok0, ok1, ok2, ok3, ok4, n1_0, n0_0, nI_le_, nI_lt_, if_true, if_false, not_true, not_false_eq_true, ce_lt, ce_cl, hf_lt, hf_cl, n0_zz, wp_al0 (y := zX6_gone) dX6_gone_38, wp_il1 (y := zX6_gone) dX6_gone_39, wp_cv1 (y := zX6_gone) kM6_93 (by decide) dX6_gone_40, (show yo zX6_isCell = 6 from rfl), wp_if_eq (y := zX6_gone) 50 (by decide) dX6_gone_43, wp_il3 (y := zX6_gone) dX6_gone_50, wp_is2 (y := zX6_gone) dX6_gone_51, wp_inc3 (y := zX6_gone) (nI 1) ki_1 dX6_gone_52, wp_goto (y := zX6_gone) 23 (by decide) dX6_gone_55, O.oc, O.g0, O.g1, O.g2, O.g3, O.g4, O.g5, O.g6, O.g7, O.g9, O.g10, O.g11, O.p0, O.p7, O.a1, O.a2, O.a3, O.a4, O.a5, O.a6, O.a7, O.a8, O.a9, E]
          have e1 : (nI (i + 1) = (-1 : Int32)) = False := nI_m1 (by omega)
          rw [wp_il3 (y := zX6_gone) dX6_gone_23]
          by_cases q : 50 < i + 1 + 1
          · have q' : (50 < i + 1 + 1) = True := eq_true q
            simp (disch := first | omega | assumption) only [mm_op_some, true_and, and_true, mm_rc_some, mm_rc_none, pk_mul, nI_add, mm_in_t, nI_clamp, ok0, ok1, ok2, ok3, ok4, n1_0, n0_0, nI_le_, nI_lt_, if_true, if_false, not_true, not_false_eq_true, ce_lt, ce_cl, hf_lt, hf_cl, wp_bipush (y := zX6_gone) (nI 50) kb_50 dX6_gone_24, wp_icmp_gt (y := zX6_gone) 58 (by decide) dX6_gone_26, q']
            exact K _ μ2 (F1.trans F2) h72
          · have q' : (50 < i + 1 + 1) = False := eq_false q
            simp (disch := first | omega | assumption) only [mm_op_some, true_and, and_true, mm_rc_some, mm_rc_none, pk_mul, nI_add, mm_in_t, nI_clamp, ok0, ok1, ok2, ok3, ok4, n1_0, n0_0, nI_le_, nI_lt_, if_true, if_false, not_true, not_false_eq_true, ce_lt, ce_cl, hf_lt, hf_cl, wp_bipush (y := zX6_gone) (nI 50) kb_50 dX6_gone_24, wp_icmp_gt (y := zX6_gone) 58 (by decide) dX6_gone_26, wp_il2 (y := zX6_gone) dX6_gone_29, wp_iconst (y := zX6_gone) ((-1)) ki_m1 dX6_gone_30, wp_icmp_ne (y := zX6_gone) 58 (by decide) dX6_gone_31, q', e1]
            exact K _ μ2 (F1.trans F2) h72
        · have ef : fd (goneP s a) (d + 1) i = fd (goneP s a) d (i + 1) := if_neg hp
          rw [ef] at K
          have hz : 0 < sd (goK (i + 1) s).1 a := Classical.byContradiction (fun z => hp (decide_eq_true z))
          have E : ∀ Q', cl sh zX6_isCell [.ref m, .int (nI a.val)] μ2 Q' = Q' (some (.int (nI 1))) μ2 := fun Q' => m_isCellS O R2.1 J2.sdb hz
          simp (disch := first | omega | assumption) only [mm_op_some, true_and, and_true, mm_rc_some, mm_rc_none, pk_mul, nI_add, mm_in_t, nI_clamp, ok0, ok1, ok2, ok3, ok4, n1_0, n0_0, nI_le_, nI_lt_, if_true, if_false, not_true, not_false_eq_true, ce_lt, ce_cl, hf_lt, hf_cl, n1_zz, wp_al0 (y := zX6_gone) dX6_gone_38, wp_il1 (y := zX6_gone) dX6_gone_39, wp_cv1 (y := zX6_gone) kM6_93 (by decide) dX6_gone_40, (show yo zX6_isCell = 6 from rfl), wp_if_eq (y := zX6_gone) 50 (by decide) dX6_gone_43, wp_iconst (y := zX6_gone) ((-1)) ki_m1 dX6_gone_46, wp_goto (y := zX6_gone) 51 (by decide) dX6_gone_47, wp_is2 (y := zX6_gone) dX6_gone_51, wp_inc3 (y := zX6_gone) (nI 1) ki_1 dX6_gone_52, wp_goto (y := zX6_gone) 23 (by decide) dX6_gone_55, O.oc, O.g0, O.g1, O.g2, O.g3, O.g4, O.g5, O.g6, O.g7, O.g9, O.g10, O.g11, O.p0, O.p7, O.a1, O.a2, O.a3, O.a4, O.a5, O.a6, O.a7, O.a8, O.a9, E]
          exact ih (i + 1) μ2 (by omega) R2 J2 h72 (F1.trans F2) K
    simp (disch := first | omega | assumption) only [mm_op_some, true_and, and_true, mm_rc_some, mm_rc_none, pk_mul, nI_add, mm_in_t, nI_clamp, ok0, ok1, ok2, ok3, ok4, n1_0, n0_0, nI_le_, nI_lt_, if_true, if_false, not_true, not_false_eq_true, ce_lt, ce_cl, hf_lt, hf_cl, n1_zz, wp_al0 (y := zX6_gone) dX6_gone_0, wp_iconst (y := zX6_gone) (nI 0) ki_0 dX6_gone_1, wp_putf (y := zX6_gone) kF6_44 rfl dX6_gone_2, wp_al0 (y := zX6_gone) dX6_gone_5, wp_il1 (y := zX6_gone) dX6_gone_6, wp_cv1 (y := zX6_gone) kM6_93 (by decide) dX6_gone_7, (show yo zX6_isCell = 6 from rfl), wp_if_ne (y := zX6_gone) 15 (by decide) dX6_gone_10, wp_al0 (y := zX6_gone) dX6_gone_15, wp_cv0 (y := zX6_gone) kM6_301 (by decide) dX6_gone_16, (show yo zX6_think = 6 from rfl), wp_iconst (y := zX6_gone) ((-1)) ki_m1 dX6_gone_19, wp_is2 (y := zX6_gone) dX6_gone_20, wp_iconst (y := zX6_gone) (nI 1) ki_1 dX6_gone_21, wp_is3 (y := zX6_gone) dX6_gone_22, O.oc, O.g0, O.g1, O.g2, O.g3, O.g4, O.g5, O.g6, O.g7, O.g9, O.g10, O.g11, O.p0, O.p7, O.a1, O.a2, O.a3, O.a4, O.a5, O.a6, O.a7, O.a8, O.a9, E1, E2]
    refine loop 50 0 (mu (mu μ m (upd (μ m) 0 (nI 0))) (m + 2) (cpR ((mu μ m (upd (μ m) 0 (nI 0))) (m + 1)) ((mu μ m (upd (μ m) 0 (nI 0))) (m + 2)) 0 0 1786)) (by omega) R1 J g2 (RM.refl _ _) (fun w μ2 F h7 => ?_)
    have E3 : ∀ Q', cl sh zX6_endThought [.ref m] μ2 Q' = Q' none (mu μ2 (m + 1) (cpR (μ2 (m + 2)) (μ2 (m + 1)) 0 0 1786)) := fun Q' => m_endThought O
    simp (disch := first | omega | assumption) only [mm_op_some, true_and, and_true, mm_rc_some, mm_rc_none, pk_mul, nI_add, mm_in_t, nI_clamp, ok0, ok1, ok2, ok3, ok4, n1_0, n0_0, nI_le_, nI_lt_, if_true, if_false, not_true, not_false_eq_true, ce_lt, ce_cl, hf_lt, hf_cl, wp_al0 (y := zX6_gone) dX6_gone_58, wp_cv0 (y := zX6_gone) kM6_314 (by decide) dX6_gone_59, (show yo zX6_endThought = 6 from rfl), wp_il2 (y := zX6_gone) dX6_gone_62, wp_ireti (y := zX6_gone) rfl dX6_gone_63, O.oc, O.g0, O.g1, O.g2, O.g3, O.g4, O.g5, O.g6, O.g7, O.g9, O.g10, O.g11, O.p0, O.p7, O.a1, O.a2, O.a3, O.a4, O.a5, O.a6, O.a7, O.a8, O.a9, E3]
    exact fin _ F h7
end MGO
