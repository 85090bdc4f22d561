section MLT
variable {sh : mm_Sh} {m : Nat} {M N : Ms} {μ : mm_U} {s : Fo} {Q : Option Value → mm_U → Prop}
theorem m_easiest (O : MoSh sh m) (R : RepM s μ m) (J : Inv s.1) (g0 : μ m 7 = nI 0) : cl sh zX6_easiest [.ref m] μ (MT m μ (a_easiest s, s)) := by
  have R0 := R.mu0 (nI 0)
  have EE : ∀ Q', cl sh zX6_easier [.ref m] (mu μ m (upd (μ m) 0 (nI 0))) Q' = Q' (some (.int (es s.1).1)) (mu μ m (upd (μ m) 0 (nI 0))) := fun Q' => m_easier O R0.1 J
  show wp sh zX6_easiest 0 [.ref m] [] μ _
  unfold a_easiest
  simp (disch := first | omega | assumption) only [mm_op_some, true_and, and_true, mm_rc_some, mm_rc_none, pk_mul, nI_add, mm_in_t, nI_clamp, ok0, ok1, ok2, ok3, ok4, n1_0, n0_0, nI_le_, nI_lt_, if_true, if_false, not_true, not_false_eq_true, ce_lt, ce_cl, hf_lt, hf_cl, wp_al0 (y := zX6_easiest) dX6_easiest_0, wp_iconst (y := zX6_easiest) (nI 0) ki_0 dX6_easiest_1, wp_putf (y := zX6_easiest) kF6_44 rfl dX6_easiest_2, wp_al0 (y := zX6_easiest) dX6_easiest_5, wp_cv0 (y := zX6_easiest) kM6_231 (by decide) dX6_easiest_6, (show yo zX6_easier = 6 from rfl), wp_ireti (y := zX6_easiest) rfl dX6_easiest_9, O.oc, O.g0, O.g1, O.g2, O.g3, O.g4, O.g5, O.g6, O.g7, O.g9, O.g10, O.g11, O.p0, O.p7, O.a1, O.a2, O.a3, O.a4, O.a5, O.a6, O.a7, O.a8, O.a9, EE]
  exact mt_ro g0 rfl (RO.refl _ _) rfl R0 J
theorem m_later (O : MoSh sh m) (R : RepM s μ m) (J : Inv s.1) (g0 : μ m 7 = nI 0) (x what : Int32) : cl sh zX6_later [.ref m, .int x, .int what] μ (MT m μ (a_later s x what, s)) := by
  have R0 := R.mu0 (nI 0)
  have g1 : (mu μ m (upd (μ m) 0 (nI 0))) m 7 = nI 0 := by rw [mu_s, upd_n _ _ (by omega)]; exact g0
  have E2 : ∀ Q', cl sh zX6_think [.ref m] (mu μ m (upd (μ m) 0 (nI 0))) Q' = Q' none (mu (mu μ m (upd (μ m) 0 (nI 0))) (m + 2) (cpR ((mu μ m (upd (μ m) 0 (nI 0))) (m + 1)) ((mu μ m (upd (μ m) 0 (nI 0))) (m + 2)) 0 0 1786)) := fun Q' => m_think O
  show wp sh zX6_later 0 [.ref m, .int x, .int what, .null] [] μ _
  unfold a_later
  by_cases hn : x < 0 ∨ nI 50 < x
  · have E : mm_isin x.toInt64 0 50 = nI 0 := isin_o (a := 0) (b := nI 50) rfl rfl hn
    rw [if_pos (by rcases hn with h | h <;> simp only [h, true_or, or_true])]
    have fin : MT m μ ((-2147483648 : Int32), s) (some (.int (-2147483648))) (mu μ m (upd (μ m) 0 (nI 0))) := mt_ro g0 rfl (RO.refl _ _) rfl R0 J
    generalize MT m μ ((-2147483648 : Int32), s) = QQ at fin ⊢
    simp (disch := first | omega | assumption) only [mm_op_some, true_and, and_true, mm_rc_some, mm_rc_none, pk_mul, nI_add, mm_in_t, nI_clamp, ok0, ok1, ok2, ok3, ok4, n1_0, n0_0, nI_le_, nI_lt_, if_true, if_false, not_true, not_false_eq_true, ce_lt, ce_cl, hf_lt, hf_cl, n0_zz, wp_al0 (y := zX6_later) dX6_later_0, wp_iconst (y := zX6_later) (nI 0) ki_0 dX6_later_1, wp_putf (y := zX6_later) kF6_44 rfl dX6_later_2, wp_il1 (y := zX6_later) dX6_later_5, wp_i2l (y := zX6_later) dX6_later_6, wp_lconst (y := zX6_later) (0) kl_0 dX6_later_7, wp_ldc2 (y := zX6_later) kL6_226 dX6_later_8, wp_in (y := zX6_later) rfl kP6_48 (by decide) dX6_later_11, wp_if_eq (y := zX6_later) 29 (by decide) dX6_later_14, wp_ldc (y := zX6_later) kC6_252 dX6_later_29, wp_ireti (y := zX6_later) rfl dX6_later_31, O.oc, O.g0, O.g1, O.g2, O.g3, O.g4, O.g5, O.g6, O.g7, O.g9, O.g10, O.g11, O.p0, O.p7, O.a1, O.a2, O.a3, O.a4, O.a5, O.a6, O.a7, O.a8, O.a9, E]
    exact fin
  have EN : mm_isin x.toInt64 0 50 = nI 1 := isin_i (a := 0) (b := nI 50) rfl rfl hn
  by_cases hw : what < 0 ∨ nI 4 < what
  · have E : mm_isin what.toInt64 0 4 = nI 0 := isin_o (a := 0) (b := nI 4) rfl rfl hw
    rw [if_pos (by rcases hw with h | h <;> simp only [h, true_or, or_true])]
    have fin : MT m μ ((-2147483648 : Int32), s) (some (.int (-2147483648))) (mu μ m (upd (μ m) 0 (nI 0))) := mt_ro g0 rfl (RO.refl _ _) rfl R0 J
    generalize MT m μ ((-2147483648 : Int32), s) = QQ at fin ⊢
    simp (disch := first | omega | assumption) only [mm_op_some, true_and, and_true, mm_rc_some, mm_rc_none, pk_mul, nI_add, mm_in_t, nI_clamp, ok0, ok1, ok2, ok3, ok4, n1_0, n0_0, nI_le_, nI_lt_, if_true, if_false, not_true, not_false_eq_true, ce_lt, ce_cl, hf_lt, hf_cl, n0_zz, n1_zz, wp_al0 (y := zX6_later) dX6_later_0, wp_iconst (y := zX6_later) (nI 0) ki_0 dX6_later_1, wp_putf (y := zX6_later) kF6_44 rfl dX6_later_2, wp_il1 (y := zX6_later) dX6_later_5, wp_i2l (y := zX6_later) dX6_later_6, wp_lconst (y := zX6_later) (0) kl_0 dX6_later_7, wp_ldc2 (y := zX6_later) kL6_226 dX6_later_8, wp_in (y := zX6_later) rfl kP6_48 (by decide) dX6_later_11, wp_if_eq (y := zX6_later) 29 (by decide) dX6_later_14, wp_il2 (y := zX6_later) dX6_later_17, wp_i2l (y := zX6_later) dX6_later_18, wp_lconst (y := zX6_later) (0) kl_0 dX6_later_19, wp_ldc2 (y := zX6_later) kL6_324 dX6_later_20, wp_in (y := zX6_later) rfl kP6_48 (by decide) dX6_later_23, wp_if_ne (y := zX6_later) 32 (by decide) dX6_later_26, wp_ldc (y := zX6_later) kC6_252 dX6_later_29, wp_ireti (y := zX6_later) rfl dX6_later_31, O.oc, O.g0, O.g1, O.g2, O.g3, O.g4, O.g5, O.g6, O.g7, O.g9, O.g10, O.g11, O.p0, O.p7, O.a1, O.a2, O.a3, O.a4, O.a5, O.a6, O.a7, O.a8, O.a9, EN, E]
    exact fin
  have EW : mm_isin what.toInt64 0 4 = nI 1 := isin_i (a := 0) (b := nI 4) rfl rfl hw
  rw [if_neg (by
    rintro (t | t | t | t)
    · exact hn (Or.inl t)
    · exact hn (Or.inr t)
    · exact hw (Or.inl t)
    · exact hw (Or.inr t))]
  obtain ⟨n, hn5, rfl⟩ : ∃ n, n ≤ 50 ∧ x = nI n := by
    rcases pk_ix x (n := 51) (by decide) with z | z | ⟨j, hj, rfl⟩
    · exact absurd (Or.inl z) hn
    · refine absurd (Or.inr ?_) hn
      rw [Int32.lt_iff_toInt_lt]
      rw [Int32.le_iff_toInt_le, nI_toInt (by decide)] at z
      rw [nI_toInt (by decide)]
      omega
    · exact ⟨j, by omega, rfl⟩
  rw [nI_clamp (by omega)]
  have R1 : RepM s (mu (mu μ m (upd (μ m) 0 (nI 0))) (m + 2) (cpR ((mu μ m (upd (μ m) 0 (nI 0))) (m + 1)) ((mu μ m (upd (μ m) 0 (nI 0))) (m + 2)) 0 0 1786)) m := th_of R0
  have g2 : (mu (mu μ m (upd (μ m) 0 (nI 0))) (m + 2) (cpR ((mu μ m (upd (μ m) 0 (nI 0))) (m + 1)) ((mu μ m (upd (μ m) 0 (nI 0))) (m + 2)) 0 0 1786)) m 7 = nI 0 := by rw [mu_n _ _ (by omega)]; exact g1
  have i4 : (mm_in (nI 4) 1786 = true) = True := mm_in_t (by decide) (by decide)
  have c4 : (nI 4).toNatClampNeg = 4 := rfl
  have i5 : (mm_in (nI 5) 1786 = true) = True := mm_in_t (by decide) (by decide)
  have c5 : (nI 5).toNatClampNeg = 5 := rfl
  have as4 : (mu (mu μ m (upd (μ m) 0 (nI 0))) (m + 2) (cpR ((mu μ m (upd (μ m) 0 (nI 0))) (m + 1)) ((mu μ m (upd (μ m) 0 (nI 0))) (m + 2)) 0 0 1786)) (m + 2) 4 = s.2.2.2 7 := by
    rw [mu_s]
    unfold cpR
    rw [if_pos (by omega)]
    exact R0.2.2.2.2.2.1
  have as5 : (mu (mu μ m (upd (μ m) 0 (nI 0))) (m + 2) (cpR ((mu μ m (upd (μ m) 0 (nI 0))) (m + 1)) ((mu μ m (upd (μ m) 0 (nI 0))) (m + 2)) 0 0 1786)) (m + 2) 5 = s.2.2.2 8 := by
    rw [mu_s]
    unfold cpR
    rw [if_pos (by omega)]
    exact R0.2.2.2.2.2.2.1
  have fin : ∀ v μ2, RM (mu (mu μ m (upd (μ m) 0 (nI 0))) (m + 2) (cpR ((mu μ m (upd (μ m) 0 (nI 0))) (m + 1)) ((mu μ m (upd (μ m) 0 (nI 0))) (m + 2)) 0 0 1786)) μ2 m → μ2 m 7 = nI 0 → MT m μ (v, s) (some (.int v)) (mu μ2 (m + 1) (cpR (μ2 (m + 2)) (μ2 (m + 1)) 0 0 1786)) := fun v μ2 F h7 => th_end R0 J g0 F.rs h7
  have start : ∀ QQ, (∀ μ2, RepM (goK n s) μ2 m → Inv (goK n s).1 → RM (mu (mu μ m (upd (μ m) 0 (nI 0))) (m + 2) (cpR ((mu μ m (upd (μ m) 0 (nI 0))) (m + 1)) ((mu μ m (upd (μ m) 0 (nI 0))) (m + 2)) 0 0 1786)) μ2 m → μ2 m 7 = nI 0 → ∀ v3, wp sh zX6_later 53 [.ref m, .int (nI n), .int what, v3] [] μ2 QQ) → wp sh zX6_later 0 [.ref m, .int (nI n), .int what, .null] [] μ QQ := by
    intro QQ K
    have loop : ∀ d i μ1, i + d = n → RepM (goK i s) μ1 m → Inv (goK i s).1 → μ1 m 7 = nI 0 → RM (mu (mu μ m (upd (μ m) 0 (nI 0))) (m + 2) (cpR ((mu μ m (upd (μ m) 0 (nI 0))) (m + 1)) ((mu μ m (upd (μ m) 0 (nI 0))) (m + 2)) 0 0 1786)) μ1 m → wp sh zX6_later 38 [.ref m, .int (nI n), .int what, .int (nI i)] [] μ1 QQ := by
      intro d
      induction d with
      | zero =>
        intro i μ1 hi R1 J1 h7 F1
        have e : i = n := by omega
        rw [e] at R1 J1 ⊢
        rw [wp_il3 (y := zX6_later) dX6_later_38]
        simp (disch := first | omega | assumption) only [mm_op_some, true_and, and_true, mm_rc_some, mm_rc_none, pk_mul, nI_add, mm_in_t, nI_clamp, ok0, ok1, ok2, ok3, ok4, n1_0, n0_0, nI_le_, nI_lt_, if_true, if_false, not_true, not_false_eq_true, ce_lt, ce_cl, hf_lt, hf_cl, wp_il1 (y := zX6_later) dX6_later_39, wp_icmp_ge (y := zX6_later) 53 (by decide) dX6_later_40, Nat.le_refl]
        exact K _ R1 J1 F1 h7 _
      | succ d ih =>
        intro i μ1 hi R1 J1 h7 F1
        have h9 : (n ≤ i) = False := eq_false (by omega)
        rw [wp_il3 (y := zX6_later) dX6_later_38]
        simp (disch := first | omega | assumption) only [mm_op_some, true_and, and_true, mm_rc_some, mm_rc_none, pk_mul, nI_add, mm_in_t, nI_clamp, ok0, ok1, ok2, ok3, ok4, n1_0, n0_0, nI_le_, nI_lt_, if_true, if_false, not_true, not_false_eq_true, ce_lt, ce_cl, hf_lt, hf_cl, wp_il1 (y := zX6_later) dX6_later_39, wp_icmp_ge (y := zX6_later) 53 (by decide) dX6_later_40, wp_al0 (y := zX6_later) dX6_later_43, wp_cv0 (y := zX6_later) kM6_228 (by decide) dX6_later_44, (show yo zX6_step = 6 from rfl), O.oc, O.g0, O.g1, O.g2, O.g3, O.g4, O.g5, O.g6, O.g7, O.g9, O.g10, O.g11, O.p0, O.p7, O.a1, O.a2, O.a3, O.a4, O.a5, O.a6, O.a7, O.a8, O.a9, h9]
        refine cl_mono (m_step O R1 J1 h7) ?_
        rintro r μ2 ⟨rfl, ⟨R2, J2, h72⟩, F2⟩
        simp (disch := first | omega | assumption) only [mm_op_some, true_and, and_true, mm_rc_some, mm_rc_none, pk_mul, nI_add, mm_in_t, nI_clamp, ok0, ok1, ok2, ok3, ok4, n1_0, n0_0, nI_le_, nI_lt_, if_true, if_false, not_true, not_false_eq_true, ce_lt, ce_cl, hf_lt, hf_cl, wp_inc3 (y := zX6_later) (nI 1) ki_1 dX6_later_47, wp_goto (y := zX6_later) 38 (by decide) dX6_later_50, O.oc, O.g0, O.g1, O.g2, O.g3, O.g4, O.g5, O.g6, O.g7, O.g9, O.g10, O.g11, O.p0, O.p7, O.a1, O.a2, O.a3, O.a4, O.a5, O.a6, O.a7, O.a8, O.a9]
        rw [← goK_s] at R2 J2
        exact ih (i + 1) μ2 (by omega) R2 J2 h72 (F1.trans F2)
    simp (disch := first | omega | assumption) only [mm_op_some, true_and, and_true, mm_rc_some, mm_rc_none, pk_mul, nI_add, mm_in_t, nI_clamp, ok0, ok1, ok2, ok3, ok4, n1_0, n0_0, nI_le_, nI_lt_, if_true, if_false, not_true, not_false_eq_true, ce_lt, ce_cl, hf_lt, hf_cl, n1_zz, wp_al0 (y := zX6_later) dX6_later_0, wp_iconst (y := zX6_later) (nI 0) ki_0 dX6_later_1, wp_putf (y := zX6_later) kF6_44 rfl dX6_later_2, wp_il1 (y := zX6_later) dX6_later_5, wp_i2l (y := zX6_later) dX6_later_6, wp_lconst (y := zX6_later) (0) kl_0 dX6_later_7, wp_ldc2 (y := zX6_later) kL6_226 dX6_later_8, wp_in (y := zX6_later) rfl kP6_48 (by decide) dX6_later_11, wp_if_eq (y := zX6_later) 29 (by decide) dX6_later_14, wp_il2 (y := zX6_later) dX6_later_17, wp_i2l (y := zX6_later) dX6_later_18, wp_lconst (y := zX6_later) (0) kl_0 dX6_later_19, wp_ldc2 (y := zX6_later) kL6_324 dX6_later_20, wp_in (y := zX6_later) rfl kP6_48 (by decide) dX6_later_23, wp_if_ne (y := zX6_later) 32 (by decide) dX6_later_26, wp_al0 (y := zX6_later) dX6_later_32, wp_cv0 (y := zX6_later) kM6_301 (by decide) dX6_later_33, (show yo zX6_think = 6 from rfl), wp_iconst (y := zX6_later) (nI 0) ki_0 dX6_later_36, wp_is3 (y := zX6_later) dX6_later_37, O.oc, O.g0, O.g1, O.g2, O.g3, O.g4, O.g5, O.g6, O.g7, O.g9, O.g10, O.g11, O.p0, O.p7, O.a1, O.a2, O.a3, O.a4, O.a5, O.a6, O.a7, O.a8, O.a9, EN, EW, E2]
    exact loop n 0 _ (by omega) R1 J g2 (RM.refl _ _)
  by_cases w0 : what = nI 0
  · subst w0
    rw [if_pos rfl]
    have fin := fin (sC (goK n s).1 (fun _ => nI 1))
    generalize MT m μ (sC (goK n s).1 (fun _ => nI 1), s) = QQ at fin ⊢
    refine start QQ (fun μ2 R2 J2 F2 h72 v3 => ?_)
    have E3 : ∀ Q', cl sh zX6_endThought [.ref m] μ2 Q' = Q' none (mu μ2 (m + 1) (cpR (μ2 (m + 2)) (μ2 (m + 1)) 0 0 1786)) := fun Q' => m_endThought O
    have EC : ∀ Q', cl sh zX6_many [.ref m, .int (nI 1)] μ2 Q' = Q' (some (.int (sC (goK n s).1 (fun _ => nI 1)))) μ2 := fun Q' => m_manyC O R2.1 J2
    simp (disch := first | omega | assumption) only [mm_op_some, true_and, and_true, mm_rc_some, mm_rc_none, pk_mul, nI_add, mm_in_t, nI_clamp, ok0, ok1, ok2, ok3, ok4, n1_0, n0_0, nI_le_, nI_lt_, if_true, if_false, not_true, not_false_eq_true, ce_lt, ce_cl, hf_lt, hf_cl, wp_il2 (y := zX6_later) dX6_later_53, wp_if_ne (y := zX6_later) 65 (by decide) dX6_later_54, wp_al0 (y := zX6_later) dX6_later_57, wp_iconst (y := zX6_later) (nI 1) ki_1 dX6_later_58, wp_cv1 (y := zX6_later) kM6_317 (by decide) dX6_later_59, (show yo zX6_many = 6 from rfl), wp_goto (y := zX6_later) 124 (by decide) dX6_later_62, wp_is3 (y := zX6_later) dX6_later_124, wp_al0 (y := zX6_later) dX6_later_125, wp_cv0 (y := zX6_later) kM6_314 (by decide) dX6_later_126, (show yo zX6_endThought = 6 from rfl), wp_il3 (y := zX6_later) dX6_later_129, wp_ireti (y := zX6_later) rfl dX6_later_130, (show (nI 0 = 0) = True from eq_true (by decide)), (show (nI 0 = nI 1) = False from eq_false (by decide)), (show (nI 0 = nI 2) = False from eq_false (by decide)), (show (nI 0 = nI 3) = False from eq_false (by decide)), O.oc, O.g0, O.g1, O.g2, O.g3, O.g4, O.g5, O.g6, O.g7, O.g9, O.g10, O.g11, O.p0, O.p7, O.a1, O.a2, O.a3, O.a4, O.a5, O.a6, O.a7, O.a8, O.a9, E3, EC]
    exact fin _ F2 h72
  · rw [if_neg w0]
    by_cases w1 : what = nI 1
    · subst w1
      rw [if_pos rfl]
      have fin := fin (stn (goK n s).1)
      generalize MT m μ (stn (goK n s).1, s) = QQ at fin ⊢
      refine start QQ (fun μ2 R2 J2 F2 h72 v3 => ?_)
      have E3 : ∀ Q', cl sh zX6_endThought [.ref m] μ2 Q' = Q' none (mu μ2 (m + 1) (cpR (μ2 (m + 2)) (μ2 (m + 1)) 0 0 1786)) := fun Q' => m_endThought O
      have ES : ∀ Q', cl sh zX6_strain [.ref m] μ2 Q' = Q' (some (.int (stn (goK n s).1))) μ2 := fun Q' => m_strain O R2.1 J2
      simp (disch := first | omega | assumption) only [mm_op_some, true_and, and_true, mm_rc_some, mm_rc_none, pk_mul, nI_add, mm_in_t, nI_clamp, ok0, ok1, ok2, ok3, ok4, n1_0, n0_0, nI_le_, nI_lt_, if_true, if_false, not_true, not_false_eq_true, ce_lt, ce_cl, hf_lt, hf_cl, wp_il2 (y := zX6_later) dX6_later_53, wp_if_ne (y := zX6_later) 65 (by decide) dX6_later_54, wp_il2 (y := zX6_later) dX6_later_65, wp_iconst (y := zX6_later) (nI 1) ki_1 dX6_later_66, wp_icmp_ne (y := zX6_later) 77 (by decide) dX6_later_67, wp_al0 (y := zX6_later) dX6_later_70, wp_cv0 (y := zX6_later) kM6_288 (by decide) dX6_later_71, (show yo zX6_strain = 6 from rfl), wp_goto (y := zX6_later) 124 (by decide) dX6_later_74, wp_is3 (y := zX6_later) dX6_later_124, wp_al0 (y := zX6_later) dX6_later_125, wp_cv0 (y := zX6_later) kM6_314 (by decide) dX6_later_126, (show yo zX6_endThought = 6 from rfl), wp_il3 (y := zX6_later) dX6_later_129, wp_ireti (y := zX6_later) rfl dX6_later_130, (show (nI 1 = 0) = False from eq_false (by decide)), (show (nI 1 = nI 1) = True from eq_true (by decide)), (show (nI 1 = nI 2) = False from eq_false (by decide)), (show (nI 1 = nI 3) = False from eq_false (by decide)), O.oc, O.g0, O.g1, O.g2, O.g3, O.g4, O.g5, O.g6, O.g7, O.g9, O.g10, O.g11, O.p0, O.p7, O.a1, O.a2, O.a3, O.a4, O.a5, O.a6, O.a7, O.a8, O.a9, E3, ES]
      exact fin _ F2 h72
    · rw [if_neg w1]
      by_cases w2 : what = nI 2
      · subst w2
        rw [if_pos rfl]
        have fin := fin ((goK n s).2.2.2 7 - s.2.2.2 7)
        generalize MT m μ ((goK n s).2.2.2 7 - s.2.2.2 7, s) = QQ at fin ⊢
        refine start QQ (fun μ2 R2 J2 F2 h72 v3 => ?_)
        have E3 : ∀ Q', cl sh zX6_endThought [.ref m] μ2 Q' = Q' none (mu μ2 (m + 1) (cpR (μ2 (m + 2)) (μ2 (m + 1)) 0 0 1786)) := fun Q' => m_endThought O
        have a1 : μ2 (m + 1) 4 = (goK n s).2.2.2 7 := R2.2.2.2.2.2.1
        have a2 : μ2 (m + 2) 4 = s.2.2.2 7 := by rw [F2.1 (m + 2) (by omega) (by omega)]; exact as4
        simp (disch := first | omega | assumption) only [mm_op_some, true_and, and_true, mm_rc_some, mm_rc_none, pk_mul, nI_add, mm_in_t, nI_clamp, ok0, ok1, ok2, ok3, ok4, n1_0, n0_0, nI_le_, nI_lt_, if_true, if_false, not_true, not_false_eq_true, ce_lt, ce_cl, hf_lt, hf_cl, wp_il2 (y := zX6_later) dX6_later_53, wp_if_ne (y := zX6_later) 65 (by decide) dX6_later_54, wp_il2 (y := zX6_later) dX6_later_65, wp_iconst (y := zX6_later) (nI 1) ki_1 dX6_later_66, wp_icmp_ne (y := zX6_later) 77 (by decide) dX6_later_67, wp_il2 (y := zX6_later) dX6_later_77, wp_iconst (y := zX6_later) (nI 2) ki_2 dX6_later_78, wp_icmp_ne (y := zX6_later) 98 (by decide) dX6_later_79, wp_al0 (y := zX6_later) dX6_later_82, wp_getf (y := zX6_later) kF6_9 dX6_later_83, wp_iconst (y := zX6_later) (nI 4) ki_4 dX6_later_86, wp_iald (y := zX6_later) dX6_later_87, wp_al0 (y := zX6_later) dX6_later_88, wp_getf (y := zX6_later) kF6_15 dX6_later_89, wp_iconst (y := zX6_later) (nI 4) ki_4 dX6_later_92, wp_iald (y := zX6_later) dX6_later_93, wp_isub (y := zX6_later) dX6_later_94, wp_goto (y := zX6_later) 124 (by decide) dX6_later_95, wp_is3 (y := zX6_later) dX6_later_124, wp_al0 (y := zX6_later) dX6_later_125, wp_cv0 (y := zX6_later) kM6_314 (by decide) dX6_later_126, (show yo zX6_endThought = 6 from rfl), wp_il3 (y := zX6_later) dX6_later_129, wp_ireti (y := zX6_later) rfl dX6_later_130, (show (nI 2 = 0) = False from eq_false (by decide)), (show (nI 2 = nI 1) = False from eq_false (by decide)), (show (nI 2 = nI 2) = True from eq_true (by decide)), (show (nI 2 = nI 3) = False from eq_false (by decide)), O.oc, O.g0, O.g1, O.g2, O.g3, O.g4, O.g5, O.g6, O.g7, O.g9, O.g10, O.g11, O.p0, O.p7, O.a1, O.a2, O.a3, O.a4, O.a5, O.a6, O.a7, O.a8, O.a9, E3, i4, c4, a1, a2]
        exact fin _ F2 h72
      · rw [if_neg w2]
        by_cases w3 : what = nI 3
        · subst w3
          rw [if_pos rfl]
          have fin := fin ((goK n s).2.2.2 8 - s.2.2.2 8)
          generalize MT m μ ((goK n s).2.2.2 8 - s.2.2.2 8, s) = QQ at fin ⊢
          refine start QQ (fun μ2 R2 J2 F2 h72 v3 => ?_)
          have E3 : ∀ Q', cl sh zX6_endThought [.ref m] μ2 Q' = Q' none (mu μ2 (m + 1) (cpR (μ2 (m + 2)) (μ2 (m + 1)) 0 0 1786)) := fun Q' => m_endThought O
          have a1 : μ2 (m + 1) 5 = (goK n s).2.2.2 8 := R2.2.2.2.2.2.2.1
          have a2 : μ2 (m + 2) 5 = s.2.2.2 8 := by rw [F2.1 (m + 2) (by omega) (by omega)]; exact as5
          simp (disch := first | omega | assumption) only [mm_op_some, true_and, and_true, mm_rc_some, mm_rc_none, pk_mul, nI_add, mm_in_t, nI_clamp, ok0, ok1, ok2, ok3, ok4, n1_0, n0_0, nI_le_, nI_lt_, if_true, if_false, not_true, not_false_eq_true, ce_lt, ce_cl, hf_lt, hf_cl, wp_il2 (y := zX6_later) dX6_later_53, wp_if_ne (y := zX6_later) 65 (by decide) dX6_later_54, wp_il2 (y := zX6_later) dX6_later_65, wp_iconst (y := zX6_later) (nI 1) ki_1 dX6_later_66, wp_icmp_ne (y := zX6_later) 77 (by decide) dX6_later_67, wp_il2 (y := zX6_later) dX6_later_77, wp_iconst (y := zX6_later) (nI 2) ki_2 dX6_later_78, wp_icmp_ne (y := zX6_later) 98 (by decide) dX6_later_79, wp_il2 (y := zX6_later) dX6_later_98, wp_iconst (y := zX6_later) (nI 3) ki_3 dX6_later_99, wp_icmp_ne (y := zX6_later) 119 (by decide) dX6_later_100, wp_al0 (y := zX6_later) dX6_later_103, wp_getf (y := zX6_later) kF6_9 dX6_later_104, wp_iconst (y := zX6_later) (nI 5) ki_5 dX6_later_107, wp_iald (y := zX6_later) dX6_later_108, wp_al0 (y := zX6_later) dX6_later_109, wp_getf (y := zX6_later) kF6_15 dX6_later_110, wp_iconst (y := zX6_later) (nI 5) ki_5 dX6_later_113, wp_iald (y := zX6_later) dX6_later_114, wp_isub (y := zX6_later) dX6_later_115, wp_goto (y := zX6_later) 124 (by decide) dX6_later_116, wp_is3 (y := zX6_later) dX6_later_124, wp_al0 (y := zX6_later) dX6_later_125, wp_cv0 (y := zX6_later) kM6_314 (by decide) dX6_later_126, (show yo zX6_endThought = 6 from rfl), wp_il3 (y := zX6_later) dX6_later_129, wp_ireti (y := zX6_later) rfl dX6_later_130, (show (nI 3 = 0) = False from eq_false (by decide)), (show (nI 3 = nI 1) = False from eq_false (by decide)), (show (nI 3 = nI 2) = False from eq_false (by decide)), (show (nI 3 = nI 3) = True from eq_true (by decide)), O.oc, O.g0, O.g1, O.g2, O.g3, O.g4, O.g5, O.g6, O.g7, O.g9, O.g10, O.g11, O.p0, O.p7, O.a1, O.a2, O.a3, O.a4, O.a5, O.a6, O.a7, O.a8, O.a9, E3, i5, c5, a1, a2]
          exact fin _ F2 h72
        · rw [if_neg w3]
          have w4 : what = nI 4 := by
            have hh : ∀ j : Nat, j < 5 → what.toInt = j → what = nI j := fun j hj e => Int32.toInt_inj.mp (by rw [e, nI_toInt (by omega)])
            have e0 : (0 : Int32).toInt = 0 := rfl
            have e4 : (nI 4).toInt = 4 := rfl
            rw [Int32.lt_iff_toInt_lt, Int32.lt_iff_toInt_lt, e0, e4] at hw
            have : what.toInt = 0 ∨ what.toInt = 1 ∨ what.toInt = 2 ∨ what.toInt = 3 ∨ what.toInt = 4 := by omega
            rcases this with e | e | e | e | e
            · exact absurd (hh 0 (by omega) e) w0
            · exact absurd (hh 1 (by omega) e) w1
            · exact absurd (hh 2 (by omega) e) w2
            · exact absurd (hh 3 (by omega) e) w3
            · exact hh 4 (by omega) e
          subst w4
          have fin := fin (it (fun i a => if 0 < sd (goK n s).1 (cI i) then imin a (ar (goK n s).1 (cI i)) else a) 48 0 2147483647)
          generalize MT m μ (it (fun i a => if 0 < sd (goK n s).1 (cI i) then imin a (ar (goK n s).1 (cI i)) else a) 48 0 2147483647, s) = QQ at fin ⊢
          refine start QQ (fun μ2 R2 J2 F2 h72 v3 => ?_)
          have E3 : ∀ Q', cl sh zX6_endThought [.ref m] μ2 Q' = Q' none (mu μ2 (m + 1) (cpR (μ2 (m + 2)) (μ2 (m + 1)) 0 0 1786)) := fun Q' => m_endThought O
          have EO := fun Q' => m_ofCells4 (Q := Q') O R2.1 J2
          simp (disch := first | omega | assumption) only [mm_op_some, true_and, and_true, mm_rc_some, mm_rc_none, pk_mul, nI_add, mm_in_t, nI_clamp, ok0, ok1, ok2, ok3, ok4, n1_0, n0_0, nI_le_, nI_lt_, if_true, if_false, not_true, not_false_eq_true, ce_lt, ce_cl, hf_lt, hf_cl, wp_il2 (y := zX6_later) dX6_later_53, wp_if_ne (y := zX6_later) 65 (by decide) dX6_later_54, wp_il2 (y := zX6_later) dX6_later_65, wp_iconst (y := zX6_later) (nI 1) ki_1 dX6_later_66, wp_icmp_ne (y := zX6_later) 77 (by decide) dX6_later_67, wp_il2 (y := zX6_later) dX6_later_77, wp_iconst (y := zX6_later) (nI 2) ki_2 dX6_later_78, wp_icmp_ne (y := zX6_later) 98 (by decide) dX6_later_79, wp_il2 (y := zX6_later) dX6_later_98, wp_iconst (y := zX6_later) (nI 3) ki_3 dX6_later_99, wp_icmp_ne (y := zX6_later) 119 (by decide) dX6_later_100, wp_al0 (y := zX6_later) dX6_later_119, wp_iconst (y := zX6_later) (nI 4) ki_4 dX6_later_120, wp_cv1 (y := zX6_later) kM6_295 (by decide) dX6_later_121, (show yo zX6_ofCells = 6 from rfl), wp_is3 (y := zX6_later) dX6_later_124, wp_al0 (y := zX6_later) dX6_later_125, wp_cv0 (y := zX6_later) kM6_314 (by decide) dX6_later_126, (show yo zX6_endThought = 6 from rfl), wp_il3 (y := zX6_later) dX6_later_129, wp_ireti (y := zX6_later) rfl dX6_later_130, (show (nI 4 = 0) = False from eq_false (by decide)), (show (nI 4 = nI 1) = False from eq_false (by decide)), (show (nI 4 = nI 2) = False from eq_false (by decide)), (show (nI 4 = nI 3) = False from eq_false (by decide)), O.oc, O.g0, O.g1, O.g2, O.g3, O.g4, O.g5, O.g6, O.g7, O.g9, O.g10, O.g11, O.p0, O.p7, O.a1, O.a2, O.a3, O.a4, O.a5, O.a6, O.a7, O.a8, O.a9, E3, EO]
          exact fin _ F2 h72
end MLT
