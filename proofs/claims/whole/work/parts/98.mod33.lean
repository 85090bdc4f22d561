section MAL
variable {sh : mm_Sh} {m : Nat} {M N : Ms} {μ : mm_U} {s : Fo} {Q : Option Value → mm_U → Prop}
theorem len_hi {k : Nat} (h2 : k ≤ 288) : ((nI k).toInt64 - 1).toInt = (k : Int) - 1 := by
  rw [Int64.toInt_sub, Int32.toInt_toInt64, nI_toInt (by omega)]
  have e1 : (1 : Int64).toInt = 1 := rfl
  rw [e1, Int.bmod_def]
  omega
theorem m_log (O : MoSh sh m) (R : RepM s μ m) (J : Inv s.1) (g0 : μ m 7 = nI 0) (i what : Int32) : cl sh zX6_log [.ref m, .int i, .int what] μ (MT m μ (a_log s i what, s)) := by
  have R0 := R.mu0 (nI 0)
  have v8 := R0.2.2.2.2.2.2.2.2.2.1
  have l30 := R0.2.2.2.2.2.2.2.2.2.2.2.1
  have hL := R0.2.2.2.2.2.2.2.2.2.2.2.2
  have i8 : (mm_in (nI 8) 1786 = true) = True := mm_in_t (by decide) (by decide)
  have c8 : (nI 8).toNatClampNeg = 8 := rfl
  have hi := len_hi (k := s.2.1.length) (by omega)
  have z0 : (0 : Int64).toInt = 0 := rfl
  show wp sh zX6_log 0 [.ref m, .int i, .int what] [] μ _
  unfold a_log lgR
  have bad : ∀ QQ, QQ = MT m μ ((-1 : Int32), s) → QQ (some (.int (-1))) (mu μ m (upd (μ m) 0 (nI 0))) := fun QQ e => by
    rw [e]
    exact mt_ro g0 rfl (RO.refl _ _) rfl R0 J
  rcases pk_ix i (n := s.2.1.length) (by omega) with z | z | ⟨k, hk, rfl⟩
  · rw [if_pos z]
    have E : mm_isin i.toInt64 0 ((nI s.2.1.length).toInt64 - 1) = nI 0 := isin_f (fun q => by
      rw [hi, z0] at q
      rw [Int32.lt_iff_toInt_lt] at z
      have e0 : (0 : Int32).toInt = 0 := rfl
      omega)
    have bad := bad _ rfl
    generalize MT m μ ((-1 : Int32), s) = QQ at bad ⊢
    simp (disch := first | omega | assumption) only [mm_op_some, true_and, and_true, mm_rc_some, mm_rc_none, pk_mul, nI_add, mm_in_t, nI_clamp, ok0, ok1, ok2, ok3, ok4, n1_0, n0_0, nI_le_, nI_lt_, if_true, if_false, not_true, not_false_eq_true, ce_lt, ce_cl, hf_lt, hf_cl, n0_zz, wp_al0 (y := zX6_log) dX6_log_0, wp_iconst (y := zX6_log) (nI 0) ki_0 dX6_log_1, wp_putf (y := zX6_log) kF6_44 rfl dX6_log_2, wp_il1 (y := zX6_log) dX6_log_5, wp_i2l (y := zX6_log) dX6_log_6, wp_lconst (y := zX6_log) (0) kl_0 dX6_log_7, wp_al0 (y := zX6_log) dX6_log_8, wp_getf (y := zX6_log) kF6_9 dX6_log_9, wp_bipush (y := zX6_log) (nI 8) kb_8 dX6_log_12, wp_iald (y := zX6_log) dX6_log_14, wp_i2l (y := zX6_log) dX6_log_15, wp_lconst (y := zX6_log) (1) kl_1 dX6_log_16, wp_lsub (y := zX6_log) dX6_log_17, wp_in (y := zX6_log) rfl kP6_48 (by decide) dX6_log_18, wp_if_eq (y := zX6_log) 63 (by decide) dX6_log_21, wp_iconst (y := zX6_log) ((-1)) ki_m1 dX6_log_63, wp_ireti (y := zX6_log) rfl dX6_log_64, O.oc, O.g0, O.g1, O.g2, O.g3, O.g4, O.g5, O.g6, O.g7, O.g9, O.g10, O.g11, O.p0, O.p7, O.a1, O.a2, O.a3, O.a4, O.a5, O.a6, O.a7, O.a8, O.a9, i8, c8, v8, E]
    exact bad
  · have E : mm_isin i.toInt64 0 ((nI s.2.1.length).toInt64 - 1) = nI 0 := isin_f (fun q => by
      rw [hi, z0] at q
      rw [Int32.le_iff_toInt_le, nI_toInt (by omega)] at z
      omega)
    have hi0 : ¬ i < 0 := fun q => by
      rw [Int32.lt_iff_toInt_lt] at q
      rw [Int32.le_iff_toInt_le, nI_toInt (by omega)] at z
      have e0 : (0 : Int32).toInt = 0 := rfl
      omega
    have en : s.2.1[i.toNatClampNeg]? = none := by
      rw [List.getElem?_eq_none_iff]
      rw [Int32.le_iff_toInt_le, nI_toInt (by omega)] at z
      have : (i.toNatClampNeg : Int) = i.toInt := Int.toNat_of_nonneg (by omega)
      omega
    rw [if_neg hi0, en]
    have bad := bad _ rfl
    dsimp only
    generalize MT m μ ((-1 : Int32), s) = QQ at bad ⊢
    simp (disch := first | omega | assumption) only [mm_op_some, true_and, and_true, mm_rc_some, mm_rc_none, pk_mul, nI_add, mm_in_t, nI_clamp, ok0, ok1, ok2, ok3, ok4, n1_0, n0_0, nI_le_, nI_lt_, if_true, if_false, not_true, not_false_eq_true, ce_lt, ce_cl, hf_lt, hf_cl, n0_zz, wp_al0 (y := zX6_log) dX6_log_0, wp_iconst (y := zX6_log) (nI 0) ki_0 dX6_log_1, wp_putf (y := zX6_log) kF6_44 rfl dX6_log_2, wp_il1 (y := zX6_log) dX6_log_5, wp_i2l (y := zX6_log) dX6_log_6, wp_lconst (y := zX6_log) (0) kl_0 dX6_log_7, wp_al0 (y := zX6_log) dX6_log_8, wp_getf (y := zX6_log) kF6_9 dX6_log_9, wp_bipush (y := zX6_log) (nI 8) kb_8 dX6_log_12, wp_iald (y := zX6_log) dX6_log_14, wp_i2l (y := zX6_log) dX6_log_15, wp_lconst (y := zX6_log) (1) kl_1 dX6_log_16, wp_lsub (y := zX6_log) dX6_log_17, wp_in (y := zX6_log) rfl kP6_48 (by decide) dX6_log_18, wp_if_eq (y := zX6_log) 63 (by decide) dX6_log_21, wp_iconst (y := zX6_log) ((-1)) ki_m1 dX6_log_63, wp_ireti (y := zX6_log) rfl dX6_log_64, O.oc, O.g0, O.g1, O.g2, O.g3, O.g4, O.g5, O.g6, O.g7, O.g9, O.g10, O.g11, O.p0, O.p7, O.a1, O.a2, O.a3, O.a4, O.a5, O.a6, O.a7, O.a8, O.a9, i8, c8, v8, E]
    exact bad
  · have E : mm_isin (nI k).toInt64 0 ((nI s.2.1.length).toInt64 - 1) = nI 1 := isin_t (by
      rw [hi, z0, nI_toInt (by omega)]
      omega)
    have hi0 : ¬ nI k < 0 := nI_pos (by omega)
    rw [if_neg hi0, nI_clamp (by omega)]
    have he : s.2.1[k]? = some s.2.1[k] := List.getElem?_eq_getElem hk
    obtain ⟨r0, r1, r2⟩ := hL k _ he
    rw [he]
    dsimp only
    generalize s.2.1[k] = ev at r0 r1 r2 ⊢
    have e1 : nI s.2.1.length - nI 1 = nI (s.2.1.length - 1) := pk_sub (by omega)
    have e2 : nI (s.2.1.length - 1) - nI k = nI (s.2.1.length - 1 - k) := pk_sub (by omega)
    have r0 : (mu μ m (upd (μ m) 0 (nI 0))) (m + 1) (1696 + 3 * (s.2.1.length - 1 - k) + 0) = ev.1 := r0
    by_cases w0 : what = nI 0
    · subst w0
      have ee : mm_isin (nI 0).toInt64 0 2 = nI 1 := by decide
      rw [if_pos rfl]
      simp (disch := first | omega | assumption) only [mm_op_some, true_and, and_true, mm_rc_some, mm_rc_none, pk_mul, nI_add, mm_in_t, nI_clamp, ok0, ok1, ok2, ok3, ok4, n1_0, n0_0, nI_le_, nI_lt_, if_true, if_false, not_true, not_false_eq_true, ce_lt, ce_cl, hf_lt, hf_cl, n1_zz, wp_al0 (y := zX6_log) dX6_log_0, wp_iconst (y := zX6_log) (nI 0) ki_0 dX6_log_1, wp_putf (y := zX6_log) kF6_44 rfl dX6_log_2, wp_il1 (y := zX6_log) dX6_log_5, wp_i2l (y := zX6_log) dX6_log_6, wp_lconst (y := zX6_log) (0) kl_0 dX6_log_7, wp_al0 (y := zX6_log) dX6_log_8, wp_getf (y := zX6_log) kF6_9 dX6_log_9, wp_bipush (y := zX6_log) (nI 8) kb_8 dX6_log_12, wp_iald (y := zX6_log) dX6_log_14, wp_i2l (y := zX6_log) dX6_log_15, wp_lconst (y := zX6_log) (1) kl_1 dX6_log_16, wp_lsub (y := zX6_log) dX6_log_17, wp_in (y := zX6_log) rfl kP6_48 (by decide) dX6_log_18, wp_if_eq (y := zX6_log) 63 (by decide) dX6_log_21, wp_il2 (y := zX6_log) dX6_log_24, wp_i2l (y := zX6_log) dX6_log_25, wp_lconst (y := zX6_log) (0) kl_0 dX6_log_26, wp_ldc2 (y := zX6_log) kL6_253 dX6_log_27, wp_in (y := zX6_log) rfl kP6_48 (by decide) dX6_log_30, wp_if_eq (y := zX6_log) 63 (by decide) dX6_log_33, wp_al0 (y := zX6_log) dX6_log_36, wp_getf (y := zX6_log) kF6_9 dX6_log_37, wp_sipush (y := zX6_log) (nI 1696) ks_1696 dX6_log_40, wp_iconst (y := zX6_log) (nI 3) ki_3 dX6_log_43, wp_al0 (y := zX6_log) dX6_log_44, wp_getf (y := zX6_log) kF6_9 dX6_log_45, wp_bipush (y := zX6_log) (nI 8) kb_8 dX6_log_48, wp_iald (y := zX6_log) dX6_log_50, wp_iconst (y := zX6_log) (nI 1) ki_1 dX6_log_51, wp_isub (y := zX6_log) dX6_log_52, wp_il1 (y := zX6_log) dX6_log_53, wp_isub (y := zX6_log) dX6_log_54, wp_imul (y := zX6_log) dX6_log_55, wp_iadd (y := zX6_log) dX6_log_56, wp_il2 (y := zX6_log) dX6_log_57, wp_iadd (y := zX6_log) dX6_log_58, wp_iald (y := zX6_log) dX6_log_59, wp_goto (y := zX6_log) 64 (by decide) dX6_log_60, wp_ireti (y := zX6_log) rfl dX6_log_64, O.oc, O.g0, O.g1, O.g2, O.g3, O.g4, O.g5, O.g6, O.g7, O.g9, O.g10, O.g11, O.p0, O.p7, O.a1, O.a2, O.a3, O.a4, O.a5, O.a6, O.a7, O.a8, O.a9, i8, c8, v8, E, ee, e1, e2, r0]
      exact mt_ro g0 rfl (RO.refl _ _) rfl R0 J
    rw [if_neg w0]
    by_cases w1 : what = nI 1
    · subst w1
      have ee : mm_isin (nI 1).toInt64 0 2 = nI 1 := by decide
      rw [if_pos rfl]
      simp (disch := first | omega | assumption) only [mm_op_some, true_and, and_true, mm_rc_some, mm_rc_none, pk_mul, nI_add, mm_in_t, nI_clamp, ok0, ok1, ok2, ok3, ok4, n1_0, n0_0, nI_le_, nI_lt_, if_true, if_false, not_true, not_false_eq_true, ce_lt, ce_cl, hf_lt, hf_cl, n1_zz, wp_al0 (y := zX6_log) dX6_log_0, wp_iconst (y := zX6_log) (nI 0) ki_0 dX6_log_1, wp_putf (y := zX6_log) kF6_44 rfl dX6_log_2, wp_il1 (y := zX6_log) dX6_log_5, wp_i2l (y := zX6_log) dX6_log_6, wp_lconst (y := zX6_log) (0) kl_0 dX6_log_7, wp_al0 (y := zX6_log) dX6_log_8, wp_getf (y := zX6_log) kF6_9 dX6_log_9, wp_bipush (y := zX6_log) (nI 8) kb_8 dX6_log_12, wp_iald (y := zX6_log) dX6_log_14, wp_i2l (y := zX6_log) dX6_log_15, wp_lconst (y := zX6_log) (1) kl_1 dX6_log_16, wp_lsub (y := zX6_log) dX6_log_17, wp_in (y := zX6_log) rfl kP6_48 (by decide) dX6_log_18, wp_if_eq (y := zX6_log) 63 (by decide) dX6_log_21, wp_il2 (y := zX6_log) dX6_log_24, wp_i2l (y := zX6_log) dX6_log_25, wp_lconst (y := zX6_log) (0) kl_0 dX6_log_26, wp_ldc2 (y := zX6_log) kL6_253 dX6_log_27, wp_in (y := zX6_log) rfl kP6_48 (by decide) dX6_log_30, wp_if_eq (y := zX6_log) 63 (by decide) dX6_log_33, wp_al0 (y := zX6_log) dX6_log_36, wp_getf (y := zX6_log) kF6_9 dX6_log_37, wp_sipush (y := zX6_log) (nI 1696) ks_1696 dX6_log_40, wp_iconst (y := zX6_log) (nI 3) ki_3 dX6_log_43, wp_al0 (y := zX6_log) dX6_log_44, wp_getf (y := zX6_log) kF6_9 dX6_log_45, wp_bipush (y := zX6_log) (nI 8) kb_8 dX6_log_48, wp_iald (y := zX6_log) dX6_log_50, wp_iconst (y := zX6_log) (nI 1) ki_1 dX6_log_51, wp_isub (y := zX6_log) dX6_log_52, wp_il1 (y := zX6_log) dX6_log_53, wp_isub (y := zX6_log) dX6_log_54, wp_imul (y := zX6_log) dX6_log_55, wp_iadd (y := zX6_log) dX6_log_56, wp_il2 (y := zX6_log) dX6_log_57, wp_iadd (y := zX6_log) dX6_log_58, wp_iald (y := zX6_log) dX6_log_59, wp_goto (y := zX6_log) 64 (by decide) dX6_log_60, wp_ireti (y := zX6_log) rfl dX6_log_64, O.oc, O.g0, O.g1, O.g2, O.g3, O.g4, O.g5, O.g6, O.g7, O.g9, O.g10, O.g11, O.p0, O.p7, O.a1, O.a2, O.a3, O.a4, O.a5, O.a6, O.a7, O.a8, O.a9, i8, c8, v8, E, ee, e1, e2, r1]
      exact mt_ro g0 rfl (RO.refl _ _) rfl R0 J
    rw [if_neg w1]
    by_cases w2 : what = nI 2
    · subst w2
      have ee : mm_isin (nI 2).toInt64 0 2 = nI 1 := by decide
      rw [if_pos rfl]
      simp (disch := first | omega | assumption) only [mm_op_some, true_and, and_true, mm_rc_some, mm_rc_none, pk_mul, nI_add, mm_in_t, nI_clamp, ok0, ok1, ok2, ok3, ok4, n1_0, n0_0, nI_le_, nI_lt_, if_true, if_false, not_true, not_false_eq_true, ce_lt, ce_cl, hf_lt, hf_cl, n1_zz, wp_al0 (y := zX6_log) dX6_log_0, wp_iconst (y := zX6_log) (nI 0) ki_0 dX6_log_1, wp_putf (y := zX6_log) kF6_44 rfl dX6_log_2, wp_il1 (y := zX6_log) dX6_log_5, wp_i2l (y := zX6_log) dX6_log_6, wp_lconst (y := zX6_log) (0) kl_0 dX6_log_7, wp_al0 (y := zX6_log) dX6_log_8, wp_getf (y := zX6_log) kF6_9 dX6_log_9, wp_bipush (y := zX6_log) (nI 8) kb_8 dX6_log_12, wp_iald (y := zX6_log) dX6_log_14, wp_i2l (y := zX6_log) dX6_log_15, wp_lconst (y := zX6_log) (1) kl_1 dX6_log_16, wp_lsub (y := zX6_log) dX6_log_17, wp_in (y := zX6_log) rfl kP6_48 (by decide) dX6_log_18, wp_if_eq (y := zX6_log) 63 (by decide) dX6_log_21, wp_il2 (y := zX6_log) dX6_log_24, wp_i2l (y := zX6_log) dX6_log_25, wp_lconst (y := zX6_log) (0) kl_0 dX6_log_26, wp_ldc2 (y := zX6_log) kL6_253 dX6_log_27, wp_in (y := zX6_log) rfl kP6_48 (by decide) dX6_log_30, wp_if_eq (y := zX6_log) 63 (by decide) dX6_log_33, wp_al0 (y := zX6_log) dX6_log_36, wp_getf (y := zX6_log) kF6_9 dX6_log_37, wp_sipush (y := zX6_log) (nI 1696) ks_1696 dX6_log_40, wp_iconst (y := zX6_log) (nI 3) ki_3 dX6_log_43, wp_al0 (y := zX6_log) dX6_log_44, wp_getf (y := zX6_log) kF6_9 dX6_log_45, wp_bipush (y := zX6_log) (nI 8) kb_8 dX6_log_48, wp_iald (y := zX6_log) dX6_log_50, wp_iconst (y := zX6_log) (nI 1) ki_1 dX6_log_51, wp_isub (y := zX6_log) dX6_log_52, wp_il1 (y := zX6_log) dX6_log_53, wp_isub (y := zX6_log) dX6_log_54, wp_imul (y := zX6_log) dX6_log_55, wp_iadd (y := zX6_log) dX6_log_56, wp_il2 (y := zX6_log) dX6_log_57, wp_iadd (y := zX6_log) dX6_log_58, wp_iald (y := zX6_log) dX6_log_59, wp_goto (y := zX6_log) 64 (by decide) dX6_log_60, wp_ireti (y := zX6_log) rfl dX6_log_64, O.oc, O.g0, O.g1, O.g2, O.g3, O.g4, O.g5, O.g6, O.g7, O.g9, O.g10, O.g11, O.p0, O.p7, O.a1, O.a2, O.a3, O.a4, O.a5, O.a6, O.a7, O.a8, O.a9, i8, c8, v8, E, ee, e1, e2, r2]
      exact mt_ro g0 rfl (RO.refl _ _) rfl R0 J
    rw [if_neg w2]
    have hts : what.toInt < 0 ∨ 2 < what.toInt := by
      rcases Int.lt_or_le what.toInt 0 with q | q
      · exact Or.inl q
      · rcases Int.lt_or_le 2 what.toInt with q2 | q2
        · exact Or.inr q2
        · exfalso
          have hh : ∀ j : Nat, j < 3 → what.toInt = j → what = nI j := fun j hj e => Int32.toInt_inj.mp (by rw [e, nI_toInt (by omega)])
          have : what.toInt = 0 ∨ what.toInt = 1 ∨ what.toInt = 2 := by omega
          rcases this with e | e | e
          · exact w0 (hh 0 (by omega) e)
          · exact w1 (hh 1 (by omega) e)
          · exact w2 (hh 2 (by omega) e)
    have ee : mm_isin what.toInt64 0 2 = nI 0 := isin_f (fun q => by
      have z2 : (2 : Int64).toInt = 2 := rfl
      rw [z0, z2] at q
      omega)
    have bad := bad _ rfl
    generalize MT m μ ((-1 : Int32), s) = QQ at bad ⊢
    simp (disch := first | omega | assumption) only [mm_op_some, true_and, and_true, mm_rc_some, mm_rc_none, pk_mul, nI_add, mm_in_t, nI_clamp, ok0, ok1, ok2, ok3, ok4, n1_0, n0_0, nI_le_, nI_lt_, if_true, if_false, not_true, not_false_eq_true, ce_lt, ce_cl, hf_lt, hf_cl, n0_zz, n1_zz, wp_al0 (y := zX6_log) dX6_log_0, wp_iconst (y := zX6_log) (nI 0) ki_0 dX6_log_1, wp_putf (y := zX6_log) kF6_44 rfl dX6_log_2, wp_il1 (y := zX6_log) dX6_log_5, wp_i2l (y := zX6_log) dX6_log_6, wp_lconst (y := zX6_log) (0) kl_0 dX6_log_7, wp_al0 (y := zX6_log) dX6_log_8, wp_getf (y := zX6_log) kF6_9 dX6_log_9, wp_bipush (y := zX6_log) (nI 8) kb_8 dX6_log_12, wp_iald (y := zX6_log) dX6_log_14, wp_i2l (y := zX6_log) dX6_log_15, wp_lconst (y := zX6_log) (1) kl_1 dX6_log_16, wp_lsub (y := zX6_log) dX6_log_17, wp_in (y := zX6_log) rfl kP6_48 (by decide) dX6_log_18, wp_if_eq (y := zX6_log) 63 (by decide) dX6_log_21, wp_il2 (y := zX6_log) dX6_log_24, wp_i2l (y := zX6_log) dX6_log_25, wp_lconst (y := zX6_log) (0) kl_0 dX6_log_26, wp_ldc2 (y := zX6_log) kL6_253 dX6_log_27, wp_in (y := zX6_log) rfl kP6_48 (by decide) dX6_log_30, wp_if_eq (y := zX6_log) 63 (by decide) dX6_log_33, wp_iconst (y := zX6_log) ((-1)) ki_m1 dX6_log_63, wp_ireti (y := zX6_log) rfl dX6_log_64, O.oc, O.g0, O.g1, O.g2, O.g3, O.g4, O.g5, O.g6, O.g7, O.g9, O.g10, O.g11, O.p0, O.p7, O.a1, O.a2, O.a3, O.a4, O.a5, O.a6, O.a7, O.a8, O.a9, i8, c8, v8, E, ee]
    exact bad
end MAL
