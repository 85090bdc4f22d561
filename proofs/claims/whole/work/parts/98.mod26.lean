section MPU
variable {sh : mm_Sh} {m : Nat} {M : Ms} {μ : mm_U} {s : Fo} {Q : Option Value → mm_U → Prop}
theorem isin_o {x a b : Int32} {lo hi : Int64} (e1 : lo.toInt = a.toInt) (e2 : hi.toInt = b.toInt) (h : x < a ∨ b < x) : mm_isin x.toInt64 lo hi = nI 0 := isin_f (fun q => by
  rw [e1, e2] at q
  rcases h with h | h
  · rw [Int32.lt_iff_toInt_lt] at h; omega
  · rw [Int32.lt_iff_toInt_lt] at h; omega)
theorem isin_i {x a b : Int32} {lo hi : Int64} (e1 : lo.toInt = a.toInt) (e2 : hi.toInt = b.toInt) (h : ¬ (x < a ∨ b < x)) : mm_isin x.toInt64 lo hi = nI 1 := isin_t (by
  rw [e1, e2]
  rw [Int32.lt_iff_toInt_lt, Int32.lt_iff_toInt_lt] at h
  omega)
theorem m_rate (O : MoSh sh m) (R : RepM s μ m) (J : Inv s.1) (g0 : μ m 7 = nI 0) (x : Int32) : cl sh zX6_rate [.ref m, .int x] μ (MT m μ (a_rate s x)) := by
  have R0 := R.mu0 (nI 0)
  show wp sh zX6_rate 0 [.ref m, .int x, .null] [] μ _
  unfold a_rate
  by_cases h : x < 0 ∨ nI 9 < x
  · have E : mm_isin x.toInt64 0 9 = nI 0 := isin_o (a := 0) (b := nI 9) rfl rfl h
    rw [if_pos h]
    generalize hv : (((-1 : Int32), fRf s 0) : Int32 × Fo) = v
    generalize hq : MT m μ v = QQ
    simp (disch := first | omega | assumption) only [mm_op_some, true_and, and_true, mm_rc_some, mm_rc_none, pk_mul, nI_add, mm_in_t, nI_clamp, ok0, ok1, ok2, ok3, ok4, n1_0, n0_0, nI_le_, nI_lt_, if_true, if_false, not_true, not_false_eq_true, ce_lt, ce_cl, hf_lt, hf_cl, n0_zz, n1_zz, bI_f, bI_t, wp_al0 (y := zX6_rate) dX6_rate_0, wp_iconst (y := zX6_rate) (nI 0) ki_0 dX6_rate_1, wp_putf (y := zX6_rate) kF6_44 rfl dX6_rate_2, wp_il1 (y := zX6_rate) dX6_rate_5, wp_i2l (y := zX6_rate) dX6_rate_6, wp_lconst (y := zX6_rate) (0) kl_0 dX6_rate_7, wp_ldc2 (y := zX6_rate) kL6_56 dX6_rate_8, wp_in (y := zX6_rate) rfl kP6_48 (by decide) dX6_rate_11, wp_if_ne (y := zX6_rate) 23 (by decide) dX6_rate_14, wp_al0 (y := zX6_rate) dX6_rate_17, wp_iconst (y := zX6_rate) ((-1)) ki_m1 dX6_rate_18, wp_cv1 (y := zX6_rate) kM6_72 (by decide) dX6_rate_19, (show yo zX6_refuse = 6 from rfl), O.oc, O.g0, O.g1, O.g2, O.g3, O.g4, O.g5, O.g6, O.g7, O.g9, O.g10, O.g11, O.p0, O.p7, O.a1, O.a2, O.a3, O.a4, O.a5, O.a6, O.a7, O.a8, O.a9, E]
    refine cl_mono (m_ref1 O R0) ?_
    rintro r μ1 ⟨rfl, R1, F1⟩
    simp (disch := first | omega | assumption) only [mm_op_some, true_and, and_true, mm_rc_some, mm_rc_none, pk_mul, nI_add, mm_in_t, nI_clamp, ok0, ok1, ok2, ok3, ok4, n1_0, n0_0, nI_le_, nI_lt_, if_true, if_false, not_true, not_false_eq_true, ce_lt, ce_cl, hf_lt, hf_cl, wp_ireti (y := zX6_rate) rfl dX6_rate_22]
    rw [← hq, ← hv]
    exact mt_ro g0 rfl F1 rfl R1 J
  · have E : mm_isin x.toInt64 0 9 = nI 1 := isin_i (a := 0) (b := nI 9) rfl rfl h
    rw [if_neg h]
    have i2 : (mm_in (nI 2) 1786 = true) = True := mm_in_t (by decide) (by decide)
    have c2 : (nI 2).toNatClampNeg = 2 := rfl
    have e2 : (mu μ m (upd (μ m) 0 (nI 0))) (m + 1) 2 = s.2.2.2 5 := R0.2.2.2.1
    have fin : ∀ μ', RepM (s.1, s.2.1, s.2.2.1, upd s.2.2.2 5 x) μ' m → RO (mu μ m (upd (μ m) 0 (nI 0))) μ' m → MT m μ (s.2.2.2 5, (s.1, s.2.1, s.2.2.1, upd s.2.2.2 5 x)) (some (.int (s.2.2.2 5))) μ' := fun μ' R1 F1 => mt_ro g0 rfl F1 rfl R1 J
    generalize MT m μ (s.2.2.2 5, (s.1, s.2.1, s.2.2.1, upd s.2.2.2 5 x)) = QQ at fin ⊢
    simp (disch := first | omega | assumption) only [mm_op_some, true_and, and_true, mm_rc_some, mm_rc_none, pk_mul, nI_add, mm_in_t, nI_clamp, ok0, ok1, ok2, ok3, ok4, n1_0, n0_0, nI_le_, nI_lt_, if_true, if_false, not_true, not_false_eq_true, ce_lt, ce_cl, hf_lt, hf_cl, n0_zz, n1_zz, wp_al0 (y := zX6_rate) dX6_rate_0, wp_iconst (y := zX6_rate) (nI 0) ki_0 dX6_rate_1, wp_putf (y := zX6_rate) kF6_44 rfl dX6_rate_2, wp_il1 (y := zX6_rate) dX6_rate_5, wp_i2l (y := zX6_rate) dX6_rate_6, wp_lconst (y := zX6_rate) (0) kl_0 dX6_rate_7, wp_ldc2 (y := zX6_rate) kL6_56 dX6_rate_8, wp_in (y := zX6_rate) rfl kP6_48 (by decide) dX6_rate_11, wp_if_ne (y := zX6_rate) 23 (by decide) dX6_rate_14, wp_al0 (y := zX6_rate) dX6_rate_23, wp_getf (y := zX6_rate) kF6_9 dX6_rate_24, wp_iconst (y := zX6_rate) (nI 2) ki_2 dX6_rate_27, wp_iald (y := zX6_rate) dX6_rate_28, wp_is2 (y := zX6_rate) dX6_rate_29, wp_al0 (y := zX6_rate) dX6_rate_30, wp_getf (y := zX6_rate) kF6_9 dX6_rate_31, wp_iconst (y := zX6_rate) (nI 2) ki_2 dX6_rate_34, wp_il1 (y := zX6_rate) dX6_rate_35, wp_iast (y := zX6_rate) dX6_rate_36, wp_il2 (y := zX6_rate) dX6_rate_37, wp_ireti (y := zX6_rate) rfl dX6_rate_38, O.oc, O.g0, O.g1, O.g2, O.g3, O.g4, O.g5, O.g6, O.g7, O.g9, O.g10, O.g11, O.p0, O.p7, O.a1, O.a2, O.a3, O.a4, O.a5, O.a6, O.a7, O.a8, O.a9, E, i2, c2, e2]
    refine fin _ ⟨?_, ?_⟩ (RO_mu (RO.refl _ _) _)
    · rw [mu_s]
      exact R0.1.cg (fun k k1 k2 => upd_n _ _ (by omega))
    · have q := R0.2.fld 2 5 (by omega) (by omega) rfl x
      rw [mu_s, mu_n _ _ (by omega)]
      exact q
theorem m_area (O : MoSh sh m) (R : RepM s μ m) (J : Inv s.1) (g0 : μ m 7 = nI 0) (c x : Int32) : cl sh zX6_area [.ref m, .int c, .int x] μ (MT m μ (a_area s c x)) := by
  have R0 := R.mu0 (nI 0)
  show wp sh zX6_area 0 [.ref m, .int c, .int x, .null] [] μ _
  unfold a_area
  by_cases h : x < -999 ∨ nI 9999 < x
  · have E : mm_isin x.toInt64 (-999) 9999 = nI 0 := isin_o (a := -999) (b := nI 9999) rfl rfl h
    rw [if_pos h]
    generalize hv : (((-1 : Int32), fRf s 0) : Int32 × Fo) = v
    generalize hq : MT m μ v = QQ
    simp (disch := first | omega | assumption) only [mm_op_some, true_and, and_true, mm_rc_some, mm_rc_none, pk_mul, nI_add, mm_in_t, nI_clamp, ok0, ok1, ok2, ok3, ok4, n1_0, n0_0, nI_le_, nI_lt_, if_true, if_false, not_true, not_false_eq_true, ce_lt, ce_cl, hf_lt, hf_cl, n0_zz, n1_zz, bI_f, bI_t, wp_al0 (y := zX6_area) dX6_area_0, wp_iconst (y := zX6_area) (nI 0) ki_0 dX6_area_1, wp_putf (y := zX6_area) kF6_44 rfl dX6_area_2, wp_il2 (y := zX6_area) dX6_area_5, wp_i2l (y := zX6_area) dX6_area_6, wp_ldc2 (y := zX6_area) kL6_141 dX6_area_7, wp_ldc2 (y := zX6_area) kL6_143 dX6_area_10, wp_in (y := zX6_area) rfl kP6_48 (by decide) dX6_area_13, wp_if_ne (y := zX6_area) 25 (by decide) dX6_area_16, wp_al0 (y := zX6_area) dX6_area_19, wp_iconst (y := zX6_area) ((-1)) ki_m1 dX6_area_20, wp_cv1 (y := zX6_area) kM6_72 (by decide) dX6_area_21, (show yo zX6_refuse = 6 from rfl), O.oc, O.g0, O.g1, O.g2, O.g3, O.g4, O.g5, O.g6, O.g7, O.g9, O.g10, O.g11, O.p0, O.p7, O.a1, O.a2, O.a3, O.a4, O.a5, O.a6, O.a7, O.a8, O.a9, E]
    refine cl_mono (m_ref1 O R0) ?_
    rintro r μ1 ⟨rfl, R1, F1⟩
    simp (disch := first | omega | assumption) only [mm_op_some, true_and, and_true, mm_rc_some, mm_rc_none, pk_mul, nI_add, mm_in_t, nI_clamp, ok0, ok1, ok2, ok3, ok4, n1_0, n0_0, nI_le_, nI_lt_, if_true, if_false, not_true, not_false_eq_true, ce_lt, ce_cl, hf_lt, hf_cl, wp_ireti (y := zX6_area) rfl dX6_area_24]
    rw [← hq, ← hv]
    exact mt_ro g0 rfl F1 rfl R1 J
  · have E : mm_isin x.toInt64 (-999) 9999 = nI 1 := isin_i (a := -999) (b := nI 9999) rfl rfl h
    rw [if_neg h]
    cases e : ceO s.1 c with
    | none =>
      have E1 : ∀ Q', cl sh zX6_isCell [.ref m, .int c] (mu μ m (upd (μ m) 0 (nI 0))) Q' = Q' (some (.int (nI 0))) (mu μ m (upd (μ m) 0 (nI 0))) := fun Q' => m_isCellN O R0.1 J.sdb e
      generalize hv : (((-2 : Int32), fRf s 1) : Int32 × Fo) = v
      generalize hq : MT m μ v = QQ
      simp (disch := first | omega | assumption) only [mm_op_some, true_and, and_true, mm_rc_some, mm_rc_none, pk_mul, nI_add, mm_in_t, nI_clamp, ok0, ok1, ok2, ok3, ok4, n1_0, n0_0, nI_le_, nI_lt_, if_true, if_false, not_true, not_false_eq_true, ce_lt, ce_cl, hf_lt, hf_cl, n0_zz, n1_zz, bI_f, bI_t, wp_al0 (y := zX6_area) dX6_area_0, wp_iconst (y := zX6_area) (nI 0) ki_0 dX6_area_1, wp_putf (y := zX6_area) kF6_44 rfl dX6_area_2, wp_il2 (y := zX6_area) dX6_area_5, wp_i2l (y := zX6_area) dX6_area_6, wp_ldc2 (y := zX6_area) kL6_141 dX6_area_7, wp_ldc2 (y := zX6_area) kL6_143 dX6_area_10, wp_in (y := zX6_area) rfl kP6_48 (by decide) dX6_area_13, wp_if_ne (y := zX6_area) 25 (by decide) dX6_area_16, wp_al0 (y := zX6_area) dX6_area_25, wp_il1 (y := zX6_area) dX6_area_26, wp_cv1 (y := zX6_area) kM6_93 (by decide) dX6_area_27, (show yo zX6_isCell = 6 from rfl), wp_if_ne (y := zX6_area) 40 (by decide) dX6_area_30, wp_al0 (y := zX6_area) dX6_area_33, wp_bipush (y := zX6_area) ((-2)) kb_m2 dX6_area_34, wp_cv1 (y := zX6_area) kM6_72 (by decide) dX6_area_36, (show yo zX6_refuse = 6 from rfl), O.oc, O.g0, O.g1, O.g2, O.g3, O.g4, O.g5, O.g6, O.g7, O.g9, O.g10, O.g11, O.p0, O.p7, O.a1, O.a2, O.a3, O.a4, O.a5, O.a6, O.a7, O.a8, O.a9, E, E1]
      refine cl_mono (m_ref2 O R0) ?_
      rintro r μ1 ⟨rfl, R1, F1⟩
      simp (disch := first | omega | assumption) only [mm_op_some, true_and, and_true, mm_rc_some, mm_rc_none, pk_mul, nI_add, mm_in_t, nI_clamp, ok0, ok1, ok2, ok3, ok4, n1_0, n0_0, nI_le_, nI_lt_, if_true, if_false, not_true, not_false_eq_true, ce_lt, ce_cl, hf_lt, hf_cl, wp_ireti (y := zX6_area) rfl dX6_area_39]
      rw [← hq, ← hv]
      exact mt_ro g0 rfl F1 rfl R1 J
    | some k =>
      obtain ⟨rfl, hc⟩ := ceO_some e
      have E1 : ∀ Q', cl sh zX6_isCell [.ref m, .int (nI k.val)] (mu μ m (upd (μ m) 0 (nI 0))) Q' = Q' (some (.int (nI 1))) (mu μ m (upd (μ m) 0 (nI 0))) := fun Q' => m_isCellS O R0.1 J.sdb hc
      have r1 : (mu μ m (upd (μ m) 0 (nI 0))) (m + 1) (1600 + k.val) = ar s.1 k := R0.1.2.2.2 k hc
      dsimp only
      have fin : ∀ μ', RepM (sAr s.1 k x, s.2) μ' m → RO (mu μ m (upd (μ m) 0 (nI 0))) μ' m → MT m μ (ar s.1 k, (sAr s.1 k x, s.2)) (some (.int (ar s.1 k))) μ' := fun μ' R1 F1 => mt_ro g0 rfl F1 rfl R1 (J.sAr k x)
      generalize MT m μ (ar s.1 k, (sAr s.1 k x, s.2)) = QQ at fin ⊢
      simp (disch := first | omega | assumption) only [mm_op_some, true_and, and_true, mm_rc_some, mm_rc_none, pk_mul, nI_add, mm_in_t, nI_clamp, ok0, ok1, ok2, ok3, ok4, n1_0, n0_0, nI_le_, nI_lt_, if_true, if_false, not_true, not_false_eq_true, ce_lt, ce_cl, hf_lt, hf_cl, n0_zz, n1_zz, wp_al0 (y := zX6_area) dX6_area_0, wp_iconst (y := zX6_area) (nI 0) ki_0 dX6_area_1, wp_putf (y := zX6_area) kF6_44 rfl dX6_area_2, wp_il2 (y := zX6_area) dX6_area_5, wp_i2l (y := zX6_area) dX6_area_6, wp_ldc2 (y := zX6_area) kL6_141 dX6_area_7, wp_ldc2 (y := zX6_area) kL6_143 dX6_area_10, wp_in (y := zX6_area) rfl kP6_48 (by decide) dX6_area_13, wp_if_ne (y := zX6_area) 25 (by decide) dX6_area_16, wp_al0 (y := zX6_area) dX6_area_25, wp_il1 (y := zX6_area) dX6_area_26, wp_cv1 (y := zX6_area) kM6_93 (by decide) dX6_area_27, (show yo zX6_isCell = 6 from rfl), wp_if_ne (y := zX6_area) 40 (by decide) dX6_area_30, wp_al0 (y := zX6_area) dX6_area_40, wp_getf (y := zX6_area) kF6_9 dX6_area_41, wp_sipush (y := zX6_area) (nI 1600) ks_1600 dX6_area_44, wp_il1 (y := zX6_area) dX6_area_47, wp_iadd (y := zX6_area) dX6_area_48, wp_iald (y := zX6_area) dX6_area_49, wp_is3 (y := zX6_area) dX6_area_50, wp_al0 (y := zX6_area) dX6_area_51, wp_getf (y := zX6_area) kF6_9 dX6_area_52, wp_sipush (y := zX6_area) (nI 1600) ks_1600 dX6_area_55, wp_il1 (y := zX6_area) dX6_area_58, wp_iadd (y := zX6_area) dX6_area_59, wp_il2 (y := zX6_area) dX6_area_60, wp_iast (y := zX6_area) dX6_area_61, wp_il3 (y := zX6_area) dX6_area_62, wp_ireti (y := zX6_area) rfl dX6_area_63, O.oc, O.g0, O.g1, O.g2, O.g3, O.g4, O.g5, O.g6, O.g7, O.g9, O.g10, O.g11, O.p0, O.p7, O.a1, O.a2, O.a3, O.a4, O.a5, O.a6, O.a7, O.a8, O.a9, E, E1, r1]
      refine fin _ ⟨?_, ?_⟩ (RO_mu (RO.refl _ _) _)
      · rw [mu_s]
        exact R0.1.wAr k x
      · have q := (OtR_m R0.2 (sAr s.1 k x)).cg (r' := upd ((mu μ m (upd (μ m) 0 (nI 0))) (m + 1)) (1600 + k.val) x) (fun j hj => upd_n _ _ (by omega))
        rw [mu_s, mu_n _ _ (by omega)]
        exact q
theorem m_length (O : MoSh sh m) (R : RepM s μ m) (J : Inv s.1) (g0 : μ m 7 = nI 0) (c x : Int32) : cl sh zX6_length [.ref m, .int c, .int x] μ (MT m μ (a_length s c x)) := by
  have R0 := R.mu0 (nI 0)
  show wp sh zX6_length 0 [.ref m, .int c, .int x, .null] [] μ _
  unfold a_length
  by_cases h : x < 0 ∨ nI 99 < x
  · have E : mm_isin x.toInt64 0 99 = nI 0 := isin_o (a := 0) (b := nI 99) rfl rfl h
    rw [if_pos h]
    generalize hv : (((-1 : Int32), fRf s 0) : Int32 × Fo) = v
    generalize hq : MT m μ v = QQ
    simp (disch := first | omega | assumption) only [mm_op_some, true_and, and_true, mm_rc_some, mm_rc_none, pk_mul, nI_add, mm_in_t, nI_clamp, ok0, ok1, ok2, ok3, ok4, n1_0, n0_0, nI_le_, nI_lt_, if_true, if_false, not_true, not_false_eq_true, ce_lt, ce_cl, hf_lt, hf_cl, n0_zz, n1_zz, bI_f, bI_t, wp_al0 (y := zX6_length) dX6_length_0, wp_iconst (y := zX6_length) (nI 0) ki_0 dX6_length_1, wp_putf (y := zX6_length) kF6_44 rfl dX6_length_2, wp_il2 (y := zX6_length) dX6_length_5, wp_i2l (y := zX6_length) dX6_length_6, wp_lconst (y := zX6_length) (0) kl_0 dX6_length_7, wp_ldc2 (y := zX6_length) kL6_145 dX6_length_8, wp_in (y := zX6_length) rfl kP6_48 (by decide) dX6_length_11, wp_if_ne (y := zX6_length) 23 (by decide) dX6_length_14, wp_al0 (y := zX6_length) dX6_length_17, wp_iconst (y := zX6_length) ((-1)) ki_m1 dX6_length_18, wp_cv1 (y := zX6_length) kM6_72 (by decide) dX6_length_19, (show yo zX6_refuse = 6 from rfl), O.oc, O.g0, O.g1, O.g2, O.g3, O.g4, O.g5, O.g6, O.g7, O.g9, O.g10, O.g11, O.p0, O.p7, O.a1, O.a2, O.a3, O.a4, O.a5, O.a6, O.a7, O.a8, O.a9, E]
    refine cl_mono (m_ref1 O R0) ?_
    rintro r μ1 ⟨rfl, R1, F1⟩
    simp (disch := first | omega | assumption) only [mm_op_some, true_and, and_true, mm_rc_some, mm_rc_none, pk_mul, nI_add, mm_in_t, nI_clamp, ok0, ok1, ok2, ok3, ok4, n1_0, n0_0, nI_le_, nI_lt_, if_true, if_false, not_true, not_false_eq_true, ce_lt, ce_cl, hf_lt, hf_cl, wp_ireti (y := zX6_length) rfl dX6_length_22]
    rw [← hq, ← hv]
    exact mt_ro g0 rfl F1 rfl R1 J
  · have E : mm_isin x.toInt64 0 99 = nI 1 := isin_i (a := 0) (b := nI 99) rfl rfl h
    rw [if_neg h]
    cases e : waO s.1 c with
    | none =>
      have E1 : ∀ Q', cl sh zX6_isWall [.ref m, .int c] (mu μ m (upd (μ m) 0 (nI 0))) Q' = Q' (some (.int (nI 0))) (mu μ m (upd (μ m) 0 (nI 0))) := fun Q' => m_isWallN O R0.1 e
      generalize hv : (((-2 : Int32), fRf s 1) : Int32 × Fo) = v
      generalize hq : MT m μ v = QQ
      simp (disch := first | omega | assumption) only [mm_op_some, true_and, and_true, mm_rc_some, mm_rc_none, pk_mul, nI_add, mm_in_t, nI_clamp, ok0, ok1, ok2, ok3, ok4, n1_0, n0_0, nI_le_, nI_lt_, if_true, if_false, not_true, not_false_eq_true, ce_lt, ce_cl, hf_lt, hf_cl, n0_zz, n1_zz, bI_f, bI_t, wp_al0 (y := zX6_length) dX6_length_0, wp_iconst (y := zX6_length) (nI 0) ki_0 dX6_length_1, wp_putf (y := zX6_length) kF6_44 rfl dX6_length_2, wp_il2 (y := zX6_length) dX6_length_5, wp_i2l (y := zX6_length) dX6_length_6, wp_lconst (y := zX6_length) (0) kl_0 dX6_length_7, wp_ldc2 (y := zX6_length) kL6_145 dX6_length_8, wp_in (y := zX6_length) rfl kP6_48 (by decide) dX6_length_11, wp_if_ne (y := zX6_length) 23 (by decide) dX6_length_14, wp_al0 (y := zX6_length) dX6_length_23, wp_il1 (y := zX6_length) dX6_length_24, wp_cv1 (y := zX6_length) kM6_80 (by decide) dX6_length_25, (show yo zX6_isWall = 6 from rfl), wp_if_ne (y := zX6_length) 38 (by decide) dX6_length_28, wp_al0 (y := zX6_length) dX6_length_31, wp_bipush (y := zX6_length) ((-2)) kb_m2 dX6_length_32, wp_cv1 (y := zX6_length) kM6_72 (by decide) dX6_length_34, (show yo zX6_refuse = 6 from rfl), O.oc, O.g0, O.g1, O.g2, O.g3, O.g4, O.g5, O.g6, O.g7, O.g9, O.g10, O.g11, O.p0, O.p7, O.a1, O.a2, O.a3, O.a4, O.a5, O.a6, O.a7, O.a8, O.a9, E, E1]
      refine cl_mono (m_ref2 O R0) ?_
      rintro r μ1 ⟨rfl, R1, F1⟩
      simp (disch := first | omega | assumption) only [mm_op_some, true_and, and_true, mm_rc_some, mm_rc_none, pk_mul, nI_add, mm_in_t, nI_clamp, ok0, ok1, ok2, ok3, ok4, n1_0, n0_0, nI_le_, nI_lt_, if_true, if_false, not_true, not_false_eq_true, ce_lt, ce_cl, hf_lt, hf_cl, wp_ireti (y := zX6_length) rfl dX6_length_37]
      rw [← hq, ← hv]
      exact mt_ro g0 rfl F1 rfl R1 J
    | some k =>
      obtain ⟨rfl, hw⟩ := waO_some e
      have E1 : ∀ Q', cl sh zX6_isWall [.ref m, .int (nI k.val)] (mu μ m (upd (μ m) 0 (nI 0))) Q' = Q' (some (.int (nI 1))) (mu μ m (upd (μ m) 0 (nI 0))) := fun Q' => m_isWallS O R0.1 J.lnb hw
      have r1 : (mu μ m (upd (μ m) 0 (nI 0))) (m + 1) (1456 + k.val) = ln s.1 k := R0.1.lnv hw
      obtain ⟨n, hn, rfl⟩ : ∃ n, n ≤ 99 ∧ x = nI n := by
        rcases pk_ix x (n := 100) (by decide) with z | z | ⟨j, hj, rfl⟩
        · exact absurd (Or.inl z) h
        · refine absurd (Or.inr ?_) h
          rw [Int32.lt_iff_toInt_lt]
          rw [Int32.le_iff_toInt_le, nI_toInt (by decide)] at z
          rw [nI_toInt (by decide)]
          omega
        · exact ⟨j, by omega, rfl⟩
      dsimp only
      have fin : ∀ μ', RepM (sLn s.1 k (nI n), s.2) μ' m → RO (mu μ m (upd (μ m) 0 (nI 0))) μ' m → MT m μ (ln s.1 k, (sLn s.1 k (nI n), s.2)) (some (.int (ln s.1 k))) μ' := fun μ' R1 F1 => mt_ro g0 rfl F1 rfl R1 (J.sLn k n hn)
      generalize MT m μ (ln s.1 k, (sLn s.1 k (nI n), s.2)) = QQ at fin ⊢
      simp (disch := first | omega | assumption) only [mm_op_some, true_and, and_true, mm_rc_some, mm_rc_none, pk_mul, nI_add, mm_in_t, nI_clamp, ok0, ok1, ok2, ok3, ok4, n1_0, n0_0, nI_le_, nI_lt_, if_true, if_false, not_true, not_false_eq_true, ce_lt, ce_cl, hf_lt, hf_cl, n0_zz, n1_zz, wa_lt, wa_cl, wp_al0 (y := zX6_length) dX6_length_0, wp_iconst (y := zX6_length) (nI 0) ki_0 dX6_length_1, wp_putf (y := zX6_length) kF6_44 rfl dX6_length_2, wp_il2 (y := zX6_length) dX6_length_5, wp_i2l (y := zX6_length) dX6_length_6, wp_lconst (y := zX6_length) (0) kl_0 dX6_length_7, wp_ldc2 (y := zX6_length) kL6_145 dX6_length_8, wp_in (y := zX6_length) rfl kP6_48 (by decide) dX6_length_11, wp_if_ne (y := zX6_length) 23 (by decide) dX6_length_14, wp_al0 (y := zX6_length) dX6_length_23, wp_il1 (y := zX6_length) dX6_length_24, wp_cv1 (y := zX6_length) kM6_80 (by decide) dX6_length_25, (show yo zX6_isWall = 6 from rfl), wp_if_ne (y := zX6_length) 38 (by decide) dX6_length_28, wp_al0 (y := zX6_length) dX6_length_38, wp_getf (y := zX6_length) kF6_9 dX6_length_39, wp_sipush (y := zX6_length) (nI 1456) ks_1456 dX6_length_42, wp_il1 (y := zX6_length) dX6_length_45, wp_iadd (y := zX6_length) dX6_length_46, wp_iald (y := zX6_length) dX6_length_47, wp_is3 (y := zX6_length) dX6_length_48, wp_al0 (y := zX6_length) dX6_length_49, wp_getf (y := zX6_length) kF6_9 dX6_length_50, wp_sipush (y := zX6_length) (nI 1456) ks_1456 dX6_length_53, wp_il1 (y := zX6_length) dX6_length_56, wp_iadd (y := zX6_length) dX6_length_57, wp_il2 (y := zX6_length) dX6_length_58, wp_iast (y := zX6_length) dX6_length_59, wp_il3 (y := zX6_length) dX6_length_60, wp_ireti (y := zX6_length) rfl dX6_length_61, O.oc, O.g0, O.g1, O.g2, O.g3, O.g4, O.g5, O.g6, O.g7, O.g9, O.g10, O.g11, O.p0, O.p7, O.a1, O.a2, O.a3, O.a4, O.a5, O.a6, O.a7, O.a8, O.a9, E, E1, r1]
      refine fin _ ⟨?_, ?_⟩ (RO_mu (RO.refl _ _) _)
      · rw [mu_s]
        exact R0.1.wLn k _ hw
      · have q := (OtR_m R0.2 (sLn s.1 k (nI n))).cg (r' := upd ((mu μ m (upd (μ m) 0 (nI 0))) (m + 1)) (1456 + k.val) (nI n)) (fun j hj => upd_n _ _ (by omega))
        rw [mu_s, mu_n _ _ (by omega)]
        exact q
theorem m_swap (O : MoSh sh m) (R : RepM s μ m) (J : Inv s.1) (g0 : μ m 7 = nI 0) (x : Int32) : cl sh zX6_swap [.ref m, .int x] μ (MT m μ (a_swap s x)) := by
  have R0 := R.mu0 (nI 0)
  show wp sh zX6_swap 0 [.ref m, .int x, .null] [] μ _
  unfold a_swap
  cases e : waO s.1 x with
  | none =>
    have E1 : ∀ Q', cl sh zX6_isWall [.ref m, .int x] (mu μ m (upd (μ m) 0 (nI 0))) Q' = Q' (some (.int (nI 0))) (mu μ m (upd (μ m) 0 (nI 0))) := fun Q' => m_isWallN O R0.1 e
    generalize hv : (((-2 : Int32), fRf s 1) : Int32 × Fo) = v
    generalize hq : MT m μ v = QQ
    simp (disch := first | omega | assumption) only [mm_op_some, true_and, and_true, mm_rc_some, mm_rc_none, pk_mul, nI_add, mm_in_t, nI_clamp, ok0, ok1, ok2, ok3, ok4, n1_0, n0_0, nI_le_, nI_lt_, if_true, if_false, not_true, not_false_eq_true, ce_lt, ce_cl, hf_lt, hf_cl, n0_zz, n1_zz, bI_f, bI_t, wp_al0 (y := zX6_swap) dX6_swap_0, wp_iconst (y := zX6_swap) (nI 0) ki_0 dX6_swap_1, wp_putf (y := zX6_swap) kF6_44 rfl dX6_swap_2, wp_al0 (y := zX6_swap) dX6_swap_5, wp_il1 (y := zX6_swap) dX6_swap_6, wp_cv1 (y := zX6_swap) kM6_80 (by decide) dX6_swap_7, (show yo zX6_isWall = 6 from rfl), wp_if_ne (y := zX6_swap) 20 (by decide) dX6_swap_10, wp_al0 (y := zX6_swap) dX6_swap_13, wp_bipush (y := zX6_swap) ((-2)) kb_m2 dX6_swap_14, wp_cv1 (y := zX6_swap) kM6_72 (by decide) dX6_swap_16, (show yo zX6_refuse = 6 from rfl), O.oc, O.g0, O.g1, O.g2, O.g3, O.g4, O.g5, O.g6, O.g7, O.g9, O.g10, O.g11, O.p0, O.p7, O.a1, O.a2, O.a3, O.a4, O.a5, O.a6, O.a7, O.a8, O.a9, E1]
    refine cl_mono (m_ref2 O R0) ?_
    rintro r μ1 ⟨rfl, R1, F1⟩
    simp (disch := first | omega | assumption) only [mm_op_some, true_and, and_true, mm_rc_some, mm_rc_none, pk_mul, nI_add, mm_in_t, nI_clamp, ok0, ok1, ok2, ok3, ok4, n1_0, n0_0, nI_le_, nI_lt_, if_true, if_false, not_true, not_false_eq_true, ce_lt, ce_cl, hf_lt, hf_cl, wp_ireti (y := zX6_swap) rfl dX6_swap_19]
    rw [← hq, ← hv]
    exact mt_ro g0 rfl F1 rfl R1 J
  | some w =>
    obtain ⟨rfl, hw⟩ := waO_some e
    have E1 : ∀ Q', cl sh zX6_isWall [.ref m, .int (nI w.val)] (mu μ m (upd (μ m) 0 (nI 0))) Q' = Q' (some (.int (nI 1))) (mu μ m (upd (μ m) 0 (nI 0))) := fun Q' => m_isWallS O R0.1 J.lnb hw
    have E2 : ∀ Q', cl sh zX6_canSwap [.ref m, .int (nI w.val)] (mu μ m (upd (μ m) 0 (nI 0))) Q' = Q' (some (.int (bI (lv s.1 w && can s.1 w)))) (mu μ m (upd (μ m) 0 (nI 0))) := fun Q' => m_canSwapW O R0.1 J w
    have E3 : ∀ Q', cl sh zX6_easing [.ref m, .int (nI w.val)] (mu μ m (upd (μ m) 0 (nI 0))) Q' = Q' (some (.int (ease s.1 w))) (mu μ m (upd (μ m) 0 (nI 0))) := fun Q' => m_easing O R0.1 J w hw
    rw [hw, Bool.true_and] at E2
    dsimp only
    by_cases hc : can s.1 w = true
    · rw [hc] at E2
      rw [if_pos hc]
      have JB := (J.fl hw hc)
      have fin : ∀ μ', RepM (fEv s (flM s.1 w) 0 7 (nI w.val)) μ' m → RO (mu μ m (upd (μ m) 0 (nI 0))) μ' m → MT m μ (nI 1000 + ease s.1 w, fEv s (flM s.1 w) 0 7 (nI w.val)) (some (.int (nI 1000 + ease s.1 w))) μ' := fun μ' R1 F1 => mt_ro g0 rfl F1 rfl R1 JB
      generalize MT m μ (nI 1000 + ease s.1 w, fEv s (flM s.1 w) 0 7 (nI w.val)) = QQ at fin ⊢
      simp (disch := first | omega | assumption) only [mm_op_some, true_and, and_true, mm_rc_some, mm_rc_none, pk_mul, nI_add, mm_in_t, nI_clamp, ok0, ok1, ok2, ok3, ok4, n1_0, n0_0, nI_le_, nI_lt_, if_true, if_false, not_true, not_false_eq_true, ce_lt, ce_cl, hf_lt, hf_cl, n0_zz, n1_zz, bI_t, wp_al0 (y := zX6_swap) dX6_swap_0, wp_iconst (y := zX6_swap) (nI 0) ki_0 dX6_swap_1, wp_putf (y := zX6_swap) kF6_44 rfl dX6_swap_2, wp_al0 (y := zX6_swap) dX6_swap_5, wp_il1 (y := zX6_swap) dX6_swap_6, wp_cv1 (y := zX6_swap) kM6_80 (by decide) dX6_swap_7, (show yo zX6_isWall = 6 from rfl), wp_if_ne (y := zX6_swap) 20 (by decide) dX6_swap_10, wp_al0 (y := zX6_swap) dX6_swap_20, wp_il1 (y := zX6_swap) dX6_swap_21, wp_cv1 (y := zX6_swap) kM6_147 (by decide) dX6_swap_22, (show yo zX6_canSwap = 6 from rfl), wp_if_ne (y := zX6_swap) 35 (by decide) dX6_swap_25, wp_sipush (y := zX6_swap) (nI 1000) ks_1000 dX6_swap_35, wp_al0 (y := zX6_swap) dX6_swap_38, wp_il1 (y := zX6_swap) dX6_swap_39, wp_cv1 (y := zX6_swap) kM6_150 (by decide) dX6_swap_40, (show yo zX6_easing = 6 from rfl), wp_iadd (y := zX6_swap) dX6_swap_43, wp_is2 (y := zX6_swap) dX6_swap_44, wp_al0 (y := zX6_swap) dX6_swap_45, wp_il1 (y := zX6_swap) dX6_swap_46, wp_cv1 (y := zX6_swap) kM6_153 (by decide) dX6_swap_47, (show yo zX6_swaps = 6 from rfl), O.oc, O.g0, O.g1, O.g2, O.g3, O.g4, O.g5, O.g6, O.g7, O.g9, O.g10, O.g11, O.p0, O.p7, O.a1, O.a2, O.a3, O.a4, O.a5, O.a6, O.a7, O.a8, O.a9, E1, E2, E3]
      refine cl_mono (m_swaps O R0 J w hw hc) ?_
      rintro r μ1 ⟨rfl, R1, F1⟩
      simp (disch := first | omega | assumption) only [mm_op_some, true_and, and_true, mm_rc_some, mm_rc_none, pk_mul, nI_add, mm_in_t, nI_clamp, ok0, ok1, ok2, ok3, ok4, n1_0, n0_0, nI_le_, nI_lt_, if_true, if_false, not_true, not_false_eq_true, ce_lt, ce_cl, hf_lt, hf_cl, wp_il2 (y := zX6_swap) dX6_swap_50, wp_ireti (y := zX6_swap) rfl dX6_swap_51]
      exact fin _ R1 F1
    · have hc' : can s.1 w = false := Bool.eq_false_iff.mpr hc
      rw [hc'] at E2
      rw [if_neg hc]
      generalize hv : (((-3 : Int32), fRf s 2) : Int32 × Fo) = v
      generalize hq : MT m μ v = QQ
      simp (disch := first | omega | assumption) only [mm_op_some, true_and, and_true, mm_rc_some, mm_rc_none, pk_mul, nI_add, mm_in_t, nI_clamp, ok0, ok1, ok2, ok3, ok4, n1_0, n0_0, nI_le_, nI_lt_, if_true, if_false, not_true, not_false_eq_true, ce_lt, ce_cl, hf_lt, hf_cl, n0_zz, n1_zz, bI_f, bI_t, wp_al0 (y := zX6_swap) dX6_swap_0, wp_iconst (y := zX6_swap) (nI 0) ki_0 dX6_swap_1, wp_putf (y := zX6_swap) kF6_44 rfl dX6_swap_2, wp_al0 (y := zX6_swap) dX6_swap_5, wp_il1 (y := zX6_swap) dX6_swap_6, wp_cv1 (y := zX6_swap) kM6_80 (by decide) dX6_swap_7, (show yo zX6_isWall = 6 from rfl), wp_if_ne (y := zX6_swap) 20 (by decide) dX6_swap_10, wp_al0 (y := zX6_swap) dX6_swap_20, wp_il1 (y := zX6_swap) dX6_swap_21, wp_cv1 (y := zX6_swap) kM6_147 (by decide) dX6_swap_22, (show yo zX6_canSwap = 6 from rfl), wp_if_ne (y := zX6_swap) 35 (by decide) dX6_swap_25, wp_al0 (y := zX6_swap) dX6_swap_28, wp_bipush (y := zX6_swap) ((-3)) kb_m3 dX6_swap_29, wp_cv1 (y := zX6_swap) kM6_72 (by decide) dX6_swap_31, (show yo zX6_refuse = 6 from rfl), O.oc, O.g0, O.g1, O.g2, O.g3, O.g4, O.g5, O.g6, O.g7, O.g9, O.g10, O.g11, O.p0, O.p7, O.a1, O.a2, O.a3, O.a4, O.a5, O.a6, O.a7, O.a8, O.a9, E1, E2]
      refine cl_mono (m_ref3 O R0) ?_
      rintro r μ1 ⟨rfl, R1, F1⟩
      simp (disch := first | omega | assumption) only [mm_op_some, true_and, and_true, mm_rc_some, mm_rc_none, pk_mul, nI_add, mm_in_t, nI_clamp, ok0, ok1, ok2, ok3, ok4, n1_0, n0_0, nI_le_, nI_lt_, if_true, if_false, not_true, not_false_eq_true, ce_lt, ce_cl, hf_lt, hf_cl, wp_ireti (y := zX6_swap) rfl dX6_swap_34]
      rw [← hq, ← hv]
      exact mt_ro g0 rfl F1 rfl R1 J
theorem m_vanish (O : MoSh sh m) (R : RepM s μ m) (J : Inv s.1) (g0 : μ m 7 = nI 0) (x : Int32) : cl sh zX6_vanish [.ref m, .int x] μ (MT m μ (a_vanish s x)) := by
  have R0 := R.mu0 (nI 0)
  show wp sh zX6_vanish 0 [.ref m, .int x] [] μ _
  unfold a_vanish
  cases e : ceO s.1 x with
  | none =>
    have E1 : ∀ Q', cl sh zX6_isCell [.ref m, .int x] (mu μ m (upd (μ m) 0 (nI 0))) Q' = Q' (some (.int (nI 0))) (mu μ m (upd (μ m) 0 (nI 0))) := fun Q' => m_isCellN O R0.1 J.sdb e
    generalize hv : (((-2 : Int32), fRf s 1) : Int32 × Fo) = v
    generalize hq : MT m μ v = QQ
    simp (disch := first | omega | assumption) only [mm_op_some, true_and, and_true, mm_rc_some, mm_rc_none, pk_mul, nI_add, mm_in_t, nI_clamp, ok0, ok1, ok2, ok3, ok4, n1_0, n0_0, nI_le_, nI_lt_, if_true, if_false, not_true, not_false_eq_true, ce_lt, ce_cl, hf_lt, hf_cl, n0_zz, n1_zz, bI_f, bI_t, wp_al0 (y := zX6_vanish) dX6_vanish_0, wp_iconst (y := zX6_vanish) (nI 0) ki_0 dX6_vanish_1, wp_putf (y := zX6_vanish) kF6_44 rfl dX6_vanish_2, wp_al0 (y := zX6_vanish) dX6_vanish_5, wp_il1 (y := zX6_vanish) dX6_vanish_6, wp_cv1 (y := zX6_vanish) kM6_93 (by decide) dX6_vanish_7, (show yo zX6_isCell = 6 from rfl), wp_if_ne (y := zX6_vanish) 20 (by decide) dX6_vanish_10, wp_al0 (y := zX6_vanish) dX6_vanish_13, wp_bipush (y := zX6_vanish) ((-2)) kb_m2 dX6_vanish_14, wp_cv1 (y := zX6_vanish) kM6_72 (by decide) dX6_vanish_16, (show yo zX6_refuse = 6 from rfl), O.oc, O.g0, O.g1, O.g2, O.g3, O.g4, O.g5, O.g6, O.g7, O.g9, O.g10, O.g11, O.p0, O.p7, O.a1, O.a2, O.a3, O.a4, O.a5, O.a6, O.a7, O.a8, O.a9, E1]
    refine cl_mono (m_ref2 O R0) ?_
    rintro r μ1 ⟨rfl, R1, F1⟩
    simp (disch := first | omega | assumption) only [mm_op_some, true_and, and_true, mm_rc_some, mm_rc_none, pk_mul, nI_add, mm_in_t, nI_clamp, ok0, ok1, ok2, ok3, ok4, n1_0, n0_0, nI_le_, nI_lt_, if_true, if_false, not_true, not_false_eq_true, ce_lt, ce_cl, hf_lt, hf_cl, wp_ireti (y := zX6_vanish) rfl dX6_vanish_19]
    rw [← hq, ← hv]
    exact mt_ro g0 rfl F1 rfl R1 J
  | some k =>
    obtain ⟨rfl, hk⟩ := ceO_some e
    obtain ⟨f, fh, hl⟩ := J.hasF k hk
    have E1 : ∀ Q', cl sh zX6_isCell [.ref m, .int (nI k.val)] (mu μ m (upd (μ m) 0 (nI 0))) Q' = Q' (some (.int (nI 1))) (mu μ m (upd (μ m) 0 (nI 0))) := fun Q' => m_isCellS O R0.1 J.sdb hk
    have E2 : ∀ Q', cl sh zX6_canVanish [.ref m, .int (nI k.val)] (mu μ m (upd (μ m) 0 (nI 0))) Q' = Q' (some (.int (bI (canS s.1 k f)))) (mu μ m (upd (μ m) 0 (nI 0))) := fun Q' => m_canVanish O R0.1 J k f fh
    dsimp only
    rw [fH_hI fh]
    by_cases hc : canS s.1 k f = true
    · rw [hc] at E2
      rw [if_pos hc]
      have JB : Inv (vaC s.1 k) := (J.van fh hc).2
      have fin : ∀ μ', RepM (fEv s (vaC s.1 k) 1 8 (nI k.val)) μ' m → RO (mu μ m (upd (μ m) 0 (nI 0))) μ' m → MT m μ (nI (vaH s.1 (vu s.1 k).1 (vu s.1 k).2.1 (vu s.1 k).2.2).val, fEv s (vaC s.1 k) 1 8 (nI k.val)) (some (.int (nI (vaH s.1 (vu s.1 k).1 (vu s.1 k).2.1 (vu s.1 k).2.2).val))) μ' := fun μ' R1 F1 => mt_ro g0 rfl F1 rfl R1 JB
      generalize MT m μ (nI (vaH s.1 (vu s.1 k).1 (vu s.1 k).2.1 (vu s.1 k).2.2).val, fEv s (vaC s.1 k) 1 8 (nI k.val)) = QQ at fin ⊢
      simp (disch := first | omega | assumption) only [mm_op_some, true_and, and_true, mm_rc_some, mm_rc_none, pk_mul, nI_add, mm_in_t, nI_clamp, ok0, ok1, ok2, ok3, ok4, n1_0, n0_0, nI_le_, nI_lt_, if_true, if_false, not_true, not_false_eq_true, ce_lt, ce_cl, hf_lt, hf_cl, n0_zz, n1_zz, bI_t, wp_al0 (y := zX6_vanish) dX6_vanish_0, wp_iconst (y := zX6_vanish) (nI 0) ki_0 dX6_vanish_1, wp_putf (y := zX6_vanish) kF6_44 rfl dX6_vanish_2, wp_al0 (y := zX6_vanish) dX6_vanish_5, wp_il1 (y := zX6_vanish) dX6_vanish_6, wp_cv1 (y := zX6_vanish) kM6_93 (by decide) dX6_vanish_7, (show yo zX6_isCell = 6 from rfl), wp_if_ne (y := zX6_vanish) 20 (by decide) dX6_vanish_10, wp_al0 (y := zX6_vanish) dX6_vanish_20, wp_il1 (y := zX6_vanish) dX6_vanish_21, wp_cv1 (y := zX6_vanish) kM6_160 (by decide) dX6_vanish_22, (show yo zX6_canVanish = 6 from rfl), wp_if_eq (y := zX6_vanish) 36 (by decide) dX6_vanish_25, wp_al0 (y := zX6_vanish) dX6_vanish_28, wp_il1 (y := zX6_vanish) dX6_vanish_29, wp_cv1 (y := zX6_vanish) kM6_163 (by decide) dX6_vanish_30, (show yo zX6_vanishes = 6 from rfl), O.oc, O.g0, O.g1, O.g2, O.g3, O.g4, O.g5, O.g6, O.g7, O.g9, O.g10, O.g11, O.p0, O.p7, O.a1, O.a2, O.a3, O.a4, O.a5, O.a6, O.a7, O.a8, O.a9, E1, E2]
      refine cl_mono (m_vanishes O R0 J f fh hc) ?_
      rintro r μ1 ⟨rfl, R1, F1⟩
      simp (disch := first | omega | assumption) only [mm_op_some, true_and, and_true, mm_rc_some, mm_rc_none, pk_mul, nI_add, mm_in_t, nI_clamp, ok0, ok1, ok2, ok3, ok4, n1_0, n0_0, nI_le_, nI_lt_, if_true, if_false, not_true, not_false_eq_true, ce_lt, ce_cl, hf_lt, hf_cl, wp_goto (y := zX6_vanish) 42 (by decide) dX6_vanish_33, wp_ireti (y := zX6_vanish) rfl dX6_vanish_42]
      exact fin _ R1 F1
    · have hc' : canS s.1 k f = false := Bool.eq_false_iff.mpr hc
      rw [hc'] at E2
      rw [if_neg hc]
      generalize hv : (((-3 : Int32), fRf s 2) : Int32 × Fo) = v
      generalize hq : MT m μ v = QQ
      simp (disch := first | omega | assumption) only [mm_op_some, true_and, and_true, mm_rc_some, mm_rc_none, pk_mul, nI_add, mm_in_t, nI_clamp, ok0, ok1, ok2, ok3, ok4, n1_0, n0_0, nI_le_, nI_lt_, if_true, if_false, not_true, not_false_eq_true, ce_lt, ce_cl, hf_lt, hf_cl, n0_zz, n1_zz, bI_f, bI_t, wp_al0 (y := zX6_vanish) dX6_vanish_0, wp_iconst (y := zX6_vanish) (nI 0) ki_0 dX6_vanish_1, wp_putf (y := zX6_vanish) kF6_44 rfl dX6_vanish_2, wp_al0 (y := zX6_vanish) dX6_vanish_5, wp_il1 (y := zX6_vanish) dX6_vanish_6, wp_cv1 (y := zX6_vanish) kM6_93 (by decide) dX6_vanish_7, (show yo zX6_isCell = 6 from rfl), wp_if_ne (y := zX6_vanish) 20 (by decide) dX6_vanish_10, wp_al0 (y := zX6_vanish) dX6_vanish_20, wp_il1 (y := zX6_vanish) dX6_vanish_21, wp_cv1 (y := zX6_vanish) kM6_160 (by decide) dX6_vanish_22, (show yo zX6_canVanish = 6 from rfl), wp_if_eq (y := zX6_vanish) 36 (by decide) dX6_vanish_25, wp_al0 (y := zX6_vanish) dX6_vanish_36, wp_bipush (y := zX6_vanish) ((-3)) kb_m3 dX6_vanish_37, wp_cv1 (y := zX6_vanish) kM6_72 (by decide) dX6_vanish_39, (show yo zX6_refuse = 6 from rfl), O.oc, O.g0, O.g1, O.g2, O.g3, O.g4, O.g5, O.g6, O.g7, O.g9, O.g10, O.g11, O.p0, O.p7, O.a1, O.a2, O.a3, O.a4, O.a5, O.a6, O.a7, O.a8, O.a9, E1, E2]
      refine cl_mono (m_ref3 O R0) ?_
      rintro r μ1 ⟨rfl, R1, F1⟩
      simp (disch := first | omega | assumption) only [mm_op_some, true_and, and_true, mm_rc_some, mm_rc_none, pk_mul, nI_add, mm_in_t, nI_clamp, ok0, ok1, ok2, ok3, ok4, n1_0, n0_0, nI_le_, nI_lt_, if_true, if_false, not_true, not_false_eq_true, ce_lt, ce_cl, hf_lt, hf_cl, wp_ireti (y := zX6_vanish) rfl dX6_vanish_42]
      rw [← hq, ← hv]
      exact mt_ro g0 rfl F1 rfl R1 J
theorem m_relax (O : MoSh sh m) (R : RepM s μ m) (J : Inv s.1) (g0 : μ m 7 = nI 0) : cl sh zX6_relax [.ref m] μ (MT m μ (a_relax s)) := by
  have R0 := R.mu0 (nI 0)
  show wp sh zX6_relax 0 [.ref m] [] μ _
  unfold a_relax
  have fin : ∀ μ', RepM (caF 1000000 0 s).2 μ' m → Inv (caF 1000000 0 s).2.1 → RO (mu μ m (upd (μ m) 0 (nI 0))) μ' m → MT m μ (nI (caF 1000000 0 s).1, (caF 1000000 0 s).2) (some (.int (nI (caF 1000000 0 s).1))) μ' := fun μ' R1 JB F1 => mt_ro g0 rfl F1 rfl R1 JB
  generalize MT m μ (nI (caF 1000000 0 s).1, (caF 1000000 0 s).2) = QQ at fin ⊢
  simp (disch := first | omega | assumption) only [mm_op_some, true_and, and_true, mm_rc_some, mm_rc_none, pk_mul, nI_add, mm_in_t, nI_clamp, ok0, ok1, ok2, ok3, ok4, n1_0, n0_0, nI_le_, nI_lt_, if_true, if_false, not_true, not_false_eq_true, ce_lt, ce_cl, hf_lt, hf_cl, wp_al0 (y := zX6_relax) dX6_relax_0, wp_iconst (y := zX6_relax) (nI 0) ki_0 dX6_relax_1, wp_putf (y := zX6_relax) kF6_44 rfl dX6_relax_2, wp_al0 (y := zX6_relax) dX6_relax_5, wp_cv0 (y := zX6_relax) kM6_234 (by decide) dX6_relax_6, (show yo zX6_relaxes = 6 from rfl), O.oc, O.g0, O.g1, O.g2, O.g3, O.g4, O.g5, O.g6, O.g7, O.g9, O.g10, O.g11, O.p0, O.p7, O.a1, O.a2, O.a3, O.a4, O.a5, O.a6, O.a7, O.a8, O.a9]
  refine cl_mono (m_relaxes O R0 J) ?_
  rintro r μ1 ⟨rfl, ⟨R1, JB⟩, F1⟩
  simp (disch := first | omega | assumption) only [mm_op_some, true_and, and_true, mm_rc_some, mm_rc_none, pk_mul, nI_add, mm_in_t, nI_clamp, ok0, ok1, ok2, ok3, ok4, n1_0, n0_0, nI_le_, nI_lt_, if_true, if_false, not_true, not_false_eq_true, ce_lt, ce_cl, hf_lt, hf_cl, wp_ireti (y := zX6_relax) rfl dX6_relax_9]
  exact fin _ R1 JB F1
end MPU
