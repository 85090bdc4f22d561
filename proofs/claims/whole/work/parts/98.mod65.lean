theorem fd_more (P : Nat → Bool) : ∀ d i, (fd P (d + 1) i).isSome = ((fd P d i).isSome || P (i + d))
  | 0, i => by
    show (if P i = true then some i else none).isSome = (false || P (i + 0))
    rw [Bool.false_or, Nat.add_zero]
    cases h : P i with
    | true => rfl
    | false => rfl
  | d + 1, i => by
    show (if P i = true then some i else fd P (d + 1) (i + 1)).isSome = ((if P i = true then some i else fd P d (i + 1)).isSome || P (i + (d + 1)))
    cases h : P i with
    | true => rfl
    | false =>
      rw [if_neg (by decide), if_neg (by decide), fd_more P d (i + 1), show i + 1 + d = i + (d + 1) by omega]
theorem nr_of {x : Int32} (h1 : ¬ x < -1) (h2 : ¬ nI 1 < x) : nr x = true := by
  refine decide_eq_true ⟨fun q => h1 ?_, fun q => h2 ?_⟩
  · rw [Int32.lt_iff_toInt_lt] at q ⊢
    have e1 : (-2 : Int32).toInt = -2 := by decide
    have e2 : (-1 : Int32).toInt = -1 := by decide
    omega
  · rw [Int32.lt_iff_toInt_lt] at q ⊢
    have e1 : (nI 2).toInt = 2 := by decide
    have e2 : (nI 1).toInt = 1 := by decide
    omega
section MAR
variable {sh : mm_Sh} {m : Nat} {M : Ms} {μ : mm_U} {s : Fo} {Q : Option Value → mm_U → Prop}
theorem m_around (O : MoSh sh m) (R : RepM s μ m) (J : Inv s.1) (g0 : μ m 7 = nI 0) (x y z : Int32) : cl sh zX6_around [.ref m, .int x, .int y, .int z] μ (MT m μ (a_around s x y z, s)) := by
  have R0 := R.mu0 (nI 0)
  have A := R0.1
  show wp sh zX6_around 0 [.ref m, .int x, .int y, .int z] [] μ _
  have fin : ∀ v μ', FrA (mu μ m (upd (μ m) 0 (nI 0))) μ' (m + 8) → MT m μ (v, s) (some (.int v)) μ' := fun v μ' F => mt_fa (b := m + 8) (by omega) g0 R J F
  unfold a_around
  cases ex : ceO s.1 x with
  | none =>
    have E1 : ∀ Q', cl sh zX6_isCell [.ref m, .int x] (mu μ m (upd (μ m) 0 (nI 0))) Q' = Q' (some (.int (nI 0))) (mu μ m (upd (μ m) 0 (nI 0))) := fun Q' => m_isCellN O A J.sdb ex
    have fin := fin (-1) _ (FrA.refl _ _)
    dsimp only
    generalize MT m μ ((-1 : Int32), s) = QQ at fin ⊢
    simp (disch := first | omega | assumption) only [mm_op_some, true_and, and_true, mm_rc_some, mm_rc_none, pk_mul, nI_add, mm_in_t, nI_clamp, ok0, ok1, ok2, ok3, ok4, n1_0, n0_0, nI_le_, nI_lt_, if_true, if_false, not_true, not_false_eq_true, ce_lt, ce_cl, hf_lt, hf_cl, n0_zz, wp_al0 (y := zX6_around) dX6_around_0, wp_iconst (y := zX6_around) (nI 0) ki_0 dX6_around_1, wp_putf (y := zX6_around) kF6_44 rfl dX6_around_2, wp_al0 (y := zX6_around) dX6_around_5, wp_il1 (y := zX6_around) dX6_around_6, wp_cv1 (y := zX6_around) kM6_93 (by decide) dX6_around_7, (show yo zX6_isCell = 6 from rfl), wp_if_eq (y := zX6_around) 37 (by decide) dX6_around_10, wp_iconst (y := zX6_around) ((-1)) ki_m1 dX6_around_37, wp_ireti (y := zX6_around) rfl dX6_around_38, O.oc, O.g0, O.g1, O.g2, O.g3, O.g4, O.g5, O.g6, O.g7, O.g9, O.g10, O.g11, O.p0, O.p7, O.a1, O.a2, O.a3, O.a4, O.a5, O.a6, O.a7, O.a8, O.a9, E1]
    exact fin
  | some c =>
    obtain ⟨rfl, hc⟩ := ceO_some ex
    have E1 : ∀ Q', cl sh zX6_isCell [.ref m, .int (nI c.val)] (mu μ m (upd (μ m) 0 (nI 0))) Q' = Q' (some (.int (nI 1))) (mu μ m (upd (μ m) 0 (nI 0))) := fun Q' => m_isCellS O A J.sdb hc
    dsimp only
    by_cases hy : y < -1 ∨ nI 1 < y
    · rw [if_pos (hy.elim Or.inl (fun q => Or.inr (Or.inl q)))]
      have i0 : mm_isin y.toInt64 (-1) 1 = nI 0 := isin_an (lo := -1) (hi := nI 1) (by decide) rfl hy
      have fin := fin (-1) _ (FrA.refl _ _)
      generalize MT m μ ((-1 : Int32), s) = QQ at fin ⊢
      simp (disch := first | omega | assumption) only [mm_op_some, true_and, and_true, mm_rc_some, mm_rc_none, pk_mul, nI_add, mm_in_t, nI_clamp, ok0, ok1, ok2, ok3, ok4, n1_0, n0_0, nI_le_, nI_lt_, if_true, if_false, not_true, not_false_eq_true, ce_lt, ce_cl, hf_lt, hf_cl, n0_zz, n1_zz, wp_al0 (y := zX6_around) dX6_around_0, wp_iconst (y := zX6_around) (nI 0) ki_0 dX6_around_1, wp_putf (y := zX6_around) kF6_44 rfl dX6_around_2, wp_al0 (y := zX6_around) dX6_around_5, wp_il1 (y := zX6_around) dX6_around_6, wp_cv1 (y := zX6_around) kM6_93 (by decide) dX6_around_7, (show yo zX6_isCell = 6 from rfl), wp_if_eq (y := zX6_around) 37 (by decide) dX6_around_10, wp_il2 (y := zX6_around) dX6_around_13, wp_i2l (y := zX6_around) dX6_around_14, wp_ldc2 (y := zX6_around) kL6_279 dX6_around_15, wp_lconst (y := zX6_around) (1) kl_1 dX6_around_18, wp_in (y := zX6_around) rfl kP6_48 (by decide) dX6_around_19, wp_if_eq (y := zX6_around) 37 (by decide) dX6_around_22, wp_iconst (y := zX6_around) ((-1)) ki_m1 dX6_around_37, wp_ireti (y := zX6_around) rfl dX6_around_38, O.oc, O.g0, O.g1, O.g2, O.g3, O.g4, O.g5, O.g6, O.g7, O.g9, O.g10, O.g11, O.p0, O.p7, O.a1, O.a2, O.a3, O.a4, O.a5, O.a6, O.a7, O.a8, O.a9, E1, i0]
      exact fin
    · have i0 : mm_isin y.toInt64 (-1) 1 = nI 1 := isin_ab (lo := -1) (hi := nI 1) (by decide) rfl (fun q => hy (Or.inl q)) (fun q => hy (Or.inr q))
      by_cases hz : z < -1 ∨ nI 1 < z
      · rw [if_pos (Or.inr (Or.inr hz))]
        have i1 : mm_isin z.toInt64 (-1) 1 = nI 0 := isin_an (lo := -1) (hi := nI 1) (by decide) rfl hz
        have fin := fin (-1) _ (FrA.refl _ _)
        generalize MT m μ ((-1 : Int32), s) = QQ at fin ⊢
        simp (disch := first | omega | assumption) only [mm_op_some, true_and, and_true, mm_rc_some, mm_rc_none, pk_mul, nI_add, mm_in_t, nI_clamp, ok0, ok1, ok2, ok3, ok4, n1_0, n0_0, nI_le_, nI_lt_, if_true, if_false, not_true, not_false_eq_true, ce_lt, ce_cl, hf_lt, hf_cl, n0_zz, n1_zz, wp_al0 (y := zX6_around) dX6_around_0, wp_iconst (y := zX6_around) (nI 0) ki_0 dX6_around_1, wp_putf (y := zX6_around) kF6_44 rfl dX6_around_2, wp_al0 (y := zX6_around) dX6_around_5, wp_il1 (y := zX6_around) dX6_around_6, wp_cv1 (y := zX6_around) kM6_93 (by decide) dX6_around_7, (show yo zX6_isCell = 6 from rfl), wp_if_eq (y := zX6_around) 37 (by decide) dX6_around_10, wp_il2 (y := zX6_around) dX6_around_13, wp_i2l (y := zX6_around) dX6_around_14, wp_ldc2 (y := zX6_around) kL6_279 dX6_around_15, wp_lconst (y := zX6_around) (1) kl_1 dX6_around_18, wp_in (y := zX6_around) rfl kP6_48 (by decide) dX6_around_19, wp_if_eq (y := zX6_around) 37 (by decide) dX6_around_22, wp_il3 (y := zX6_around) dX6_around_25, wp_i2l (y := zX6_around) dX6_around_26, wp_ldc2 (y := zX6_around) kL6_279 dX6_around_27, wp_lconst (y := zX6_around) (1) kl_1 dX6_around_30, wp_in (y := zX6_around) rfl kP6_48 (by decide) dX6_around_31, wp_if_ne (y := zX6_around) 39 (by decide) dX6_around_34, wp_iconst (y := zX6_around) ((-1)) ki_m1 dX6_around_37, wp_ireti (y := zX6_around) rfl dX6_around_38, O.oc, O.g0, O.g1, O.g2, O.g3, O.g4, O.g5, O.g6, O.g7, O.g9, O.g10, O.g11, O.p0, O.p7, O.a1, O.a2, O.a3, O.a4, O.a5, O.a6, O.a7, O.a8, O.a9, E1, i0, i1]
        exact fin
      · have i1 : mm_isin z.toInt64 (-1) 1 = nI 1 := isin_ab (lo := -1) (hi := nI 1) (by decide) rfl (fun q => hz (Or.inl q)) (fun q => hz (Or.inr q))
        rw [if_neg (fun q => q.elim (fun t => hy (Or.inl t)) (fun t => t.elim (fun t => hy (Or.inr t)) hz))]
        have n1 := nr_of (fun q => hy (Or.inl q)) (fun q => hy (Or.inr q))
        have n2 := nr_of (fun q => hz (Or.inl q)) (fun q => hz (Or.inr q))
        have fin := fin (fo ((srF s.1 (nI 0) c).1 (p3 c y z)))
        generalize MT m μ (fo ((srF s.1 (nI 0) c).1 (p3 c y z)), s) = QQ at fin ⊢
        simp (disch := first | omega | assumption) only [mm_op_some, true_and, and_true, mm_rc_some, mm_rc_none, pk_mul, nI_add, mm_in_t, nI_clamp, ok0, ok1, ok2, ok3, ok4, n1_0, n0_0, nI_le_, nI_lt_, if_true, if_false, not_true, not_false_eq_true, ce_lt, ce_cl, hf_lt, hf_cl, n0_zz, n1_zz, wp_al0 (y := zX6_around) dX6_around_0, wp_iconst (y := zX6_around) (nI 0) ki_0 dX6_around_1, wp_putf (y := zX6_around) kF6_44 rfl dX6_around_2, wp_al0 (y := zX6_around) dX6_around_5, wp_il1 (y := zX6_around) dX6_around_6, wp_cv1 (y := zX6_around) kM6_93 (by decide) dX6_around_7, (show yo zX6_isCell = 6 from rfl), wp_if_eq (y := zX6_around) 37 (by decide) dX6_around_10, wp_il2 (y := zX6_around) dX6_around_13, wp_i2l (y := zX6_around) dX6_around_14, wp_ldc2 (y := zX6_around) kL6_279 dX6_around_15, wp_lconst (y := zX6_around) (1) kl_1 dX6_around_18, wp_in (y := zX6_around) rfl kP6_48 (by decide) dX6_around_19, wp_if_eq (y := zX6_around) 37 (by decide) dX6_around_22, wp_il3 (y := zX6_around) dX6_around_25, wp_i2l (y := zX6_around) dX6_around_26, wp_ldc2 (y := zX6_around) kL6_279 dX6_around_27, wp_lconst (y := zX6_around) (1) kl_1 dX6_around_30, wp_in (y := zX6_around) rfl kP6_48 (by decide) dX6_around_31, wp_if_ne (y := zX6_around) 39 (by decide) dX6_around_34, wp_al0 (y := zX6_around) dX6_around_39, wp_il1 (y := zX6_around) dX6_around_40, wp_iconst (y := zX6_around) (nI 0) ki_0 dX6_around_41, wp_cv2 (y := zX6_around) kM6_281 (by decide) dX6_around_42, (show yo zX6_layWays = 6 from rfl), O.oc, O.g0, O.g1, O.g2, O.g3, O.g4, O.g5, O.g6, O.g7, O.g9, O.g10, O.g11, O.p0, O.p7, O.a1, O.a2, O.a3, O.a4, O.a5, O.a6, O.a7, O.a8, O.a9, E1, i0, i1]
        refine cl_mono (m_layWays O A J (nI 0) c hc) ?_
        rintro r μ1 ⟨rfl, F1, r1, b1⟩
        have ES : ∀ Q', cl sh zX6_stateOf [.int (nI c.val), .int y, .int z] μ1 Q' = Q' (some (.int (nI (p3 c y z).val))) μ1 := fun Q' => m_stateOf c n1 n2
        have q1 := r1 (p3 c y z)
        have pb := (p3 c y z).isLt
        simp (disch := first | omega | assumption) only [mm_op_some, true_and, and_true, mm_rc_some, mm_rc_none, pk_mul, nI_add, mm_in_t, nI_clamp, ok0, ok1, ok2, ok3, ok4, n1_0, n0_0, nI_le_, nI_lt_, if_true, if_false, not_true, not_false_eq_true, ce_lt, ce_cl, hf_lt, hf_cl, n0_zz, n1_zz, wp_al0 (y := zX6_around) dX6_around_45, wp_getf (y := zX6_around) kF6_34 dX6_around_46, wp_il1 (y := zX6_around) dX6_around_49, wp_il2 (y := zX6_around) dX6_around_50, wp_il3 (y := zX6_around) dX6_around_51, wp_cs3 (y := zX6_around) kM6_270 (by decide) dX6_around_52, wp_iald (y := zX6_around) dX6_around_55, wp_ireti (y := zX6_around) rfl dX6_around_56, O.oc, O.g0, O.g1, O.g2, O.g3, O.g4, O.g5, O.g6, O.g7, O.g9, O.g10, O.g11, O.p0, O.p7, O.a1, O.a2, O.a3, O.a4, O.a5, O.a6, O.a7, O.a8, O.a9, ES, q1]
        exact fin _ F1
theorem m_spans (O : MoSh sh m) (R : RepM s μ m) (J : Inv s.1) (g0 : μ m 7 = nI 0) (x n what : Int32) : cl sh zX6_spans [.ref m, .int x, .int n, .int what] μ (MT m μ (a_spans s x n what, s)) := by
  have R0 := R.mu0 (nI 0)
  have A := R0.1
  show wp sh zX6_spans 0 [.ref m, .int x, .int n, .int what, .null, .null] [] μ _
  have fin : ∀ v μ', FrA (mu μ m (upd (μ m) 0 (nI 0))) μ' (m + 8) → MT m μ (v, s) (some (.int v)) μ' := fun v μ' F => mt_fa (b := m + 8) (by omega) g0 R J F
  unfold a_spans
  cases ex : ceO s.1 x with
  | none =>
    have E1 : ∀ Q', cl sh zX6_isCell [.ref m, .int x] (mu μ m (upd (μ m) 0 (nI 0))) Q' = Q' (some (.int (nI 0))) (mu μ m (upd (μ m) 0 (nI 0))) := fun Q' => m_isCellN O A J.sdb ex
    have fin := fin (-1) _ (FrA.refl _ _)
    dsimp only
    generalize MT m μ ((-1 : Int32), s) = QQ at fin ⊢
    simp (disch := first | omega | assumption) only [mm_op_some, true_and, and_true, mm_rc_some, mm_rc_none, pk_mul, nI_add, mm_in_t, nI_clamp, ok0, ok1, ok2, ok3, ok4, n1_0, n0_0, nI_le_, nI_lt_, if_true, if_false, not_true, not_false_eq_true, ce_lt, ce_cl, hf_lt, hf_cl, n0_zz, wp_al0 (y := zX6_spans) dX6_spans_0, wp_iconst (y := zX6_spans) (nI 0) ki_0 dX6_spans_1, wp_putf (y := zX6_spans) kF6_44 rfl dX6_spans_2, wp_al0 (y := zX6_spans) dX6_spans_5, wp_il1 (y := zX6_spans) dX6_spans_6, wp_cv1 (y := zX6_spans) kM6_93 (by decide) dX6_spans_7, (show yo zX6_isCell = 6 from rfl), wp_if_eq (y := zX6_spans) 23 (by decide) dX6_spans_10, wp_iconst (y := zX6_spans) ((-1)) ki_m1 dX6_spans_23, wp_ireti (y := zX6_spans) rfl dX6_spans_24, O.oc, O.g0, O.g1, O.g2, O.g3, O.g4, O.g5, O.g6, O.g7, O.g9, O.g10, O.g11, O.p0, O.p7, O.a1, O.a2, O.a3, O.a4, O.a5, O.a6, O.a7, O.a8, O.a9, E1]
    exact fin
  | some c =>
    obtain ⟨rfl, hc⟩ := ceO_some ex
    have E1 : ∀ Q', cl sh zX6_isCell [.ref m, .int (nI c.val)] (mu μ m (upd (μ m) 0 (nI 0))) Q' = Q' (some (.int (nI 1))) (mu μ m (upd (μ m) 0 (nI 0))) := fun Q' => m_isCellS O A J.sdb hc
    have ES : ∀ Q', cl sh zX6_sidesOf [.ref m, .int (nI c.val)] (mu μ m (upd (μ m) 0 (nI 0))) Q' = Q' (some (.int (nI (sd s.1 c)))) (mu μ m (upd (μ m) 0 (nI 0))) := fun Q' => m_sidesOf O A c
    dsimp only
    by_cases hw : what < 0 ∨ nI 1 < what
    · rw [if_pos hw]
      have i0 : mm_isin what.toInt64 0 1 = nI 0 := isin_an (lo := 0) (hi := nI 1) rfl rfl hw
      have fin := fin (-1) _ (FrA.refl _ _)
      generalize MT m μ ((-1 : Int32), s) = QQ at fin ⊢
      simp (disch := first | omega | assumption) only [mm_op_some, true_and, and_true, mm_rc_some, mm_rc_none, pk_mul, nI_add, mm_in_t, nI_clamp, ok0, ok1, ok2, ok3, ok4, n1_0, n0_0, nI_le_, nI_lt_, if_true, if_false, not_true, not_false_eq_true, ce_lt, ce_cl, hf_lt, hf_cl, n0_zz, n1_zz, wp_al0 (y := zX6_spans) dX6_spans_0, wp_iconst (y := zX6_spans) (nI 0) ki_0 dX6_spans_1, wp_putf (y := zX6_spans) kF6_44 rfl dX6_spans_2, wp_al0 (y := zX6_spans) dX6_spans_5, wp_il1 (y := zX6_spans) dX6_spans_6, wp_cv1 (y := zX6_spans) kM6_93 (by decide) dX6_spans_7, (show yo zX6_isCell = 6 from rfl), wp_if_eq (y := zX6_spans) 23 (by decide) dX6_spans_10, wp_il3 (y := zX6_spans) dX6_spans_13, wp_i2l (y := zX6_spans) dX6_spans_14, wp_lconst (y := zX6_spans) (0) kl_0 dX6_spans_15, wp_lconst (y := zX6_spans) (1) kl_1 dX6_spans_16, wp_in (y := zX6_spans) rfl kP6_48 (by decide) dX6_spans_17, wp_if_ne (y := zX6_spans) 25 (by decide) dX6_spans_20, wp_iconst (y := zX6_spans) ((-1)) ki_m1 dX6_spans_23, wp_ireti (y := zX6_spans) rfl dX6_spans_24, O.oc, O.g0, O.g1, O.g2, O.g3, O.g4, O.g5, O.g6, O.g7, O.g9, O.g10, O.g11, O.p0, O.p7, O.a1, O.a2, O.a3, O.a4, O.a5, O.a6, O.a7, O.a8, O.a9, E1, i0]
      exact fin
    · rw [if_neg hw]
      have i0 : mm_isin what.toInt64 0 1 = nI 1 := isin_ab (lo := 0) (hi := nI 1) rfl rfl (fun q => hw (Or.inl q)) (fun q => hw (Or.inr q))
      by_cases hn : nI (sd s.1 c) < n
      · have hn' : (n ≤ nI (sd s.1 c)) = False := i_nle hn
        rw [if_pos hn]
        have fin := fin (nI 0) _ (FrA.refl _ _)
        generalize MT m μ (nI 0, s) = QQ at fin ⊢
        simp (disch := first | omega | assumption) only [mm_op_some, true_and, and_true, mm_rc_some, mm_rc_none, pk_mul, nI_add, mm_in_t, nI_clamp, ok0, ok1, ok2, ok3, ok4, n1_0, n0_0, nI_le_, nI_lt_, if_true, if_false, not_true, not_false_eq_true, ce_lt, ce_cl, hf_lt, hf_cl, n0_zz, n1_zz, wp_al0 (y := zX6_spans) dX6_spans_0, wp_iconst (y := zX6_spans) (nI 0) ki_0 dX6_spans_1, wp_putf (y := zX6_spans) kF6_44 rfl dX6_spans_2, wp_al0 (y := zX6_spans) dX6_spans_5, wp_il1 (y := zX6_spans) dX6_spans_6, wp_cv1 (y := zX6_spans) kM6_93 (by decide) dX6_spans_7, (show yo zX6_isCell = 6 from rfl), wp_if_eq (y := zX6_spans) 23 (by decide) dX6_spans_10, wp_il3 (y := zX6_spans) dX6_spans_13, wp_i2l (y := zX6_spans) dX6_spans_14, wp_lconst (y := zX6_spans) (0) kl_0 dX6_spans_15, wp_lconst (y := zX6_spans) (1) kl_1 dX6_spans_16, wp_in (y := zX6_spans) rfl kP6_48 (by decide) dX6_spans_17, wp_if_ne (y := zX6_spans) 25 (by decide) dX6_spans_20, wp_al0 (y := zX6_spans) dX6_spans_25, wp_il1 (y := zX6_spans) dX6_spans_26, wp_cv1 (y := zX6_spans) kM6_115 (by decide) dX6_spans_27, (show yo zX6_sidesOf = 6 from rfl), wp_il2 (y := zX6_spans) dX6_spans_30, wp_icmp_ge (y := zX6_spans) 36 (by decide) dX6_spans_31, wp_iconst (y := zX6_spans) (nI 0) ki_0 dX6_spans_34, wp_ireti (y := zX6_spans) rfl dX6_spans_35, O.oc, O.g0, O.g1, O.g2, O.g3, O.g4, O.g5, O.g6, O.g7, O.g9, O.g10, O.g11, O.p0, O.p7, O.a1, O.a2, O.a3, O.a4, O.a5, O.a6, O.a7, O.a8, O.a9, E1, i0, ES, hn']
        exact fin
      · have hn' : (n ≤ nI (sd s.1 c)) = True := eq_true (by rw [Int32.lt_iff_toInt_lt] at hn; rw [Int32.le_iff_toInt_le]; omega)
        rw [if_neg hn]
        generalize hP : (fun i => ((srF s.1 n c).1 (spq c what i)).isSome) = P
        have fin := fin (bI (fd P 5 0).isSome)
        generalize MT m μ (bI (fd P 5 0).isSome, s) = QQ at fin ⊢
        simp (disch := first | omega | assumption) only [mm_op_some, true_and, and_true, mm_rc_some, mm_rc_none, pk_mul, nI_add, mm_in_t, nI_clamp, ok0, ok1, ok2, ok3, ok4, n1_0, n0_0, nI_le_, nI_lt_, if_true, if_false, not_true, not_false_eq_true, ce_lt, ce_cl, hf_lt, hf_cl, n0_zz, n1_zz, wp_al0 (y := zX6_spans) dX6_spans_0, wp_iconst (y := zX6_spans) (nI 0) ki_0 dX6_spans_1, wp_putf (y := zX6_spans) kF6_44 rfl dX6_spans_2, wp_al0 (y := zX6_spans) dX6_spans_5, wp_il1 (y := zX6_spans) dX6_spans_6, wp_cv1 (y := zX6_spans) kM6_93 (by decide) dX6_spans_7, (show yo zX6_isCell = 6 from rfl), wp_if_eq (y := zX6_spans) 23 (by decide) dX6_spans_10, wp_il3 (y := zX6_spans) dX6_spans_13, wp_i2l (y := zX6_spans) dX6_spans_14, wp_lconst (y := zX6_spans) (0) kl_0 dX6_spans_15, wp_lconst (y := zX6_spans) (1) kl_1 dX6_spans_16, wp_in (y := zX6_spans) rfl kP6_48 (by decide) dX6_spans_17, wp_if_ne (y := zX6_spans) 25 (by decide) dX6_spans_20, wp_al0 (y := zX6_spans) dX6_spans_25, wp_il1 (y := zX6_spans) dX6_spans_26, wp_cv1 (y := zX6_spans) kM6_115 (by decide) dX6_spans_27, (show yo zX6_sidesOf = 6 from rfl), wp_il2 (y := zX6_spans) dX6_spans_30, wp_icmp_ge (y := zX6_spans) 36 (by decide) dX6_spans_31, wp_al0 (y := zX6_spans) dX6_spans_36, wp_il1 (y := zX6_spans) dX6_spans_37, wp_il2 (y := zX6_spans) dX6_spans_38, wp_cv2 (y := zX6_spans) kM6_281 (by decide) dX6_spans_39, (show yo zX6_layWays = 6 from rfl), O.oc, O.g0, O.g1, O.g2, O.g3, O.g4, O.g5, O.g6, O.g7, O.g9, O.g10, O.g11, O.p0, O.p7, O.a1, O.a2, O.a3, O.a4, O.a5, O.a6, O.a7, O.a8, O.a9, E1, i0, ES, hn']
        refine cl_mono (m_layWays O A J n c hc) ?_
        rintro r μ1 ⟨rfl, F1, r1, b1⟩
        have key : ∀ d i, i + d = 5 → wp sh zX6_spans 49 [.ref m, .int (nI c.val), .int n, .int what, .int (bI (fd P i 0).isSome), .int (nI i - nI 2)] [] μ1 QQ := by
          intro d
          induction d with
          | zero =>
            intro i hi
            have e : i = 5 := by omega
            subst e
            have g2 : (nI 2 < nI 5 - nI 2) = True := eq_true (by decide)
            rw [wp_il5 (y := zX6_spans) dX6_spans_49]
            simp (disch := first | omega | assumption) only [mm_op_some, true_and, and_true, mm_rc_some, mm_rc_none, ok0, ok1, ok2, ok3, ok4, n1_0, n0_0, if_true, if_false, wp_iconst (y := zX6_spans) (nI 2) ki_2 dX6_spans_51, wp_icmp_gt (y := zX6_spans) 99 (by decide) dX6_spans_52, wp_il4 (y := zX6_spans) dX6_spans_99, wp_ireti (y := zX6_spans) rfl dX6_spans_101, g2]
            exact fin _ F1
          | succ d ih =>
            intro i hi
            have ih := ih (i + 1) (by omega)
            rw [fd_more, Nat.zero_add] at ih
            obtain ⟨v1, v2, v3⟩ := nr5 ⟨i, by omega⟩
            have v1 : nr (nI i - nI 2) = true := v1
            have v2 : (nI 2 < nI i - nI 2) = False := v2
            have v3 : nI i - nI 2 + nI 1 = nI (i + 1) - nI 2 := v3
            have w : P i = ((srF s.1 n c).1 (spq c what i)).isSome := by rw [← hP]
            rw [← v3] at ih
            rw [wp_il5 (y := zX6_spans) dX6_spans_49]
            by_cases w0 : what = 0
            · have w0' := eq_true w0
              have es : spq c what i = p3 c (nI 1) (nI i - nI 2) := if_pos w0
              rw [es] at w
              have EST : ∀ Q', cl sh zX6_stateOf [.int (nI c.val), .int (nI 1), .int (nI i - nI 2)] μ1 Q' = Q' (some (.int (nI (p3 c (nI 1) (nI i - nI 2)).val))) μ1 := fun Q' => m_stateOf c nr1 v1
              have q1 := r1 (p3 c (nI 1) (nI i - nI 2))
              have bq := b1 (p3 c (nI 1) (nI i - nI 2))
              generalize p3 c (nI 1) (nI i - nI 2) = pp at w EST q1 bq
              have pb := pp.isLt
              rw [w] at ih
              cases e : (srF s.1 n c).1 pp with
              | none =>
                rw [e] at q1 ih
                have q1 : μ1 (m + 8) pp.val = -1 := q1
                have mm : ((-1 : Int32) = -1) = True := eq_true rfl
                rw [show (none : Option Nat).isSome = false from rfl, Bool.or_false] at ih
                generalize nI i - nI 2 = ii at *
                simp (disch := first | omega | assumption) only [mm_op_some, true_and, and_true, mm_rc_some, mm_rc_none, ok0, ok1, ok2, ok3, ok4, n1_0, n0_0, if_true, if_false, n0_zz, n1_zz, nI_clamp, mm_in_t, wp_iconst (y := zX6_spans) (nI 2) ki_2 dX6_spans_51, wp_icmp_gt (y := zX6_spans) 99 (by decide) dX6_spans_52, wp_al0 (y := zX6_spans) dX6_spans_55, wp_getf (y := zX6_spans) kF6_34 dX6_spans_56, wp_il3 (y := zX6_spans) dX6_spans_59, wp_if_ne (y := zX6_spans) 73 (by decide) dX6_spans_60, wp_il1 (y := zX6_spans) dX6_spans_63, wp_iconst (y := zX6_spans) (nI 1) ki_1 dX6_spans_64, wp_il5 (y := zX6_spans) dX6_spans_65, wp_cs3 (y := zX6_spans) kM6_270 (by decide) dX6_spans_67, wp_goto (y := zX6_spans) 80 (by decide) dX6_spans_70, wp_iald (y := zX6_spans) dX6_spans_80, wp_iconst (y := zX6_spans) ((-1)) ki_m1 dX6_spans_81, wp_icmp_eq (y := zX6_spans) 89 (by decide) dX6_spans_82, wp_il4 (y := zX6_spans) dX6_spans_89, wp_is4 (y := zX6_spans) dX6_spans_91, wp_inc5 (y := zX6_spans) (nI 1) ki_1 dX6_spans_93, wp_goto (y := zX6_spans) 49 (by decide) dX6_spans_96, O.oc, O.g0, O.g1, O.g2, O.g3, O.g4, O.g5, O.g6, O.g7, O.g9, O.g10, O.g11, O.p0, O.p7, O.a1, O.a2, O.a3, O.a4, O.a5, O.a6, O.a7, O.a8, O.a9, v2, w0', EST, q1, mm]
                exact ih
              | some e0 =>
                rw [e] at q1 ih
                have q1 : μ1 (m + 8) pp.val = nI e0 := q1
                have mm : (nI e0 = (-1 : Int32)) = False := nI_m1 (by have := bq e0 e; omega)
                rw [show (some e0 : Option Nat).isSome = true from rfl, Bool.or_true, bI_t] at ih
                generalize nI i - nI 2 = ii at *
                simp (disch := first | omega | assumption) only [mm_op_some, true_and, and_true, mm_rc_some, mm_rc_none, ok0, ok1, ok2, ok3, ok4, n1_0, n0_0, if_true, if_false, n0_zz, n1_zz, nI_clamp, mm_in_t, wp_iconst (y := zX6_spans) (nI 2) ki_2 dX6_spans_51, wp_icmp_gt (y := zX6_spans) 99 (by decide) dX6_spans_52, wp_al0 (y := zX6_spans) dX6_spans_55, wp_getf (y := zX6_spans) kF6_34 dX6_spans_56, wp_il3 (y := zX6_spans) dX6_spans_59, wp_if_ne (y := zX6_spans) 73 (by decide) dX6_spans_60, wp_il1 (y := zX6_spans) dX6_spans_63, wp_iconst (y := zX6_spans) (nI 1) ki_1 dX6_spans_64, wp_il5 (y := zX6_spans) dX6_spans_65, wp_cs3 (y := zX6_spans) kM6_270 (by decide) dX6_spans_67, wp_goto (y := zX6_spans) 80 (by decide) dX6_spans_70, wp_iald (y := zX6_spans) dX6_spans_80, wp_iconst (y := zX6_spans) ((-1)) ki_m1 dX6_spans_81, wp_icmp_eq (y := zX6_spans) 89 (by decide) dX6_spans_82, wp_iconst (y := zX6_spans) (nI 1) ki_1 dX6_spans_85, wp_goto (y := zX6_spans) 91 (by decide) dX6_spans_86, wp_is4 (y := zX6_spans) dX6_spans_91, wp_inc5 (y := zX6_spans) (nI 1) ki_1 dX6_spans_93, wp_goto (y := zX6_spans) 49 (by decide) dX6_spans_96, O.oc, O.g0, O.g1, O.g2, O.g3, O.g4, O.g5, O.g6, O.g7, O.g9, O.g10, O.g11, O.p0, O.p7, O.a1, O.a2, O.a3, O.a4, O.a5, O.a6, O.a7, O.a8, O.a9, v2, w0', EST, q1, mm]
                exact ih
            · have w0' := eq_false w0
              have es : spq c what i = p3 c (nI i - nI 2) (nI 1) := if_neg w0
              rw [es] at w
              have EST : ∀ Q', cl sh zX6_stateOf [.int (nI c.val), .int (nI i - nI 2), .int (nI 1)] μ1 Q' = Q' (some (.int (nI (p3 c (nI i - nI 2) (nI 1)).val))) μ1 := fun Q' => m_stateOf c v1 nr1
              have q1 := r1 (p3 c (nI i - nI 2) (nI 1))
              have bq := b1 (p3 c (nI i - nI 2) (nI 1))
              generalize p3 c (nI i - nI 2) (nI 1) = pp at w EST q1 bq
              have pb := pp.isLt
              rw [w] at ih
              cases e : (srF s.1 n c).1 pp with
              | none =>
                rw [e] at q1 ih
                have q1 : μ1 (m + 8) pp.val = -1 := q1
                have mm : ((-1 : Int32) = -1) = True := eq_true rfl
                rw [show (none : Option Nat).isSome = false from rfl, Bool.or_false] at ih
                generalize nI i - nI 2 = ii at *
                simp (disch := first | omega | assumption) only [mm_op_some, true_and, and_true, mm_rc_some, mm_rc_none, ok0, ok1, ok2, ok3, ok4, n1_0, n0_0, if_true, if_false, n0_zz, n1_zz, nI_clamp, mm_in_t, wp_iconst (y := zX6_spans) (nI 2) ki_2 dX6_spans_51, wp_icmp_gt (y := zX6_spans) 99 (by decide) dX6_spans_52, wp_al0 (y := zX6_spans) dX6_spans_55, wp_getf (y := zX6_spans) kF6_34 dX6_spans_56, wp_il3 (y := zX6_spans) dX6_spans_59, wp_if_ne (y := zX6_spans) 73 (by decide) dX6_spans_60, wp_il1 (y := zX6_spans) dX6_spans_73, wp_il5 (y := zX6_spans) dX6_spans_74, wp_iconst (y := zX6_spans) (nI 1) ki_1 dX6_spans_76, wp_cs3 (y := zX6_spans) kM6_270 (by decide) dX6_spans_77, wp_iald (y := zX6_spans) dX6_spans_80, wp_iconst (y := zX6_spans) ((-1)) ki_m1 dX6_spans_81, wp_icmp_eq (y := zX6_spans) 89 (by decide) dX6_spans_82, wp_il4 (y := zX6_spans) dX6_spans_89, wp_is4 (y := zX6_spans) dX6_spans_91, wp_inc5 (y := zX6_spans) (nI 1) ki_1 dX6_spans_93, wp_goto (y := zX6_spans) 49 (by decide) dX6_spans_96, O.oc, O.g0, O.g1, O.g2, O.g3, O.g4, O.g5, O.g6, O.g7, O.g9, O.g10, O.g11, O.p0, O.p7, O.a1, O.a2, O.a3, O.a4, O.a5, O.a6, O.a7, O.a8, O.a9, v2, w0', EST, q1, mm]
                exact ih
              | some e0 =>
                rw [e] at q1 ih
                have q1 : μ1 (m + 8) pp.val = nI e0 := q1
                have mm : (nI e0 = (-1 : Int32)) = False := nI_m1 (by have := bq e0 e; omega)
                rw [show (some e0 : Option Nat).isSome = true from rfl, Bool.or_true, bI_t] at ih
                generalize nI i - nI 2 = ii at *
                simp (disch := first | omega | assumption) only [mm_op_some, true_and, and_true, mm_rc_some, mm_rc_none, ok0, ok1, ok2, ok3, ok4, n1_0, n0_0, if_true, if_false, n0_zz, n1_zz, nI_clamp, mm_in_t, wp_iconst (y := zX6_spans) (nI 2) ki_2 dX6_spans_51, wp_icmp_gt (y := zX6_spans) 99 (by decide) dX6_spans_52, wp_al0 (y := zX6_spans) dX6_spans_55, wp_getf (y := zX6_spans) kF6_34 dX6_spans_56, wp_il3 (y := zX6_spans) dX6_spans_59, wp_if_ne (y := zX6_spans) 73 (by decide) dX6_spans_60, wp_il1 (y := zX6_spans) dX6_spans_73, wp_il5 (y := zX6_spans) dX6_spans_74, wp_iconst (y := zX6_spans) (nI 1) ki_1 dX6_spans_76, wp_cs3 (y := zX6_spans) kM6_270 (by decide) dX6_spans_77, wp_iald (y := zX6_spans) dX6_spans_80, wp_iconst (y := zX6_spans) ((-1)) ki_m1 dX6_spans_81, wp_icmp_eq (y := zX6_spans) 89 (by decide) dX6_spans_82, wp_iconst (y := zX6_spans) (nI 1) ki_1 dX6_spans_85, wp_goto (y := zX6_spans) 91 (by decide) dX6_spans_86, wp_is4 (y := zX6_spans) dX6_spans_91, wp_inc5 (y := zX6_spans) (nI 1) ki_1 dX6_spans_93, wp_goto (y := zX6_spans) 49 (by decide) dX6_spans_96, O.oc, O.g0, O.g1, O.g2, O.g3, O.g4, O.g5, O.g6, O.g7, O.g9, O.g10, O.g11, O.p0, O.p7, O.a1, O.a2, O.a3, O.a4, O.a5, O.a6, O.a7, O.a8, O.a9, v2, w0', EST, q1, mm]
                exact ih
        simp (disch := first | omega | assumption) only [mm_op_some, true_and, and_true, mm_rc_some, mm_rc_none, pk_mul, nI_add, mm_in_t, nI_clamp, ok0, ok1, ok2, ok3, ok4, n1_0, n0_0, nI_le_, nI_lt_, if_true, if_false, not_true, not_false_eq_true, ce_lt, ce_cl, hf_lt, hf_cl, n0_zz, n1_zz, wp_iconst (y := zX6_spans) (nI 0) ki_0 dX6_spans_42, wp_is4 (y := zX6_spans) dX6_spans_43, wp_bipush (y := zX6_spans) ((-2)) kb_m2 dX6_spans_45, wp_is5 (y := zX6_spans) dX6_spans_47, O.oc, O.g0, O.g1, O.g2, O.g3, O.g4, O.g5, O.g6, O.g7, O.g9, O.g10, O.g11, O.p0, O.p7, O.a1, O.a2, O.a3, O.a4, O.a5, O.a6, O.a7, O.a8, O.a9]
        exact key 5 0 rfl
end MAR
