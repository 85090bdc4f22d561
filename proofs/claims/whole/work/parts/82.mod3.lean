section MOD
variable {sh : mm_Sh} {m : Nat} {M : Ms} {μ : mm_U} {Q : Option Value → mm_U → Prop}
theorem m_lesser (a b : Int32) : cl sh zX6_lesser [.int a, .int b] μ Q = Q (some (.int (imin a b))) μ := by
  show wp sh zX6_lesser 0 [.int a, .int b] [] μ Q = _
  unfold imin
  by_cases h : b < a
  · have h' : (b ≤ a) = True := eq_true (by rw [Int32.le_iff_toInt_le]; rw [Int32.lt_iff_toInt_lt] at h; omega)
    rw [if_pos h]
    simp (disch := first | omega | assumption) only [wp_il0 (y := zX6_lesser) dX6_lesser_0, wp_il1 (y := zX6_lesser) dX6_lesser_1, wp_icmp_ge (y := zX6_lesser) 9 (by decide) dX6_lesser_2, wp_il0 (y := zX6_lesser) dX6_lesser_5, wp_goto (y := zX6_lesser) 10 (by decide) dX6_lesser_6, wp_il1 (y := zX6_lesser) dX6_lesser_9, wp_ireti (y := zX6_lesser) rfl dX6_lesser_10, h', if_true]
  · rw [if_neg h]
    by_cases e : a = b
    · have h' : (b ≤ a) = True := eq_true (by rw [e, Int32.le_iff_toInt_le]; omega)
      rw [e] at h' ⊢
      simp (disch := first | omega | assumption) only [wp_il0 (y := zX6_lesser) dX6_lesser_0, wp_il1 (y := zX6_lesser) dX6_lesser_1, wp_icmp_ge (y := zX6_lesser) 9 (by decide) dX6_lesser_2, wp_il0 (y := zX6_lesser) dX6_lesser_5, wp_goto (y := zX6_lesser) 10 (by decide) dX6_lesser_6, wp_il1 (y := zX6_lesser) dX6_lesser_9, wp_ireti (y := zX6_lesser) rfl dX6_lesser_10, h', if_true]
    · have h' : (b ≤ a) = False := eq_false (fun q => by
        rw [Int32.le_iff_toInt_le] at q
        rw [Int32.lt_iff_toInt_lt] at h
        exact e (Int32.toInt_inj.mp (by omega)))
      simp (disch := first | omega | assumption) only [wp_il0 (y := zX6_lesser) dX6_lesser_0, wp_il1 (y := zX6_lesser) dX6_lesser_1, wp_icmp_ge (y := zX6_lesser) 9 (by decide) dX6_lesser_2, wp_il0 (y := zX6_lesser) dX6_lesser_5, wp_goto (y := zX6_lesser) 10 (by decide) dX6_lesser_6, wp_il1 (y := zX6_lesser) dX6_lesser_9, wp_ireti (y := zX6_lesser) rfl dX6_lesser_10, h', if_false]
theorem m_greater (a b : Int32) : cl sh zX6_greater [.int a, .int b] μ Q = Q (some (.int (imax a b))) μ := by
  show wp sh zX6_greater 0 [.int a, .int b] [] μ Q = _
  unfold imax
  by_cases h : a < b
  · have h' : (a ≤ b) = True := eq_true (by rw [Int32.le_iff_toInt_le]; rw [Int32.lt_iff_toInt_lt] at h; omega)
    rw [if_pos h]
    simp (disch := first | omega | assumption) only [wp_il0 (y := zX6_greater) dX6_greater_0, wp_il1 (y := zX6_greater) dX6_greater_1, wp_icmp_le (y := zX6_greater) 9 (by decide) dX6_greater_2, wp_il0 (y := zX6_greater) dX6_greater_5, wp_goto (y := zX6_greater) 10 (by decide) dX6_greater_6, wp_il1 (y := zX6_greater) dX6_greater_9, wp_ireti (y := zX6_greater) rfl dX6_greater_10, h', if_true]
  · rw [if_neg h]
    by_cases e : a = b
    · have h' : (a ≤ b) = True := eq_true (by rw [e, Int32.le_iff_toInt_le]; omega)
      rw [e] at h' ⊢
      simp (disch := first | omega | assumption) only [wp_il0 (y := zX6_greater) dX6_greater_0, wp_il1 (y := zX6_greater) dX6_greater_1, wp_icmp_le (y := zX6_greater) 9 (by decide) dX6_greater_2, wp_il0 (y := zX6_greater) dX6_greater_5, wp_goto (y := zX6_greater) 10 (by decide) dX6_greater_6, wp_il1 (y := zX6_greater) dX6_greater_9, wp_ireti (y := zX6_greater) rfl dX6_greater_10, h', if_true]
    · have h' : (a ≤ b) = False := eq_false (fun q => by
        rw [Int32.le_iff_toInt_le] at q
        rw [Int32.lt_iff_toInt_lt] at h
        exact e (Int32.toInt_inj.mp (by omega)))
      simp (disch := first | omega | assumption) only [wp_il0 (y := zX6_greater) dX6_greater_0, wp_il1 (y := zX6_greater) dX6_greater_1, wp_icmp_le (y := zX6_greater) 9 (by decide) dX6_greater_2, wp_il0 (y := zX6_greater) dX6_greater_5, wp_goto (y := zX6_greater) 10 (by decide) dX6_greater_6, wp_il1 (y := zX6_greater) dX6_greater_9, wp_ireti (y := zX6_greater) rfl dX6_greater_10, h', if_false]
theorem m_manyC (O : MoSh sh m) (A : MeR M (μ (m + 1))) (J : Inv M) : cl sh zX6_many [.ref m, .int (nI 1)] μ Q = Q (some (.int (sC M (fun _ => nI 1)))) μ := by
  show wp sh zX6_many 0 [.ref m, .int (nI 1), .null, .null] [] μ Q = _
  simp (disch := first | omega | assumption) only [wp_iconst (y := zX6_many) (nI 0) ki_0 dX6_many_0, wp_is2 (y := zX6_many) dX6_many_1, wp_iconst (y := zX6_many) (nI 0) ki_0 dX6_many_2, wp_is3 (y := zX6_many) dX6_many_3]
  refine (lp 48 (fun i (a : Int32) => wp sh zX6_many 4 [.ref m, .int (nI 1), .int a, .int (nI i)] [] μ Q) (fun i a => if 0 < sd M (cI i) then a + nI 1 else a) (fun i a hi => ?_) (nI 0)).trans ?_
  · rw [wp_il3 (y := zX6_many) dX6_many_4]
    have h9 : (48 ≤ i) = False := eq_false (by omega)
    by_cases hc : 0 < sd M (cI i)
    · have E1 : ∀ Q', cl sh zX6_isCell [.ref m, .int (nI i)] μ Q' = Q' (some (.int (nI 1))) μ := fun Q' => m_isCell1 O A J.sdb hi hc
      rw [if_pos hc]
      simp (disch := first | omega | assumption) only [mm_op_some, true_and, and_true, mm_rc_some, mm_rc_none, pk_mul, nI_add, mm_in_t, nI_clamp, ok0, ok1, ok2, ok3, ok4, n1_0, n0_0, nI_le_, nI_lt_, if_true, if_false, not_true, not_false_eq_true, ce_lt, ce_cl, hf_lt, hf_cl, wp_il1 (y := zX6_many) dX6_many_5, wp_if_eq (y := zX6_many) 14 (by decide) dX6_many_6, wp_bipush (y := zX6_many) (nI 48) kb_48 dX6_many_9, wp_goto (y := zX6_many) 17 (by decide) dX6_many_11, wp_sipush (y := zX6_many) (nI 144) ks_144 dX6_many_14, wp_icmp_ge (y := zX6_many) 62 (by decide) dX6_many_17, wp_il2 (y := zX6_many) dX6_many_20, wp_il1 (y := zX6_many) dX6_many_21, wp_if_eq (y := zX6_many) 41 (by decide) dX6_many_22, wp_al0 (y := zX6_many) dX6_many_25, wp_il3 (y := zX6_many) dX6_many_26, wp_cv1 (y := zX6_many) kM6_93 (by decide) dX6_many_27, (show yo zX6_isCell = 6 from rfl), wp_if_eq (y := zX6_many) 37 (by decide) dX6_many_30, wp_iconst (y := zX6_many) (nI 1) ki_1 dX6_many_33, wp_goto (y := zX6_many) 54 (by decide) dX6_many_34, wp_iadd (y := zX6_many) dX6_many_54, wp_is2 (y := zX6_many) dX6_many_55, wp_inc3 (y := zX6_many) (nI 1) ki_1 dX6_many_56, wp_goto (y := zX6_many) 4 (by decide) dX6_many_59, O.oc, O.g0, O.g1, O.g2, O.g3, O.g4, O.g5, O.g6, O.g7, O.g9, O.g10, O.g11, O.p0, O.p7, O.a1, O.a2, O.a3, O.a4, O.a5, O.a6, O.a7, O.a8, O.a9, E1, h9]
    · have E1 : ∀ Q', cl sh zX6_isCell [.ref m, .int (nI i)] μ Q' = Q' (some (.int (nI 0))) μ := fun Q' => m_isCell0 O A J.sdb hi hc
      rw [if_neg hc]
      simp (disch := first | omega | assumption) only [mm_op_some, true_and, and_true, mm_rc_some, mm_rc_none, pk_mul, nI_add, mm_in_t, nI_clamp, ok0, ok1, ok2, ok3, ok4, n1_0, n0_0, nI_le_, nI_lt_, if_true, if_false, not_true, not_false_eq_true, ce_lt, ce_cl, hf_lt, hf_cl, wp_il1 (y := zX6_many) dX6_many_5, wp_if_eq (y := zX6_many) 14 (by decide) dX6_many_6, wp_bipush (y := zX6_many) (nI 48) kb_48 dX6_many_9, wp_goto (y := zX6_many) 17 (by decide) dX6_many_11, wp_sipush (y := zX6_many) (nI 144) ks_144 dX6_many_14, wp_icmp_ge (y := zX6_many) 62 (by decide) dX6_many_17, wp_il2 (y := zX6_many) dX6_many_20, wp_il1 (y := zX6_many) dX6_many_21, wp_if_eq (y := zX6_many) 41 (by decide) dX6_many_22, wp_al0 (y := zX6_many) dX6_many_25, wp_il3 (y := zX6_many) dX6_many_26, wp_cv1 (y := zX6_many) kM6_93 (by decide) dX6_many_27, (show yo zX6_isCell = 6 from rfl), wp_if_eq (y := zX6_many) 37 (by decide) dX6_many_30, wp_iconst (y := zX6_many) (nI 0) ki_0 dX6_many_37, wp_goto (y := zX6_many) 54 (by decide) dX6_many_38, wp_al0 (y := zX6_many) dX6_many_41, wp_il3 (y := zX6_many) dX6_many_42, wp_cv1 (y := zX6_many) kM6_80 (by decide) dX6_many_43, (show yo zX6_isWall = 6 from rfl), wp_if_eq (y := zX6_many) 53 (by decide) dX6_many_46, wp_iconst (y := zX6_many) (nI 1) ki_1 dX6_many_49, wp_goto (y := zX6_many) 54 (by decide) dX6_many_50, wp_iconst (y := zX6_many) (nI 0) ki_0 dX6_many_53, wp_iadd (y := zX6_many) dX6_many_54, wp_is2 (y := zX6_many) dX6_many_55, wp_inc3 (y := zX6_many) (nI 1) ki_1 dX6_many_56, wp_goto (y := zX6_many) 4 (by decide) dX6_many_59, O.oc, O.g0, O.g1, O.g2, O.g3, O.g4, O.g5, O.g6, O.g7, O.g9, O.g10, O.g11, O.p0, O.p7, O.a1, O.a2, O.a3, O.a4, O.a5, O.a6, O.a7, O.a8, O.a9, E1, h9, i_add0]
  · rw [wp_il3 (y := zX6_many) dX6_many_4]
    have h9 : (48 ≤ 48) = True := eq_true (Nat.le_refl _)
    simp (disch := first | omega | assumption) only [mm_op_some, true_and, and_true, mm_rc_some, mm_rc_none, pk_mul, nI_add, mm_in_t, nI_clamp, ok0, ok1, ok2, ok3, ok4, n1_0, n0_0, nI_le_, nI_lt_, if_true, if_false, not_true, not_false_eq_true, ce_lt, ce_cl, hf_lt, hf_cl, wp_il1 (y := zX6_many) dX6_many_5, wp_if_eq (y := zX6_many) 14 (by decide) dX6_many_6, wp_bipush (y := zX6_many) (nI 48) kb_48 dX6_many_9, wp_goto (y := zX6_many) 17 (by decide) dX6_many_11, wp_sipush (y := zX6_many) (nI 144) ks_144 dX6_many_14, wp_icmp_ge (y := zX6_many) 62 (by decide) dX6_many_17, wp_il2 (y := zX6_many) dX6_many_62, wp_ireti (y := zX6_many) rfl dX6_many_63, h9]
    rfl
theorem m_manyW (O : MoSh sh m) (A : MeR M (μ (m + 1))) (J : Inv M) : cl sh zX6_many [.ref m, .int (nI 0)] μ Q = Q (some (.int (sW M (fun _ => nI 1)))) μ := by
  show wp sh zX6_many 0 [.ref m, .int (nI 0), .null, .null] [] μ Q = _
  simp (disch := first | omega | assumption) only [wp_iconst (y := zX6_many) (nI 0) ki_0 dX6_many_0, wp_is2 (y := zX6_many) dX6_many_1, wp_iconst (y := zX6_many) (nI 0) ki_0 dX6_many_2, wp_is3 (y := zX6_many) dX6_many_3]
  refine (lp 144 (fun i (a : Int32) => wp sh zX6_many 4 [.ref m, .int (nI 0), .int a, .int (nI i)] [] μ Q) (fun i a => if lv M (wI i) = true then a + nI 1 else a) (fun i a hi => ?_) (nI 0)).trans ?_
  · rw [wp_il3 (y := zX6_many) dX6_many_4]
    have h9 : (144 ≤ i) = False := eq_false (by omega)
    by_cases hc : lv M (wI i) = true
    · have E1 : ∀ Q', cl sh zX6_isWall [.ref m, .int (nI i)] μ Q' = Q' (some (.int (nI 1))) μ := fun Q' => m_isWall1 O A J.lnb hi hc
      rw [if_pos hc]
      simp (disch := first | omega | assumption) only [mm_op_some, true_and, and_true, mm_rc_some, mm_rc_none, pk_mul, nI_add, mm_in_t, nI_clamp, ok0, ok1, ok2, ok3, ok4, n1_0, n0_0, nI_le_, nI_lt_, if_true, if_false, not_true, not_false_eq_true, ce_lt, ce_cl, hf_lt, hf_cl, wp_il1 (y := zX6_many) dX6_many_5, wp_if_eq (y := zX6_many) 14 (by decide) dX6_many_6, wp_bipush (y := zX6_many) (nI 48) kb_48 dX6_many_9, wp_goto (y := zX6_many) 17 (by decide) dX6_many_11, wp_sipush (y := zX6_many) (nI 144) ks_144 dX6_many_14, wp_icmp_ge (y := zX6_many) 62 (by decide) dX6_many_17, wp_il2 (y := zX6_many) dX6_many_20, wp_il1 (y := zX6_many) dX6_many_21, wp_if_eq (y := zX6_many) 41 (by decide) dX6_many_22, wp_al0 (y := zX6_many) dX6_many_41, wp_il3 (y := zX6_many) dX6_many_42, wp_cv1 (y := zX6_many) kM6_80 (by decide) dX6_many_43, (show yo zX6_isWall = 6 from rfl), wp_if_eq (y := zX6_many) 53 (by decide) dX6_many_46, wp_iconst (y := zX6_many) (nI 1) ki_1 dX6_many_49, wp_goto (y := zX6_many) 54 (by decide) dX6_many_50, wp_iadd (y := zX6_many) dX6_many_54, wp_is2 (y := zX6_many) dX6_many_55, wp_inc3 (y := zX6_many) (nI 1) ki_1 dX6_many_56, wp_goto (y := zX6_many) 4 (by decide) dX6_many_59, O.oc, O.g0, O.g1, O.g2, O.g3, O.g4, O.g5, O.g6, O.g7, O.g9, O.g10, O.g11, O.p0, O.p7, O.a1, O.a2, O.a3, O.a4, O.a5, O.a6, O.a7, O.a8, O.a9, E1, h9]
    · have E1 : ∀ Q', cl sh zX6_isWall [.ref m, .int (nI i)] μ Q' = Q' (some (.int (nI 0))) μ := fun Q' => m_isWall0 O A hi hc
      rw [if_neg hc]
      simp (disch := first | omega | assumption) only [mm_op_some, true_and, and_true, mm_rc_some, mm_rc_none, pk_mul, nI_add, mm_in_t, nI_clamp, ok0, ok1, ok2, ok3, ok4, n1_0, n0_0, nI_le_, nI_lt_, if_true, if_false, not_true, not_false_eq_true, ce_lt, ce_cl, hf_lt, hf_cl, wp_il1 (y := zX6_many) dX6_many_5, wp_if_eq (y := zX6_many) 14 (by decide) dX6_many_6, wp_bipush (y := zX6_many) (nI 48) kb_48 dX6_many_9, wp_goto (y := zX6_many) 17 (by decide) dX6_many_11, wp_sipush (y := zX6_many) (nI 144) ks_144 dX6_many_14, wp_icmp_ge (y := zX6_many) 62 (by decide) dX6_many_17, wp_il2 (y := zX6_many) dX6_many_20, wp_il1 (y := zX6_many) dX6_many_21, wp_if_eq (y := zX6_many) 41 (by decide) dX6_many_22, wp_al0 (y := zX6_many) dX6_many_41, wp_il3 (y := zX6_many) dX6_many_42, wp_cv1 (y := zX6_many) kM6_80 (by decide) dX6_many_43, (show yo zX6_isWall = 6 from rfl), wp_if_eq (y := zX6_many) 53 (by decide) dX6_many_46, wp_iconst (y := zX6_many) (nI 0) ki_0 dX6_many_53, wp_iadd (y := zX6_many) dX6_many_54, wp_is2 (y := zX6_many) dX6_many_55, wp_inc3 (y := zX6_many) (nI 1) ki_1 dX6_many_56, wp_goto (y := zX6_many) 4 (by decide) dX6_many_59, O.oc, O.g0, O.g1, O.g2, O.g3, O.g4, O.g5, O.g6, O.g7, O.g9, O.g10, O.g11, O.p0, O.p7, O.a1, O.a2, O.a3, O.a4, O.a5, O.a6, O.a7, O.a8, O.a9, E1, h9, i_add0]
  · rw [wp_il3 (y := zX6_many) dX6_many_4]
    have h9 : (144 ≤ 144) = True := eq_true (Nat.le_refl _)
    simp (disch := first | omega | assumption) only [mm_op_some, true_and, and_true, mm_rc_some, mm_rc_none, pk_mul, nI_add, mm_in_t, nI_clamp, ok0, ok1, ok2, ok3, ok4, n1_0, n0_0, nI_le_, nI_lt_, if_true, if_false, not_true, not_false_eq_true, ce_lt, ce_cl, hf_lt, hf_cl, wp_il1 (y := zX6_many) dX6_many_5, wp_if_eq (y := zX6_many) 14 (by decide) dX6_many_6, wp_bipush (y := zX6_many) (nI 48) kb_48 dX6_many_9, wp_goto (y := zX6_many) 17 (by decide) dX6_many_11, wp_sipush (y := zX6_many) (nI 144) ks_144 dX6_many_14, wp_icmp_ge (y := zX6_many) 62 (by decide) dX6_many_17, wp_il2 (y := zX6_many) dX6_many_62, wp_ireti (y := zX6_many) rfl dX6_many_63, h9]
    rfl
theorem m_strain (O : MoSh sh m) (A : MeR M (μ (m + 1))) (J : Inv M) : cl sh zX6_strain [.ref m] μ Q = Q (some (.int (stn M))) μ := by
  show wp sh zX6_strain 0 [.ref m, .null, .null] [] μ Q = _
  simp (disch := first | omega | assumption) only [wp_iconst (y := zX6_strain) (nI 0) ki_0 dX6_strain_0, wp_is1 (y := zX6_strain) dX6_strain_1, wp_iconst (y := zX6_strain) (nI 0) ki_0 dX6_strain_2, wp_is2 (y := zX6_strain) dX6_strain_3]
  refine (lp 48 (fun i (a : Int32) => wp sh zX6_strain 4 [.ref m, .int a, .int (nI i)] [] μ Q) (fun i a => if 0 < sd M (cI i) then a + tn M (cI i) * tn M (cI i) else a) (fun i a hi => ?_) (nI 0)).trans ?_
  · rw [wp_il2 (y := zX6_strain) dX6_strain_4]
    have h9 : (48 ≤ i) = False := eq_false (by omega)
    by_cases hc : 0 < sd M (cI i)
    · have E1 : ∀ Q', cl sh zX6_isCell [.ref m, .int (nI i)] μ Q' = Q' (some (.int (nI 1))) μ := fun Q' => m_isCell1 O A J.sdb hi hc
      have E2 : ∀ Q', cl sh zX6_turn [.ref m, .int (nI i)] μ Q' = Q' (some (.int (tn M (cI i)))) μ := fun Q' => by
        have := m_turn (Q := Q') O A (cI i)
        rw [cI_lt hi] at this
        exact this
      have E3 : ∀ x Q', cl sh zX6_square [.int x] μ Q' = Q' (some (.int (x * x))) μ := fun x Q' => m_square x
      rw [if_pos hc]
      simp (disch := first | omega | assumption) only [mm_op_some, true_and, and_true, mm_rc_some, mm_rc_none, pk_mul, nI_add, mm_in_t, nI_clamp, ok0, ok1, ok2, ok3, ok4, n1_0, n0_0, nI_le_, nI_lt_, if_true, if_false, not_true, not_false_eq_true, ce_lt, ce_cl, hf_lt, hf_cl, wp_bipush (y := zX6_strain) (nI 48) kb_48 dX6_strain_5, wp_icmp_ge (y := zX6_strain) 39 (by decide) dX6_strain_7, wp_il1 (y := zX6_strain) dX6_strain_10, wp_al0 (y := zX6_strain) dX6_strain_11, wp_il2 (y := zX6_strain) dX6_strain_12, wp_cv1 (y := zX6_strain) kM6_93 (by decide) dX6_strain_13, (show yo zX6_isCell = 6 from rfl), wp_if_eq (y := zX6_strain) 30 (by decide) dX6_strain_16, wp_al0 (y := zX6_strain) dX6_strain_19, wp_il2 (y := zX6_strain) dX6_strain_20, wp_cv1 (y := zX6_strain) kM6_118 (by decide) dX6_strain_21, (show yo zX6_turn = 6 from rfl), wp_cs1 (y := zX6_strain) kM6_121 (by decide) dX6_strain_24, wp_goto (y := zX6_strain) 31 (by decide) dX6_strain_27, wp_iadd (y := zX6_strain) dX6_strain_31, wp_is1 (y := zX6_strain) dX6_strain_32, wp_inc2 (y := zX6_strain) (nI 1) ki_1 dX6_strain_33, wp_goto (y := zX6_strain) 4 (by decide) dX6_strain_36, O.oc, O.g0, O.g1, O.g2, O.g3, O.g4, O.g5, O.g6, O.g7, O.g9, O.g10, O.g11, O.p0, O.p7, O.a1, O.a2, O.a3, O.a4, O.a5, O.a6, O.a7, O.a8, O.a9, E1, E2, E3, h9]
    · have E1 : ∀ Q', cl sh zX6_isCell [.ref m, .int (nI i)] μ Q' = Q' (some (.int (nI 0))) μ := fun Q' => m_isCell0 O A J.sdb hi hc
      rw [if_neg hc]
      simp (disch := first | omega | assumption) only [mm_op_some, true_and, and_true, mm_rc_some, mm_rc_none, pk_mul, nI_add, mm_in_t, nI_clamp, ok0, ok1, ok2, ok3, ok4, n1_0, n0_0, nI_le_, nI_lt_, if_true, if_false, not_true, not_false_eq_true, ce_lt, ce_cl, hf_lt, hf_cl, wp_bipush (y := zX6_strain) (nI 48) kb_48 dX6_strain_5, wp_icmp_ge (y := zX6_strain) 39 (by decide) dX6_strain_7, wp_il1 (y := zX6_strain) dX6_strain_10, wp_al0 (y := zX6_strain) dX6_strain_11, wp_il2 (y := zX6_strain) dX6_strain_12, wp_cv1 (y := zX6_strain) kM6_93 (by decide) dX6_strain_13, (show yo zX6_isCell = 6 from rfl), wp_if_eq (y := zX6_strain) 30 (by decide) dX6_strain_16, wp_iconst (y := zX6_strain) (nI 0) ki_0 dX6_strain_30, wp_iadd (y := zX6_strain) dX6_strain_31, wp_is1 (y := zX6_strain) dX6_strain_32, wp_inc2 (y := zX6_strain) (nI 1) ki_1 dX6_strain_33, wp_goto (y := zX6_strain) 4 (by decide) dX6_strain_36, O.oc, O.g0, O.g1, O.g2, O.g3, O.g4, O.g5, O.g6, O.g7, O.g9, O.g10, O.g11, O.p0, O.p7, O.a1, O.a2, O.a3, O.a4, O.a5, O.a6, O.a7, O.a8, O.a9, E1, h9, i_add0]
  · rw [wp_il2 (y := zX6_strain) dX6_strain_4]
    have h9 : (48 ≤ 48) = True := eq_true (Nat.le_refl _)
    simp (disch := first | omega | assumption) only [mm_op_some, true_and, and_true, mm_rc_some, mm_rc_none, pk_mul, nI_add, mm_in_t, nI_clamp, ok0, ok1, ok2, ok3, ok4, n1_0, n0_0, nI_le_, nI_lt_, if_true, if_false, not_true, not_false_eq_true, ce_lt, ce_cl, hf_lt, hf_cl, wp_bipush (y := zX6_strain) (nI 48) kb_48 dX6_strain_5, wp_icmp_ge (y := zX6_strain) 39 (by decide) dX6_strain_7, wp_il1 (y := zX6_strain) dX6_strain_39, wp_ireti (y := zX6_strain) rfl dX6_strain_40, h9]
    rfl
theorem m_ofWallsL (O : MoSh sh m) (A : MeR M (μ (m + 1))) (J : Inv M) : cl sh zX6_ofWalls [.ref m, .int (nI 1)] μ Q = Q (some (.int (sW M (ln M)))) μ := by
  show wp sh zX6_ofWalls 0 [.ref m, .int (nI 1), .null, .null] [] μ Q = _
  simp (disch := first | omega | assumption) only [wp_iconst (y := zX6_ofWalls) (nI 0) ki_0 dX6_ofWalls_0, wp_is2 (y := zX6_ofWalls) dX6_ofWalls_1, wp_iconst (y := zX6_ofWalls) (nI 0) ki_0 dX6_ofWalls_2, wp_is3 (y := zX6_ofWalls) dX6_ofWalls_3]
  refine (lp 144 (fun i (a : Int32) => wp sh zX6_ofWalls 4 [.ref m, .int (nI 1), .int a, .int (nI i)] [] μ Q) (fun i a => if lv M (wI i) = true then a + ln M (wI i) else a) (fun i a hi => ?_) (nI 0)).trans ?_
  · rw [wp_il3 (y := zX6_ofWalls) dX6_ofWalls_4]
    have h9 : (144 ≤ i) = False := eq_false (by omega)
    by_cases hc : lv M (wI i) = true
    · have E1 : ∀ Q', cl sh zX6_isWall [.ref m, .int (nI i)] μ Q' = Q' (some (.int (nI 1))) μ := fun Q' => m_isWall1 O A J.lnb hi hc
      have r := A.lnv hc
      rw [wI_lt hi] at r
      rw [if_pos hc]
      simp (disch := first | omega | assumption) only [mm_op_some, true_and, and_true, mm_rc_some, mm_rc_none, pk_mul, nI_add, mm_in_t, nI_clamp, ok0, ok1, ok2, ok3, ok4, n1_0, n0_0, nI_le_, nI_lt_, if_true, if_false, not_true, not_false_eq_true, ce_lt, ce_cl, hf_lt, hf_cl, wp_sipush (y := zX6_ofWalls) (nI 144) ks_144 dX6_ofWalls_5, wp_icmp_ge (y := zX6_ofWalls) 62 (by decide) dX6_ofWalls_8, wp_il2 (y := zX6_ofWalls) dX6_ofWalls_11, wp_il1 (y := zX6_ofWalls) dX6_ofWalls_12, wp_if_eq (y := zX6_ofWalls) 41 (by decide) dX6_ofWalls_13, wp_al0 (y := zX6_ofWalls) dX6_ofWalls_16, wp_il3 (y := zX6_ofWalls) dX6_ofWalls_17, wp_cv1 (y := zX6_ofWalls) kM6_80 (by decide) dX6_ofWalls_18, (show yo zX6_isWall = 6 from rfl), wp_if_eq (y := zX6_ofWalls) 37 (by decide) dX6_ofWalls_21, wp_al0 (y := zX6_ofWalls) dX6_ofWalls_24, wp_getf (y := zX6_ofWalls) kF6_9 dX6_ofWalls_25, wp_sipush (y := zX6_ofWalls) (nI 1456) ks_1456 dX6_ofWalls_28, wp_il3 (y := zX6_ofWalls) dX6_ofWalls_31, wp_iadd (y := zX6_ofWalls) dX6_ofWalls_32, wp_iald (y := zX6_ofWalls) dX6_ofWalls_33, wp_goto (y := zX6_ofWalls) 54 (by decide) dX6_ofWalls_34, wp_iadd (y := zX6_ofWalls) dX6_ofWalls_54, wp_is2 (y := zX6_ofWalls) dX6_ofWalls_55, wp_inc3 (y := zX6_ofWalls) (nI 1) ki_1 dX6_ofWalls_56, wp_goto (y := zX6_ofWalls) 4 (by decide) dX6_ofWalls_59, O.oc, O.g0, O.g1, O.g2, O.g3, O.g4, O.g5, O.g6, O.g7, O.g9, O.g10, O.g11, O.p0, O.p7, O.a1, O.a2, O.a3, O.a4, O.a5, O.a6, O.a7, O.a8, O.a9, E1, h9, r]
    · have E1 : ∀ Q', cl sh zX6_isWall [.ref m, .int (nI i)] μ Q' = Q' (some (.int (nI 0))) μ := fun Q' => m_isWall0 O A hi hc
      rw [if_neg hc]
      simp (disch := first | omega | assumption) only [mm_op_some, true_and, and_true, mm_rc_some, mm_rc_none, pk_mul, nI_add, mm_in_t, nI_clamp, ok0, ok1, ok2, ok3, ok4, n1_0, n0_0, nI_le_, nI_lt_, if_true, if_false, not_true, not_false_eq_true, ce_lt, ce_cl, hf_lt, hf_cl, wp_sipush (y := zX6_ofWalls) (nI 144) ks_144 dX6_ofWalls_5, wp_icmp_ge (y := zX6_ofWalls) 62 (by decide) dX6_ofWalls_8, wp_il2 (y := zX6_ofWalls) dX6_ofWalls_11, wp_il1 (y := zX6_ofWalls) dX6_ofWalls_12, wp_if_eq (y := zX6_ofWalls) 41 (by decide) dX6_ofWalls_13, wp_al0 (y := zX6_ofWalls) dX6_ofWalls_16, wp_il3 (y := zX6_ofWalls) dX6_ofWalls_17, wp_cv1 (y := zX6_ofWalls) kM6_80 (by decide) dX6_ofWalls_18, (show yo zX6_isWall = 6 from rfl), wp_if_eq (y := zX6_ofWalls) 37 (by decide) dX6_ofWalls_21, wp_iconst (y := zX6_ofWalls) (nI 0) ki_0 dX6_ofWalls_37, wp_goto (y := zX6_ofWalls) 54 (by decide) dX6_ofWalls_38, wp_al0 (y := zX6_ofWalls) dX6_ofWalls_41, wp_il3 (y := zX6_ofWalls) dX6_ofWalls_42, wp_cv1 (y := zX6_ofWalls) kM6_147 (by decide) dX6_ofWalls_43, (show yo zX6_canSwap = 6 from rfl), wp_if_eq (y := zX6_ofWalls) 53 (by decide) dX6_ofWalls_46, wp_iconst (y := zX6_ofWalls) (nI 1) ki_1 dX6_ofWalls_49, wp_goto (y := zX6_ofWalls) 54 (by decide) dX6_ofWalls_50, wp_iconst (y := zX6_ofWalls) (nI 0) ki_0 dX6_ofWalls_53, wp_iadd (y := zX6_ofWalls) dX6_ofWalls_54, wp_is2 (y := zX6_ofWalls) dX6_ofWalls_55, wp_inc3 (y := zX6_ofWalls) (nI 1) ki_1 dX6_ofWalls_56, wp_goto (y := zX6_ofWalls) 4 (by decide) dX6_ofWalls_59, O.oc, O.g0, O.g1, O.g2, O.g3, O.g4, O.g5, O.g6, O.g7, O.g9, O.g10, O.g11, O.p0, O.p7, O.a1, O.a2, O.a3, O.a4, O.a5, O.a6, O.a7, O.a8, O.a9, E1, h9, i_add0]
  · rw [wp_il3 (y := zX6_ofWalls) dX6_ofWalls_4]
    have h9 : (144 ≤ 144) = True := eq_true (Nat.le_refl _)
    simp (disch := first | omega | assumption) only [mm_op_some, true_and, and_true, mm_rc_some, mm_rc_none, pk_mul, nI_add, mm_in_t, nI_clamp, ok0, ok1, ok2, ok3, ok4, n1_0, n0_0, nI_le_, nI_lt_, if_true, if_false, not_true, not_false_eq_true, ce_lt, ce_cl, hf_lt, hf_cl, wp_sipush (y := zX6_ofWalls) (nI 144) ks_144 dX6_ofWalls_5, wp_icmp_ge (y := zX6_ofWalls) 62 (by decide) dX6_ofWalls_8, wp_il2 (y := zX6_ofWalls) dX6_ofWalls_62, wp_ireti (y := zX6_ofWalls) rfl dX6_ofWalls_63, h9]
    rfl
theorem m_ofWallsS (O : MoSh sh m) (A : MeR M (μ (m + 1))) (J : Inv M) : cl sh zX6_ofWalls [.ref m, .int (nI 0)] μ Q = Q (some (.int (it (fun i a => if lv M (wI i) = true then (if can M (wI i) = true then a + nI 1 else a) else a) 144 0 (nI 0)))) μ := by
  show wp sh zX6_ofWalls 0 [.ref m, .int (nI 0), .null, .null] [] μ Q = _
  simp (disch := first | omega | assumption) only [wp_iconst (y := zX6_ofWalls) (nI 0) ki_0 dX6_ofWalls_0, wp_is2 (y := zX6_ofWalls) dX6_ofWalls_1, wp_iconst (y := zX6_ofWalls) (nI 0) ki_0 dX6_ofWalls_2, wp_is3 (y := zX6_ofWalls) dX6_ofWalls_3]
  refine (lp 144 (fun i (a : Int32) => wp sh zX6_ofWalls 4 [.ref m, .int (nI 0), .int a, .int (nI i)] [] μ Q) (fun i a => if lv M (wI i) = true then (if can M (wI i) = true then a + nI 1 else a) else a) (fun i a hi => ?_) (nI 0)).trans ?_
  · rw [wp_il3 (y := zX6_ofWalls) dX6_ofWalls_4]
    have h9 : (144 ≤ i) = False := eq_false (by omega)
    have E1 : ∀ Q', cl sh zX6_canSwap [.ref m, .int (nI i)] μ Q' = Q' (some (.int (bI (lv M (wI i) && can M (wI i))))) μ := fun Q' => m_canSwap O A J hi
    cases hl : lv M (wI i) with
    | false =>
      rw [hl, Bool.false_and] at E1
      rw [if_neg (by decide)]
      simp (disch := first | omega | assumption) only [mm_op_some, true_and, and_true, mm_rc_some, mm_rc_none, pk_mul, nI_add, mm_in_t, nI_clamp, ok0, ok1, ok2, ok3, ok4, n1_0, n0_0, nI_le_, nI_lt_, if_true, if_false, not_true, not_false_eq_true, ce_lt, ce_cl, hf_lt, hf_cl, wp_sipush (y := zX6_ofWalls) (nI 144) ks_144 dX6_ofWalls_5, wp_icmp_ge (y := zX6_ofWalls) 62 (by decide) dX6_ofWalls_8, wp_il2 (y := zX6_ofWalls) dX6_ofWalls_11, wp_il1 (y := zX6_ofWalls) dX6_ofWalls_12, wp_if_eq (y := zX6_ofWalls) 41 (by decide) dX6_ofWalls_13, wp_al0 (y := zX6_ofWalls) dX6_ofWalls_41, wp_il3 (y := zX6_ofWalls) dX6_ofWalls_42, wp_cv1 (y := zX6_ofWalls) kM6_147 (by decide) dX6_ofWalls_43, (show yo zX6_canSwap = 6 from rfl), wp_if_eq (y := zX6_ofWalls) 53 (by decide) dX6_ofWalls_46, wp_iconst (y := zX6_ofWalls) (nI 0) ki_0 dX6_ofWalls_53, wp_iadd (y := zX6_ofWalls) dX6_ofWalls_54, wp_is2 (y := zX6_ofWalls) dX6_ofWalls_55, wp_inc3 (y := zX6_ofWalls) (nI 1) ki_1 dX6_ofWalls_56, wp_goto (y := zX6_ofWalls) 4 (by decide) dX6_ofWalls_59, O.oc, O.g0, O.g1, O.g2, O.g3, O.g4, O.g5, O.g6, O.g7, O.g9, O.g10, O.g11, O.p0, O.p7, O.a1, O.a2, O.a3, O.a4, O.a5, O.a6, O.a7, O.a8, O.a9, E1, bI_f, h9, i_add0]
    | true =>
      rw [hl, Bool.true_and] at E1
      rw [if_pos rfl]
      cases hc : can M (wI i) with
      | false =>
        rw [hc] at E1
        rw [if_neg (by decide)]
        simp (disch := first | omega | assumption) only [mm_op_some, true_and, and_true, mm_rc_some, mm_rc_none, pk_mul, nI_add, mm_in_t, nI_clamp, ok0, ok1, ok2, ok3, ok4, n1_0, n0_0, nI_le_, nI_lt_, if_true, if_false, not_true, not_false_eq_true, ce_lt, ce_cl, hf_lt, hf_cl, wp_sipush (y := zX6_ofWalls) (nI 144) ks_144 dX6_ofWalls_5, wp_icmp_ge (y := zX6_ofWalls) 62 (by decide) dX6_ofWalls_8, wp_il2 (y := zX6_ofWalls) dX6_ofWalls_11, wp_il1 (y := zX6_ofWalls) dX6_ofWalls_12, wp_if_eq (y := zX6_ofWalls) 41 (by decide) dX6_ofWalls_13, wp_al0 (y := zX6_ofWalls) dX6_ofWalls_41, wp_il3 (y := zX6_ofWalls) dX6_ofWalls_42, wp_cv1 (y := zX6_ofWalls) kM6_147 (by decide) dX6_ofWalls_43, (show yo zX6_canSwap = 6 from rfl), wp_if_eq (y := zX6_ofWalls) 53 (by decide) dX6_ofWalls_46, wp_iconst (y := zX6_ofWalls) (nI 0) ki_0 dX6_ofWalls_53, wp_iadd (y := zX6_ofWalls) dX6_ofWalls_54, wp_is2 (y := zX6_ofWalls) dX6_ofWalls_55, wp_inc3 (y := zX6_ofWalls) (nI 1) ki_1 dX6_ofWalls_56, wp_goto (y := zX6_ofWalls) 4 (by decide) dX6_ofWalls_59, O.oc, O.g0, O.g1, O.g2, O.g3, O.g4, O.g5, O.g6, O.g7, O.g9, O.g10, O.g11, O.p0, O.p7, O.a1, O.a2, O.a3, O.a4, O.a5, O.a6, O.a7, O.a8, O.a9, E1, bI_f, h9, i_add0]
      | true =>
        rw [hc] at E1
        rw [if_pos rfl]
        simp (disch := first | omega | assumption) only [mm_op_some, true_and, and_true, mm_rc_some, mm_rc_none, pk_mul, nI_add, mm_in_t, nI_clamp, ok0, ok1, ok2, ok3, ok4, n1_0, n0_0, nI_le_, nI_lt_, if_true, if_false, not_true, not_false_eq_true, ce_lt, ce_cl, hf_lt, hf_cl, wp_sipush (y := zX6_ofWalls) (nI 144) ks_144 dX6_ofWalls_5, wp_icmp_ge (y := zX6_ofWalls) 62 (by decide) dX6_ofWalls_8, wp_il2 (y := zX6_ofWalls) dX6_ofWalls_11, wp_il1 (y := zX6_ofWalls) dX6_ofWalls_12, wp_if_eq (y := zX6_ofWalls) 41 (by decide) dX6_ofWalls_13, wp_al0 (y := zX6_ofWalls) dX6_ofWalls_41, wp_il3 (y := zX6_ofWalls) dX6_ofWalls_42, wp_cv1 (y := zX6_ofWalls) kM6_147 (by decide) dX6_ofWalls_43, (show yo zX6_canSwap = 6 from rfl), wp_if_eq (y := zX6_ofWalls) 53 (by decide) dX6_ofWalls_46, wp_iconst (y := zX6_ofWalls) (nI 1) ki_1 dX6_ofWalls_49, wp_goto (y := zX6_ofWalls) 54 (by decide) dX6_ofWalls_50, wp_iadd (y := zX6_ofWalls) dX6_ofWalls_54, wp_is2 (y := zX6_ofWalls) dX6_ofWalls_55, wp_inc3 (y := zX6_ofWalls) (nI 1) ki_1 dX6_ofWalls_56, wp_goto (y := zX6_ofWalls) 4 (by decide) dX6_ofWalls_59, O.oc, O.g0, O.g1, O.g2, O.g3, O.g4, O.g5, O.g6, O.g7, O.g9, O.g10, O.g11, O.p0, O.p7, O.a1, O.a2, O.a3, O.a4, O.a5, O.a6, O.a7, O.a8, O.a9, E1, bI_t, h9]
  · rw [wp_il3 (y := zX6_ofWalls) dX6_ofWalls_4]
    have h9 : (144 ≤ 144) = True := eq_true (Nat.le_refl _)
    simp (disch := first | omega | assumption) only [mm_op_some, true_and, and_true, mm_rc_some, mm_rc_none, pk_mul, nI_add, mm_in_t, nI_clamp, ok0, ok1, ok2, ok3, ok4, n1_0, n0_0, nI_le_, nI_lt_, if_true, if_false, not_true, not_false_eq_true, ce_lt, ce_cl, hf_lt, hf_cl, wp_sipush (y := zX6_ofWalls) (nI 144) ks_144 dX6_ofWalls_5, wp_icmp_ge (y := zX6_ofWalls) 62 (by decide) dX6_ofWalls_8, wp_il2 (y := zX6_ofWalls) dX6_ofWalls_62, wp_ireti (y := zX6_ofWalls) rfl dX6_ofWalls_63, h9]
theorem m_easier (O : MoSh sh m) (A : MeR M (μ (m + 1))) (J : Inv M) : cl sh zX6_easier [.ref m] μ Q = Q (some (.int (es M).1)) μ := by
  show wp sh zX6_easier 0 [.ref m, .null, .null, .null, .null] [] μ Q = _
  simp (disch := first | omega | assumption) only [wp_iconst (y := zX6_easier) ((-1)) ki_m1 dX6_easier_0, wp_is1 (y := zX6_easier) dX6_easier_1, wp_iconst (y := zX6_easier) (nI 0) ki_0 dX6_easier_2, wp_is2 (y := zX6_easier) dX6_easier_3, wp_iconst (y := zX6_easier) (nI 0) ki_0 dX6_easier_4, wp_is3 (y := zX6_easier) dX6_easier_5]
  -- what is greatest so far is never below 0
  have key : ∀ d i (a : Int32 × Int32) (v : Value), i + d = 144 → ¬ a.2 < 0 → wp sh zX6_easier 6 [.ref m, .int a.1, .int a.2, .int (nI i), v] [] μ Q = Q (some (.int (it (esg M) d i a).1)) μ := by
    intro d
    induction d with
    | zero =>
      intro i a v hi _
      have h9 : (144 ≤ i) = True := eq_true (by omega)
      rw [wp_il3 (y := zX6_easier) dX6_easier_6]
      simp (disch := first | omega | assumption) only [mm_op_some, true_and, and_true, mm_rc_some, mm_rc_none, pk_mul, nI_add, mm_in_t, nI_clamp, ok0, ok1, ok2, ok3, ok4, n1_0, n0_0, nI_le_, nI_lt_, if_true, if_false, not_true, not_false_eq_true, ce_lt, ce_cl, hf_lt, hf_cl, wp_sipush (y := zX6_easier) (nI 144) ks_144 dX6_easier_7, wp_icmp_ge (y := zX6_easier) 63 (by decide) dX6_easier_10, wp_il1 (y := zX6_easier) dX6_easier_63, wp_ireti (y := zX6_easier) rfl dX6_easier_64, h9]
      rfl
    | succ d ih =>
      intro i a v hi ha
      obtain ⟨b, e⟩ := a
      dsimp only at ha ⊢
      have h9 : (144 ≤ i) = False := eq_false (by omega)
      have i144 : i < 144 := by omega
      have iv := wI_lt i144
      have E1 : ∀ Q', cl sh zX6_canSwap [.ref m, .int (nI i)] μ Q' = Q' (some (.int (bI (lv M (wI i) && can M (wI i))))) μ := fun Q' => m_canSwap O A J i144
      have z0 : (nI 0 ≤ e) = True := by rw [nI_0]; exact i_le ha
      have no : esg M i (b, e) = (b, e) → (lv M (wI i) && can M (wI i)) = false → wp sh zX6_easier 6 [.ref m, .int b, .int e, .int (nI i), v] [] μ Q = Q (some (.int (it (esg M) (d + 1) i (b, e)).1)) μ := by
        intro e1 e2
        rw [e2] at E1
        rw [wp_il3 (y := zX6_easier) dX6_easier_6]
        simp (disch := first | omega | assumption) only [mm_op_some, true_and, and_true, mm_rc_some, mm_rc_none, pk_mul, nI_add, mm_in_t, nI_clamp, ok0, ok1, ok2, ok3, ok4, n1_0, n0_0, nI_le_, nI_lt_, if_true, if_false, not_true, not_false_eq_true, ce_lt, ce_cl, hf_lt, hf_cl, wp_sipush (y := zX6_easier) (nI 144) ks_144 dX6_easier_7, wp_icmp_ge (y := zX6_easier) 63 (by decide) dX6_easier_10, wp_al0 (y := zX6_easier) dX6_easier_13, wp_il3 (y := zX6_easier) dX6_easier_14, wp_cv1 (y := zX6_easier) kM6_147 (by decide) dX6_easier_15, (show yo zX6_canSwap = 6 from rfl), wp_if_eq (y := zX6_easier) 29 (by decide) dX6_easier_18, wp_iconst (y := zX6_easier) (nI 0) ki_0 dX6_easier_29, wp_is4 (y := zX6_easier) dX6_easier_30, wp_il4 (y := zX6_easier) dX6_easier_32, wp_il2 (y := zX6_easier) dX6_easier_34, wp_icmp_le (y := zX6_easier) 42 (by decide) dX6_easier_35, wp_il1 (y := zX6_easier) dX6_easier_42, wp_is1 (y := zX6_easier) dX6_easier_43, wp_il4 (y := zX6_easier) dX6_easier_44, wp_il2 (y := zX6_easier) dX6_easier_46, wp_icmp_le (y := zX6_easier) 55 (by decide) dX6_easier_47, wp_il2 (y := zX6_easier) dX6_easier_55, wp_is2 (y := zX6_easier) dX6_easier_56, wp_inc3 (y := zX6_easier) (nI 1) ki_1 dX6_easier_57, wp_goto (y := zX6_easier) 6 (by decide) dX6_easier_60, O.oc, O.g0, O.g1, O.g2, O.g3, O.g4, O.g5, O.g6, O.g7, O.g9, O.g10, O.g11, O.p0, O.p7, O.a1, O.a2, O.a3, O.a4, O.a5, O.a6, O.a7, O.a8, O.a9, E1, bI_f, h9, z0]
        rw [ih (i + 1) (b, e) _ (by omega) ha]
        show _ = Q (some (.int (it (esg M) d (i + 1) (esg M i (b, e))).1)) μ
        rw [e1]
      cases hl : lv M (wI i) with
      | false => exact no (by unfold esg; rw [hl, if_neg (by decide)]) (by rw [hl]; rfl)
      | true =>
        cases hc : can M (wI i) with
        | false =>
          refine no ?_ (by rw [hl, hc]; rfl)
          unfold esg
          rw [hl, hc, if_pos rfl]
          split
          · exact if_neg (by decide)
          · rfl
        | true =>
          rw [hl, hc] at E1
          have E2 : ∀ Q', cl sh zX6_easing [.ref m, .int (nI i)] μ Q' = Q' (some (.int (ease M (wI i)))) μ := fun Q' => by
            have := m_easing (Q := Q') O A J (wI i) hl
            rw [iv] at this
            exact this
          show _ = Q (some (.int (it (esg M) d (i + 1) (esg M i (b, e))).1)) μ
          rw [wp_il3 (y := zX6_easier) dX6_easier_6]
          by_cases hg : e < ease M (wI i)
          · have hg' : (ease M (wI i) ≤ e) = False := i_nle hg
            have eg : esg M i (b, e) = (nI i, ease M (wI i)) := by
              unfold esg
              rw [hl, hc, if_pos rfl, if_pos hg, if_pos rfl]
            rw [eg]
            simp (disch := first | omega | assumption) only [mm_op_some, true_and, and_true, mm_rc_some, mm_rc_none, pk_mul, nI_add, mm_in_t, nI_clamp, ok0, ok1, ok2, ok3, ok4, n1_0, n0_0, nI_le_, nI_lt_, if_true, if_false, not_true, not_false_eq_true, ce_lt, ce_cl, hf_lt, hf_cl, wp_sipush (y := zX6_easier) (nI 144) ks_144 dX6_easier_7, wp_icmp_ge (y := zX6_easier) 63 (by decide) dX6_easier_10, wp_al0 (y := zX6_easier) dX6_easier_13, wp_il3 (y := zX6_easier) dX6_easier_14, wp_cv1 (y := zX6_easier) kM6_147 (by decide) dX6_easier_15, (show yo zX6_canSwap = 6 from rfl), wp_if_eq (y := zX6_easier) 29 (by decide) dX6_easier_18, wp_al0 (y := zX6_easier) dX6_easier_21, wp_il3 (y := zX6_easier) dX6_easier_22, wp_cv1 (y := zX6_easier) kM6_150 (by decide) dX6_easier_23, (show yo zX6_easing = 6 from rfl), wp_goto (y := zX6_easier) 30 (by decide) dX6_easier_26, wp_is4 (y := zX6_easier) dX6_easier_30, wp_il4 (y := zX6_easier) dX6_easier_32, wp_il2 (y := zX6_easier) dX6_easier_34, wp_icmp_le (y := zX6_easier) 42 (by decide) dX6_easier_35, wp_il3 (y := zX6_easier) dX6_easier_38, wp_goto (y := zX6_easier) 43 (by decide) dX6_easier_39, wp_is1 (y := zX6_easier) dX6_easier_43, wp_il4 (y := zX6_easier) dX6_easier_44, wp_il2 (y := zX6_easier) dX6_easier_46, wp_icmp_le (y := zX6_easier) 55 (by decide) dX6_easier_47, wp_il4 (y := zX6_easier) dX6_easier_50, wp_goto (y := zX6_easier) 56 (by decide) dX6_easier_52, wp_is2 (y := zX6_easier) dX6_easier_56, wp_inc3 (y := zX6_easier) (nI 1) ki_1 dX6_easier_57, wp_goto (y := zX6_easier) 6 (by decide) dX6_easier_60, O.oc, O.g0, O.g1, O.g2, O.g3, O.g4, O.g5, O.g6, O.g7, O.g9, O.g10, O.g11, O.p0, O.p7, O.a1, O.a2, O.a3, O.a4, O.a5, O.a6, O.a7, O.a8, O.a9, E1, E2, bI_t, Bool.and_self, h9, hg']
            exact ih (i + 1) (nI i, ease M (wI i)) _ (by omega) (fun q => by
              have q : ease M (wI i) < 0 := q
              rw [Int32.lt_iff_toInt_lt] at q hg ha
              omega)
          · have hg' : (ease M (wI i) ≤ e) = True := i_le hg
            have eg : esg M i (b, e) = (b, e) := by
              unfold esg
              rw [hl, if_pos rfl, if_neg hg]
            rw [eg]
            simp (disch := first | omega | assumption) only [mm_op_some, true_and, and_true, mm_rc_some, mm_rc_none, pk_mul, nI_add, mm_in_t, nI_clamp, ok0, ok1, ok2, ok3, ok4, n1_0, n0_0, nI_le_, nI_lt_, if_true, if_false, not_true, not_false_eq_true, ce_lt, ce_cl, hf_lt, hf_cl, wp_sipush (y := zX6_easier) (nI 144) ks_144 dX6_easier_7, wp_icmp_ge (y := zX6_easier) 63 (by decide) dX6_easier_10, wp_al0 (y := zX6_easier) dX6_easier_13, wp_il3 (y := zX6_easier) dX6_easier_14, wp_cv1 (y := zX6_easier) kM6_147 (by decide) dX6_easier_15, (show yo zX6_canSwap = 6 from rfl), wp_if_eq (y := zX6_easier) 29 (by decide) dX6_easier_18, wp_al0 (y := zX6_easier) dX6_easier_21, wp_il3 (y := zX6_easier) dX6_easier_22, wp_cv1 (y := zX6_easier) kM6_150 (by decide) dX6_easier_23, (show yo zX6_easing = 6 from rfl), wp_goto (y := zX6_easier) 30 (by decide) dX6_easier_26, wp_is4 (y := zX6_easier) dX6_easier_30, wp_il4 (y := zX6_easier) dX6_easier_32, wp_il2 (y := zX6_easier) dX6_easier_34, wp_icmp_le (y := zX6_easier) 42 (by decide) dX6_easier_35, wp_il1 (y := zX6_easier) dX6_easier_42, wp_is1 (y := zX6_easier) dX6_easier_43, wp_il4 (y := zX6_easier) dX6_easier_44, wp_il2 (y := zX6_easier) dX6_easier_46, wp_icmp_le (y := zX6_easier) 55 (by decide) dX6_easier_47, wp_il2 (y := zX6_easier) dX6_easier_55, wp_is2 (y := zX6_easier) dX6_easier_56, wp_inc3 (y := zX6_easier) (nI 1) ki_1 dX6_easier_57, wp_goto (y := zX6_easier) 6 (by decide) dX6_easier_60, O.oc, O.g0, O.g1, O.g2, O.g3, O.g4, O.g5, O.g6, O.g7, O.g9, O.g10, O.g11, O.p0, O.p7, O.a1, O.a2, O.a3, O.a4, O.a5, O.a6, O.a7, O.a8, O.a9, E1, E2, bI_t, Bool.and_self, h9, hg']
            exact ih (i + 1) (b, e) _ (by omega) ha
  exact key 144 0 (-1, nI 0) _ rfl (by decide)
theorem m_eased (O : MoSh sh m) (A : MeR M (μ (m + 1))) (J : Inv M) : cl sh zX6_eased [.ref m] μ Q = Q (some (.int (mEs M))) μ := by
  have E1 : ∀ Q', cl sh zX6_easier [.ref m] μ Q' = Q' (some (.int (es M).1)) μ := fun Q' => m_easier O A J
  show wp sh zX6_eased 0 [.ref m, .null] [] μ Q = _
  unfold mEs
  by_cases h : (es M).1 < 0
  · have e : (es M).1 = -1 := by
      have key := it_ind (esg M) 144 (fun _ a => a.1 = -1 ∨ ¬ a.1 < 0) (fun i a hi ha => by
        unfold esg
        split
        · split
          · split
            · exact Or.inr (nI_pos (by omega))
            · exact ha
          · exact ha
        · exact ha) (-1, nI 0) (Or.inl rfl)
      exact key.resolve_right (fun q => q h)
    have e' : ((-1 : Int32) = -1) = True := eq_true rfl
    rw [if_pos h]
    rw [e] at E1
    simp (disch := first | omega | assumption) only [mm_op_some, true_and, and_true, mm_rc_some, mm_rc_none, pk_mul, nI_add, mm_in_t, nI_clamp, ok0, ok1, ok2, ok3, ok4, n1_0, n0_0, nI_le_, nI_lt_, if_true, if_false, not_true, not_false_eq_true, ce_lt, ce_cl, hf_lt, hf_cl, wp_al0 (y := zX6_eased) dX6_eased_0, wp_cv0 (y := zX6_eased) kM6_231 (by decide) dX6_eased_1, (show yo zX6_easier = 6 from rfl), wp_is1 (y := zX6_eased) dX6_eased_4, wp_il1 (y := zX6_eased) dX6_eased_5, wp_iconst (y := zX6_eased) ((-1)) ki_m1 dX6_eased_6, wp_icmp_ne (y := zX6_eased) 14 (by decide) dX6_eased_7, wp_iconst (y := zX6_eased) (nI 0) ki_0 dX6_eased_10, wp_goto (y := zX6_eased) 19 (by decide) dX6_eased_11, wp_ireti (y := zX6_eased) rfl dX6_eased_19, O.oc, O.g0, O.g1, O.g2, O.g3, O.g4, O.g5, O.g6, O.g7, O.g9, O.g10, O.g11, O.p0, O.p7, O.a1, O.a2, O.a3, O.a4, O.a5, O.a6, O.a7, O.a8, O.a9, E1, e']
  · obtain ⟨w, e, hl, _⟩ := es_some h
    rw [if_neg h, e, nI_clamp (by omega), wI_val]
    rw [e] at E1
    have e' : (nI w.val = (-1 : Int32)) = False := nI_m1 (by omega)
    have E2 : ∀ Q', cl sh zX6_easing [.ref m, .int (nI w.val)] μ Q' = Q' (some (.int (ease M w))) μ := fun Q' => m_easing O A J w hl
    simp (disch := first | omega | assumption) only [mm_op_some, true_and, and_true, mm_rc_some, mm_rc_none, pk_mul, nI_add, mm_in_t, nI_clamp, ok0, ok1, ok2, ok3, ok4, n1_0, n0_0, nI_le_, nI_lt_, if_true, if_false, not_true, not_false_eq_true, ce_lt, ce_cl, hf_lt, hf_cl, wp_al0 (y := zX6_eased) dX6_eased_0, wp_cv0 (y := zX6_eased) kM6_231 (by decide) dX6_eased_1, (show yo zX6_easier = 6 from rfl), wp_is1 (y := zX6_eased) dX6_eased_4, wp_il1 (y := zX6_eased) dX6_eased_5, wp_iconst (y := zX6_eased) ((-1)) ki_m1 dX6_eased_6, wp_icmp_ne (y := zX6_eased) 14 (by decide) dX6_eased_7, wp_al0 (y := zX6_eased) dX6_eased_14, wp_il1 (y := zX6_eased) dX6_eased_15, wp_cv1 (y := zX6_eased) kM6_150 (by decide) dX6_eased_16, (show yo zX6_easing = 6 from rfl), wp_ireti (y := zX6_eased) rfl dX6_eased_19, O.oc, O.g0, O.g1, O.g2, O.g3, O.g4, O.g5, O.g6, O.g7, O.g9, O.g10, O.g11, O.p0, O.p7, O.a1, O.a2, O.a3, O.a4, O.a5, O.a6, O.a7, O.a8, O.a9, E1, E2, e']
end MOD
