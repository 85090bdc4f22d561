section MKD
variable {sh : mm_Sh} {m : Nat} {M N : Ms} {μ : mm_U} {s : Fo} {Q : Option Value → mm_U → Prop}
theorem m_aboutOf (O : MoSh sh m) (A : MeR M (μ (m + 1))) (J : Inv M) (c : Ce) (hc : 0 < sd M c) : cl sh zX6_aboutOf [.ref m, .int (nI c.val)] μ Q = Q (some (.int (nI (abN M c)))) μ := by
  obtain ⟨f, fh, _⟩ := J.hasF c hc
  obtain ⟨lf, of⟩ := fH_ow fh
  have E0 : ∀ Q', cl sh zX6_firstSide [.ref m, .int (nI c.val)] μ Q' = Q' (some (.int (nI f.val))) μ := fun Q' => m_firstSide O A J.lnb c f fh
  have E1 : ∀ Q', cl sh zX6_sidesOf [.ref m, .int (nI c.val)] μ Q' = Q' (some (.int (nI (sd M c)))) μ := fun Q' => m_sidesOf O A c
  have b := J.sdb c
  have eab : abN M c = sm (sd M c) (fun j => sd M (ow M (tw (itn (nx M) j f)))) := by
    have q := J.cys (fun h => sd M (ow M (tw h))) lf
    rw [of] at q
    exact q
  have key : ∀ d i, i + d = sd M c → wp sh zX6_aboutOf 11 [.ref m, .int (nI c.val), .int (nI (sm i (fun j => sd M (ow M (tw (itn (nx M) j f)))))), .int (nI (itn (nx M) i f).val), .int (nI i)] [] μ Q = Q (some (.int (nI (abN M c)))) μ := by
    intro d
    induction d with
    | zero =>
      intro i hi
      have e : i = sd M c := by omega
      rw [e, wp_il4 (y := zX6_aboutOf) dX6_aboutOf_11, eab]
      simp (disch := first | omega | assumption) only [mm_op_some, true_and, and_true, mm_rc_some, mm_rc_none, pk_mul, nI_add, mm_in_t, nI_clamp, ok0, ok1, ok2, ok3, ok4, n1_0, n0_0, nI_le_, nI_lt_, if_true, if_false, not_true, not_false_eq_true, ce_lt, ce_cl, hf_lt, hf_cl, wp_al0 (y := zX6_aboutOf) dX6_aboutOf_13, wp_il1 (y := zX6_aboutOf) dX6_aboutOf_14, wp_cv1 (y := zX6_aboutOf) kM6_115 (by decide) dX6_aboutOf_15, (show yo zX6_sidesOf = 6 from rfl), wp_icmp_ge (y := zX6_aboutOf) 45 (by decide) dX6_aboutOf_18, wp_il2 (y := zX6_aboutOf) dX6_aboutOf_45, wp_ireti (y := zX6_aboutOf) rfl dX6_aboutOf_46, O.oc, O.g0, O.g1, O.g2, O.g3, O.g4, O.g5, O.g6, O.g7, O.g9, O.g10, O.g11, O.p0, O.p7, O.a1, O.a2, O.a3, O.a4, O.a5, O.a6, O.a7, O.a8, O.a9, E1, Nat.le_refl]
    | succ d ih =>
      intro i hi
      have h9 : (sd M c ≤ i) = False := eq_false (by omega)
      have lh := (J.1.lit i f lf).1
      have E2 : ∀ Q', cl sh zX6_over [.ref m, .int (nI (itn (nx M) i f).val)] μ Q' = Q' (some (.int (nI (ow M (tw (itn (nx M) i f))).val))) μ := fun Q' => m_over O A _ lh
      have E3 : ∀ Q', cl sh zX6_sidesOf [.ref m, .int (nI (ow M (tw (itn (nx M) i f))).val)] μ Q' = Q' (some (.int (nI (sd M (ow M (tw (itn (nx M) i f))))))) μ := fun Q' => m_sidesOf O A _
      have E4 : ∀ Q', cl sh zX6_next [.ref m, .int (nI (itn (nx M) i f).val)] μ Q' = Q' (some (.int (nI (nx M (itn (nx M) i f)).val))) μ := fun Q' => m_next O A _ lh
      have k := ih (i + 1) (by omega)
      rw [itn_s] at k
      rw [wp_il4 (y := zX6_aboutOf) dX6_aboutOf_11]
      simp (disch := first | omega | assumption) only [mm_op_some, true_and, and_true, mm_rc_some, mm_rc_none, pk_mul, nI_add, mm_in_t, nI_clamp, ok0, ok1, ok2, ok3, ok4, n1_0, n0_0, nI_le_, nI_lt_, if_true, if_false, not_true, not_false_eq_true, ce_lt, ce_cl, hf_lt, hf_cl, wp_al0 (y := zX6_aboutOf) dX6_aboutOf_13, wp_il1 (y := zX6_aboutOf) dX6_aboutOf_14, wp_cv1 (y := zX6_aboutOf) kM6_115 (by decide) dX6_aboutOf_15, (show yo zX6_sidesOf = 6 from rfl), wp_icmp_ge (y := zX6_aboutOf) 45 (by decide) dX6_aboutOf_18, wp_il2 (y := zX6_aboutOf) dX6_aboutOf_21, wp_al0 (y := zX6_aboutOf) dX6_aboutOf_22, wp_al0 (y := zX6_aboutOf) dX6_aboutOf_23, wp_il3 (y := zX6_aboutOf) dX6_aboutOf_24, wp_cv1 (y := zX6_aboutOf) kM6_105 (by decide) dX6_aboutOf_25, (show yo zX6_over = 6 from rfl), wp_cv1 (y := zX6_aboutOf) kM6_115 (by decide) dX6_aboutOf_28, (show yo zX6_sidesOf = 6 from rfl), wp_iadd (y := zX6_aboutOf) dX6_aboutOf_31, wp_is2 (y := zX6_aboutOf) dX6_aboutOf_32, wp_al0 (y := zX6_aboutOf) dX6_aboutOf_33, wp_il3 (y := zX6_aboutOf) dX6_aboutOf_34, wp_cv1 (y := zX6_aboutOf) kM6_90 (by decide) dX6_aboutOf_35, (show yo zX6_next = 6 from rfl), wp_is3 (y := zX6_aboutOf) dX6_aboutOf_38, wp_inc4 (y := zX6_aboutOf) (nI 1) ki_1 dX6_aboutOf_39, wp_goto (y := zX6_aboutOf) 11 (by decide) dX6_aboutOf_42, O.oc, O.g0, O.g1, O.g2, O.g3, O.g4, O.g5, O.g6, O.g7, O.g9, O.g10, O.g11, O.p0, O.p7, O.a1, O.a2, O.a3, O.a4, O.a5, O.a6, O.a7, O.a8, O.a9, E1, E2, E3, E4, h9]
      exact k
  show wp sh zX6_aboutOf 0 [.ref m, .int (nI c.val), .null, .null, .null] [] μ Q = _
  simp (disch := first | omega | assumption) only [mm_op_some, true_and, and_true, mm_rc_some, mm_rc_none, pk_mul, nI_add, mm_in_t, nI_clamp, ok0, ok1, ok2, ok3, ok4, n1_0, n0_0, nI_le_, nI_lt_, if_true, if_false, not_true, not_false_eq_true, ce_lt, ce_cl, hf_lt, hf_cl, wp_iconst (y := zX6_aboutOf) (nI 0) ki_0 dX6_aboutOf_0, wp_is2 (y := zX6_aboutOf) dX6_aboutOf_1, wp_al0 (y := zX6_aboutOf) dX6_aboutOf_2, wp_il1 (y := zX6_aboutOf) dX6_aboutOf_3, wp_cv1 (y := zX6_aboutOf) kM6_87 (by decide) dX6_aboutOf_4, (show yo zX6_firstSide = 6 from rfl), wp_is3 (y := zX6_aboutOf) dX6_aboutOf_7, wp_iconst (y := zX6_aboutOf) (nI 0) ki_0 dX6_aboutOf_8, wp_is4 (y := zX6_aboutOf) dX6_aboutOf_9, O.oc, O.g0, O.g1, O.g2, O.g3, O.g4, O.g5, O.g6, O.g7, O.g9, O.g10, O.g11, O.p0, O.p7, O.a1, O.a2, O.a3, O.a4, O.a5, O.a6, O.a7, O.a8, O.a9, E0]
  exact key (sd M c) 0 (by omega)
theorem m_ofKind0 (O : MoSh sh m) (A : MeR M (μ (m + 1))) (J : Inv M) (n : Int32) : cl sh zX6_ofKind [.ref m, .int n, .int (nI 0)] μ Q = Q (some (.int (it (fun i a => if 0 < sd M (cI i) then (if nI (sd M (cI i)) = n then a + nI 1 else a) else a) 48 0 (nI 0)))) μ := by
  have key : ∀ d i acc, i + d = 48 → wp sh zX6_ofKind 5 [.ref m, .int n, .int (nI 0), .int acc, .int (nI i)] [] μ Q = Q (some (.int (it (fun i a => if 0 < sd M (cI i) then (if nI (sd M (cI i)) = n then a + nI 1 else a) else a) d i acc))) μ := by
    intro d
    induction d with
    | zero =>
      intro i acc hi
      have e : i = 48 := by omega
      rw [e, wp_il4 (y := zX6_ofKind) dX6_ofKind_5]
      simp (disch := first | omega | assumption) only [mm_op_some, true_and, and_true, mm_rc_some, mm_rc_none, pk_mul, nI_add, mm_in_t, nI_clamp, ok0, ok1, ok2, ok3, ok4, n1_0, n0_0, nI_le_, nI_lt_, if_true, if_false, not_true, not_false_eq_true, ce_lt, ce_cl, hf_lt, hf_cl, wp_bipush (y := zX6_ofKind) (nI 48) kb_48 dX6_ofKind_7, wp_icmp_ge (y := zX6_ofKind) 73 (by decide) dX6_ofKind_9, wp_il3 (y := zX6_ofKind) dX6_ofKind_73, wp_ireti (y := zX6_ofKind) rfl dX6_ofKind_74, Nat.le_refl]
      rfl
    | succ d ih =>
      intro i acc hi
      have hi' : i < 48 := by omega
      have h9 : (48 ≤ i) = False := eq_false (by omega)
      rw [wp_il4 (y := zX6_ofKind) dX6_ofKind_5]
      rw [show it (fun i a => if 0 < sd M (cI i) then (if nI (sd M (cI i)) = n then a + nI 1 else a) else a) (d + 1) i acc = it (fun i a => if 0 < sd M (cI i) then (if nI (sd M (cI i)) = n then a + nI 1 else a) else a) d (i + 1) (if 0 < sd M (cI i) then (if nI (sd M (cI i)) = n then acc + nI 1 else acc) else acc) from rfl]
      by_cases h : 0 < sd M (cI i)
      · have E1 : ∀ Q', cl sh zX6_isCell [.ref m, .int (nI i)] μ Q' = Q' (some (.int (nI 1))) μ := fun Q' => m_isCell1 O A J.sdb hi' h
        have ra := A.2.2.2 (cI i) h
        rw [cI_lt hi'] at ra
        have Es : ∀ Q', cl sh zX6_sidesOf [.ref m, .int (nI i)] μ Q' = Q' (some (.int (nI (sd M (cI i))))) μ := fun Q' => by
          have q := m_sidesOf (Q := Q') O A (cI i)
          rw [cI_lt hi'] at q
          exact q
        have Ea : ∀ Q', cl sh zX6_aboutOf [.ref m, .int (nI i)] μ Q' = Q' (some (.int (nI (abN M (cI i))))) μ := fun Q' => by
          have q := m_aboutOf (Q := Q') O A J (cI i) h
          rw [cI_lt hi'] at q
          exact q
        rw [if_pos h]
        by_cases p : nI (sd M (cI i)) = n
        · have p' : (nI (sd M (cI i)) = n) = True := eq_true p
          rw [if_pos p]
          simp (disch := first | omega | assumption) only [mm_op_some, true_and, and_true, mm_rc_some, mm_rc_none, pk_mul, nI_add, mm_in_t, nI_clamp, ok0, ok1, ok2, ok3, ok4, n1_0, n0_0, nI_le_, nI_lt_, if_true, if_false, not_true, not_false_eq_true, ce_lt, ce_cl, hf_lt, hf_cl, n1_zz, wp_bipush (y := zX6_ofKind) (nI 48) kb_48 dX6_ofKind_7, wp_icmp_ge (y := zX6_ofKind) 73 (by decide) dX6_ofKind_9, wp_al0 (y := zX6_ofKind) dX6_ofKind_12, wp_il4 (y := zX6_ofKind) dX6_ofKind_13, wp_cv1 (y := zX6_ofKind) kM6_93 (by decide) dX6_ofKind_15, (show yo zX6_isCell = 6 from rfl), wp_if_eq (y := zX6_ofKind) 67 (by decide) dX6_ofKind_18, wp_al0 (y := zX6_ofKind) dX6_ofKind_21, wp_il4 (y := zX6_ofKind) dX6_ofKind_22, wp_cv1 (y := zX6_ofKind) kM6_115 (by decide) dX6_ofKind_24, (show yo zX6_sidesOf = 6 from rfl), wp_il1 (y := zX6_ofKind) dX6_ofKind_27, wp_icmp_ne (y := zX6_ofKind) 67 (by decide) dX6_ofKind_28, wp_il3 (y := zX6_ofKind) dX6_ofKind_31, wp_il2 (y := zX6_ofKind) dX6_ofKind_32, wp_if_ne (y := zX6_ofKind) 40 (by decide) dX6_ofKind_33, wp_iconst (y := zX6_ofKind) (nI 1) ki_1 dX6_ofKind_36, wp_goto (y := zX6_ofKind) 65 (by decide) dX6_ofKind_37, wp_iadd (y := zX6_ofKind) dX6_ofKind_65, wp_is3 (y := zX6_ofKind) dX6_ofKind_66, wp_inc4 (y := zX6_ofKind) (nI 1) ki_1 dX6_ofKind_67, wp_goto (y := zX6_ofKind) 5 (by decide) dX6_ofKind_70, O.oc, O.g0, O.g1, O.g2, O.g3, O.g4, O.g5, O.g6, O.g7, O.g9, O.g10, O.g11, O.p0, O.p7, O.a1, O.a2, O.a3, O.a4, O.a5, O.a6, O.a7, O.a8, O.a9, h9, E1, ra, Es, Ea, p', (show (nI 0 = 0) = True from eq_true (by decide)), (show (nI 0 = nI 1) = False from eq_false (by decide))]
          exact ih (i + 1) _ (by omega)
        · have p' : (nI (sd M (cI i)) = n) = False := eq_false p
          rw [if_neg p]
          simp (disch := first | omega | assumption) only [mm_op_some, true_and, and_true, mm_rc_some, mm_rc_none, pk_mul, nI_add, mm_in_t, nI_clamp, ok0, ok1, ok2, ok3, ok4, n1_0, n0_0, nI_le_, nI_lt_, if_true, if_false, not_true, not_false_eq_true, ce_lt, ce_cl, hf_lt, hf_cl, n1_zz, wp_bipush (y := zX6_ofKind) (nI 48) kb_48 dX6_ofKind_7, wp_icmp_ge (y := zX6_ofKind) 73 (by decide) dX6_ofKind_9, wp_al0 (y := zX6_ofKind) dX6_ofKind_12, wp_il4 (y := zX6_ofKind) dX6_ofKind_13, wp_cv1 (y := zX6_ofKind) kM6_93 (by decide) dX6_ofKind_15, (show yo zX6_isCell = 6 from rfl), wp_if_eq (y := zX6_ofKind) 67 (by decide) dX6_ofKind_18, wp_al0 (y := zX6_ofKind) dX6_ofKind_21, wp_il4 (y := zX6_ofKind) dX6_ofKind_22, wp_cv1 (y := zX6_ofKind) kM6_115 (by decide) dX6_ofKind_24, (show yo zX6_sidesOf = 6 from rfl), wp_il1 (y := zX6_ofKind) dX6_ofKind_27, wp_icmp_ne (y := zX6_ofKind) 67 (by decide) dX6_ofKind_28, wp_inc4 (y := zX6_ofKind) (nI 1) ki_1 dX6_ofKind_67, wp_goto (y := zX6_ofKind) 5 (by decide) dX6_ofKind_70, O.oc, O.g0, O.g1, O.g2, O.g3, O.g4, O.g5, O.g6, O.g7, O.g9, O.g10, O.g11, O.p0, O.p7, O.a1, O.a2, O.a3, O.a4, O.a5, O.a6, O.a7, O.a8, O.a9, h9, E1, Es, p']
          exact ih (i + 1) _ (by omega)
      · have E1 : ∀ Q', cl sh zX6_isCell [.ref m, .int (nI i)] μ Q' = Q' (some (.int (nI 0))) μ := fun Q' => m_isCell0 O A J.sdb hi' h
        rw [if_neg h]
        simp (disch := first | omega | assumption) only [mm_op_some, true_and, and_true, mm_rc_some, mm_rc_none, pk_mul, nI_add, mm_in_t, nI_clamp, ok0, ok1, ok2, ok3, ok4, n1_0, n0_0, nI_le_, nI_lt_, if_true, if_false, not_true, not_false_eq_true, ce_lt, ce_cl, hf_lt, hf_cl, n0_zz, wp_bipush (y := zX6_ofKind) (nI 48) kb_48 dX6_ofKind_7, wp_icmp_ge (y := zX6_ofKind) 73 (by decide) dX6_ofKind_9, wp_al0 (y := zX6_ofKind) dX6_ofKind_12, wp_il4 (y := zX6_ofKind) dX6_ofKind_13, wp_cv1 (y := zX6_ofKind) kM6_93 (by decide) dX6_ofKind_15, (show yo zX6_isCell = 6 from rfl), wp_if_eq (y := zX6_ofKind) 67 (by decide) dX6_ofKind_18, wp_inc4 (y := zX6_ofKind) (nI 1) ki_1 dX6_ofKind_67, wp_goto (y := zX6_ofKind) 5 (by decide) dX6_ofKind_70, O.oc, O.g0, O.g1, O.g2, O.g3, O.g4, O.g5, O.g6, O.g7, O.g9, O.g10, O.g11, O.p0, O.p7, O.a1, O.a2, O.a3, O.a4, O.a5, O.a6, O.a7, O.a8, O.a9, h9, E1]
        exact ih (i + 1) _ (by omega)
  show wp sh zX6_ofKind 0 [.ref m, .int n, .int (nI 0), .null, .null] [] μ Q = _
  simp (disch := first | omega | assumption) only [mm_op_some, true_and, and_true, mm_rc_some, mm_rc_none, pk_mul, nI_add, mm_in_t, nI_clamp, ok0, ok1, ok2, ok3, ok4, n1_0, n0_0, nI_le_, nI_lt_, if_true, if_false, not_true, not_false_eq_true, ce_lt, ce_cl, hf_lt, hf_cl, wp_iconst (y := zX6_ofKind) (nI 0) ki_0 dX6_ofKind_0, wp_is3 (y := zX6_ofKind) dX6_ofKind_1, wp_iconst (y := zX6_ofKind) (nI 0) ki_0 dX6_ofKind_2, wp_is4 (y := zX6_ofKind) dX6_ofKind_3]
  exact key 48 0 _ (by omega)
theorem m_ofKind1 (O : MoSh sh m) (A : MeR M (μ (m + 1))) (J : Inv M) (n : Int32) : cl sh zX6_ofKind [.ref m, .int n, .int (nI 1)] μ Q = Q (some (.int (it (fun i a => if 0 < sd M (cI i) then (if nI (sd M (cI i)) = n then a + ar M (cI i) else a) else a) 48 0 (nI 0)))) μ := by
  have key : ∀ d i acc, i + d = 48 → wp sh zX6_ofKind 5 [.ref m, .int n, .int (nI 1), .int acc, .int (nI i)] [] μ Q = Q (some (.int (it (fun i a => if 0 < sd M (cI i) then (if nI (sd M (cI i)) = n then a + ar M (cI i) else a) else a) d i acc))) μ := by
    intro d
    induction d with
    | zero =>
      intro i acc hi
      have e : i = 48 := by omega
      rw [e, wp_il4 (y := zX6_ofKind) dX6_ofKind_5]
      simp (disch := first | omega | assumption) only [mm_op_some, true_and, and_true, mm_rc_some, mm_rc_none, pk_mul, nI_add, mm_in_t, nI_clamp, ok0, ok1, ok2, ok3, ok4, n1_0, n0_0, nI_le_, nI_lt_, if_true, if_false, not_true, not_false_eq_true, ce_lt, ce_cl, hf_lt, hf_cl, wp_bipush (y := zX6_ofKind) (nI 48) kb_48 dX6_ofKind_7, wp_icmp_ge (y := zX6_ofKind) 73 (by decide) dX6_ofKind_9, wp_il3 (y := zX6_ofKind) dX6_ofKind_73, wp_ireti (y := zX6_ofKind) rfl dX6_ofKind_74, Nat.le_refl]
      rfl
    | succ d ih =>
      intro i acc hi
      have hi' : i < 48 := by omega
      have h9 : (48 ≤ i) = False := eq_false (by omega)
      rw [wp_il4 (y := zX6_ofKind) dX6_ofKind_5]
      rw [show it (fun i a => if 0 < sd M (cI i) then (if nI (sd M (cI i)) = n then a + ar M (cI i) else a) else a) (d + 1) i acc = it (fun i a => if 0 < sd M (cI i) then (if nI (sd M (cI i)) = n then a + ar M (cI i) else a) else a) d (i + 1) (if 0 < sd M (cI i) then (if nI (sd M (cI i)) = n then acc + ar M (cI i) else acc) else acc) from rfl]
      by_cases h : 0 < sd M (cI i)
      · have E1 : ∀ Q', cl sh zX6_isCell [.ref m, .int (nI i)] μ Q' = Q' (some (.int (nI 1))) μ := fun Q' => m_isCell1 O A J.sdb hi' h
        have ra := A.2.2.2 (cI i) h
        rw [cI_lt hi'] at ra
        have Es : ∀ Q', cl sh zX6_sidesOf [.ref m, .int (nI i)] μ Q' = Q' (some (.int (nI (sd M (cI i))))) μ := fun Q' => by
          have q := m_sidesOf (Q := Q') O A (cI i)
          rw [cI_lt hi'] at q
          exact q
        have Ea : ∀ Q', cl sh zX6_aboutOf [.ref m, .int (nI i)] μ Q' = Q' (some (.int (nI (abN M (cI i))))) μ := fun Q' => by
          have q := m_aboutOf (Q := Q') O A J (cI i) h
          rw [cI_lt hi'] at q
          exact q
        rw [if_pos h]
        by_cases p : nI (sd M (cI i)) = n
        · have p' : (nI (sd M (cI i)) = n) = True := eq_true p
          rw [if_pos p]
          simp (disch := first | omega | assumption) only [mm_op_some, true_and, and_true, mm_rc_some, mm_rc_none, pk_mul, nI_add, mm_in_t, nI_clamp, ok0, ok1, ok2, ok3, ok4, n1_0, n0_0, nI_le_, nI_lt_, if_true, if_false, not_true, not_false_eq_true, ce_lt, ce_cl, hf_lt, hf_cl, n1_zz, wp_bipush (y := zX6_ofKind) (nI 48) kb_48 dX6_ofKind_7, wp_icmp_ge (y := zX6_ofKind) 73 (by decide) dX6_ofKind_9, wp_al0 (y := zX6_ofKind) dX6_ofKind_12, wp_il4 (y := zX6_ofKind) dX6_ofKind_13, wp_cv1 (y := zX6_ofKind) kM6_93 (by decide) dX6_ofKind_15, (show yo zX6_isCell = 6 from rfl), wp_if_eq (y := zX6_ofKind) 67 (by decide) dX6_ofKind_18, wp_al0 (y := zX6_ofKind) dX6_ofKind_21, wp_il4 (y := zX6_ofKind) dX6_ofKind_22, wp_cv1 (y := zX6_ofKind) kM6_115 (by decide) dX6_ofKind_24, (show yo zX6_sidesOf = 6 from rfl), wp_il1 (y := zX6_ofKind) dX6_ofKind_27, wp_icmp_ne (y := zX6_ofKind) 67 (by decide) dX6_ofKind_28, wp_il3 (y := zX6_ofKind) dX6_ofKind_31, wp_il2 (y := zX6_ofKind) dX6_ofKind_32, wp_if_ne (y := zX6_ofKind) 40 (by decide) dX6_ofKind_33, wp_il2 (y := zX6_ofKind) dX6_ofKind_40, wp_iconst (y := zX6_ofKind) (nI 1) ki_1 dX6_ofKind_41, wp_icmp_ne (y := zX6_ofKind) 59 (by decide) dX6_ofKind_42, wp_al0 (y := zX6_ofKind) dX6_ofKind_45, wp_getf (y := zX6_ofKind) kF6_9 dX6_ofKind_46, wp_sipush (y := zX6_ofKind) (nI 1600) ks_1600 dX6_ofKind_49, wp_il4 (y := zX6_ofKind) dX6_ofKind_52, wp_iadd (y := zX6_ofKind) dX6_ofKind_54, wp_iald (y := zX6_ofKind) dX6_ofKind_55, wp_goto (y := zX6_ofKind) 65 (by decide) dX6_ofKind_56, wp_iadd (y := zX6_ofKind) dX6_ofKind_65, wp_is3 (y := zX6_ofKind) dX6_ofKind_66, wp_inc4 (y := zX6_ofKind) (nI 1) ki_1 dX6_ofKind_67, wp_goto (y := zX6_ofKind) 5 (by decide) dX6_ofKind_70, O.oc, O.g0, O.g1, O.g2, O.g3, O.g4, O.g5, O.g6, O.g7, O.g9, O.g10, O.g11, O.p0, O.p7, O.a1, O.a2, O.a3, O.a4, O.a5, O.a6, O.a7, O.a8, O.a9, h9, E1, ra, Es, Ea, p', (show (nI 1 = 0) = False from eq_false (by decide)), (show (nI 1 = nI 1) = True from eq_true (by decide))]
          exact ih (i + 1) _ (by omega)
        · have p' : (nI (sd M (cI i)) = n) = False := eq_false p
          rw [if_neg p]
          simp (disch := first | omega | assumption) only [mm_op_some, true_and, and_true, mm_rc_some, mm_rc_none, pk_mul, nI_add, mm_in_t, nI_clamp, ok0, ok1, ok2, ok3, ok4, n1_0, n0_0, nI_le_, nI_lt_, if_true, if_false, not_true, not_false_eq_true, ce_lt, ce_cl, hf_lt, hf_cl, n1_zz, wp_bipush (y := zX6_ofKind) (nI 48) kb_48 dX6_ofKind_7, wp_icmp_ge (y := zX6_ofKind) 73 (by decide) dX6_ofKind_9, wp_al0 (y := zX6_ofKind) dX6_ofKind_12, wp_il4 (y := zX6_ofKind) dX6_ofKind_13, wp_cv1 (y := zX6_ofKind) kM6_93 (by decide) dX6_ofKind_15, (show yo zX6_isCell = 6 from rfl), wp_if_eq (y := zX6_ofKind) 67 (by decide) dX6_ofKind_18, wp_al0 (y := zX6_ofKind) dX6_ofKind_21, wp_il4 (y := zX6_ofKind) dX6_ofKind_22, wp_cv1 (y := zX6_ofKind) kM6_115 (by decide) dX6_ofKind_24, (show yo zX6_sidesOf = 6 from rfl), wp_il1 (y := zX6_ofKind) dX6_ofKind_27, wp_icmp_ne (y := zX6_ofKind) 67 (by decide) dX6_ofKind_28, wp_inc4 (y := zX6_ofKind) (nI 1) ki_1 dX6_ofKind_67, wp_goto (y := zX6_ofKind) 5 (by decide) dX6_ofKind_70, O.oc, O.g0, O.g1, O.g2, O.g3, O.g4, O.g5, O.g6, O.g7, O.g9, O.g10, O.g11, O.p0, O.p7, O.a1, O.a2, O.a3, O.a4, O.a5, O.a6, O.a7, O.a8, O.a9, h9, E1, Es, p']
          exact ih (i + 1) _ (by omega)
      · have E1 : ∀ Q', cl sh zX6_isCell [.ref m, .int (nI i)] μ Q' = Q' (some (.int (nI 0))) μ := fun Q' => m_isCell0 O A J.sdb hi' h
        rw [if_neg h]
        simp (disch := first | omega | assumption) only [mm_op_some, true_and, and_true, mm_rc_some, mm_rc_none, pk_mul, nI_add, mm_in_t, nI_clamp, ok0, ok1, ok2, ok3, ok4, n1_0, n0_0, nI_le_, nI_lt_, if_true, if_false, not_true, not_false_eq_true, ce_lt, ce_cl, hf_lt, hf_cl, n0_zz, wp_bipush (y := zX6_ofKind) (nI 48) kb_48 dX6_ofKind_7, wp_icmp_ge (y := zX6_ofKind) 73 (by decide) dX6_ofKind_9, wp_al0 (y := zX6_ofKind) dX6_ofKind_12, wp_il4 (y := zX6_ofKind) dX6_ofKind_13, wp_cv1 (y := zX6_ofKind) kM6_93 (by decide) dX6_ofKind_15, (show yo zX6_isCell = 6 from rfl), wp_if_eq (y := zX6_ofKind) 67 (by decide) dX6_ofKind_18, wp_inc4 (y := zX6_ofKind) (nI 1) ki_1 dX6_ofKind_67, wp_goto (y := zX6_ofKind) 5 (by decide) dX6_ofKind_70, O.oc, O.g0, O.g1, O.g2, O.g3, O.g4, O.g5, O.g6, O.g7, O.g9, O.g10, O.g11, O.p0, O.p7, O.a1, O.a2, O.a3, O.a4, O.a5, O.a6, O.a7, O.a8, O.a9, h9, E1]
        exact ih (i + 1) _ (by omega)
  show wp sh zX6_ofKind 0 [.ref m, .int n, .int (nI 1), .null, .null] [] μ Q = _
  simp (disch := first | omega | assumption) only [mm_op_some, true_and, and_true, mm_rc_some, mm_rc_none, pk_mul, nI_add, mm_in_t, nI_clamp, ok0, ok1, ok2, ok3, ok4, n1_0, n0_0, nI_le_, nI_lt_, if_true, if_false, not_true, not_false_eq_true, ce_lt, ce_cl, hf_lt, hf_cl, wp_iconst (y := zX6_ofKind) (nI 0) ki_0 dX6_ofKind_0, wp_is3 (y := zX6_ofKind) dX6_ofKind_1, wp_iconst (y := zX6_ofKind) (nI 0) ki_0 dX6_ofKind_2, wp_is4 (y := zX6_ofKind) dX6_ofKind_3]
  exact key 48 0 _ (by omega)
theorem m_ofKind2 (O : MoSh sh m) (A : MeR M (μ (m + 1))) (J : Inv M) (n : Int32) : cl sh zX6_ofKind [.ref m, .int n, .int (nI 2)] μ Q = Q (some (.int (it (fun i a => if 0 < sd M (cI i) then (if nI (sd M (cI i)) = n then a + nI (abN M (cI i)) else a) else a) 48 0 (nI 0)))) μ := by
  have key : ∀ d i acc, i + d = 48 → wp sh zX6_ofKind 5 [.ref m, .int n, .int (nI 2), .int acc, .int (nI i)] [] μ Q = Q (some (.int (it (fun i a => if 0 < sd M (cI i) then (if nI (sd M (cI i)) = n then a + nI (abN M (cI i)) else a) else a) d i acc))) μ := by
    intro d
    induction d with
    | zero =>
      intro i acc hi
      have e : i = 48 := by omega
      rw [e, wp_il4 (y := zX6_ofKind) dX6_ofKind_5]
      simp (disch := first | omega | assumption) only [mm_op_some, true_and, and_true, mm_rc_some, mm_rc_none, pk_mul, nI_add, mm_in_t, nI_clamp, ok0, ok1, ok2, ok3, ok4, n1_0, n0_0, nI_le_, nI_lt_, if_true, if_false, not_true, not_false_eq_true, ce_lt, ce_cl, hf_lt, hf_cl, wp_bipush (y := zX6_ofKind) (nI 48) kb_48 dX6_ofKind_7, wp_icmp_ge (y := zX6_ofKind) 73 (by decide) dX6_ofKind_9, wp_il3 (y := zX6_ofKind) dX6_ofKind_73, wp_ireti (y := zX6_ofKind) rfl dX6_ofKind_74, Nat.le_refl]
      rfl
    | succ d ih =>
      intro i acc hi
      have hi' : i < 48 := by omega
      have h9 : (48 ≤ i) = False := eq_false (by omega)
      rw [wp_il4 (y := zX6_ofKind) dX6_ofKind_5]
      rw [show it (fun i a => if 0 < sd M (cI i) then (if nI (sd M (cI i)) = n then a + nI (abN M (cI i)) else a) else a) (d + 1) i acc = it (fun i a => if 0 < sd M (cI i) then (if nI (sd M (cI i)) = n then a + nI (abN M (cI i)) else a) else a) d (i + 1) (if 0 < sd M (cI i) then (if nI (sd M (cI i)) = n then acc + nI (abN M (cI i)) else acc) else acc) from rfl]
      by_cases h : 0 < sd M (cI i)
      · have E1 : ∀ Q', cl sh zX6_isCell [.ref m, .int (nI i)] μ Q' = Q' (some (.int (nI 1))) μ := fun Q' => m_isCell1 O A J.sdb hi' h
        have ra := A.2.2.2 (cI i) h
        rw [cI_lt hi'] at ra
        have Es : ∀ Q', cl sh zX6_sidesOf [.ref m, .int (nI i)] μ Q' = Q' (some (.int (nI (sd M (cI i))))) μ := fun Q' => by
          have q := m_sidesOf (Q := Q') O A (cI i)
          rw [cI_lt hi'] at q
          exact q
        have Ea : ∀ Q', cl sh zX6_aboutOf [.ref m, .int (nI i)] μ Q' = Q' (some (.int (nI (abN M (cI i))))) μ := fun Q' => by
          have q := m_aboutOf (Q := Q') O A J (cI i) h
          rw [cI_lt hi'] at q
          exact q
        rw [if_pos h]
        by_cases p : nI (sd M (cI i)) = n
        · have p' : (nI (sd M (cI i)) = n) = True := eq_true p
          rw [if_pos p]
          simp (disch := first | omega | assumption) only [mm_op_some, true_and, and_true, mm_rc_some, mm_rc_none, pk_mul, nI_add, mm_in_t, nI_clamp, ok0, ok1, ok2, ok3, ok4, n1_0, n0_0, nI_le_, nI_lt_, if_true, if_false, not_true, not_false_eq_true, ce_lt, ce_cl, hf_lt, hf_cl, n1_zz, wp_bipush (y := zX6_ofKind) (nI 48) kb_48 dX6_ofKind_7, wp_icmp_ge (y := zX6_ofKind) 73 (by decide) dX6_ofKind_9, wp_al0 (y := zX6_ofKind) dX6_ofKind_12, wp_il4 (y := zX6_ofKind) dX6_ofKind_13, wp_cv1 (y := zX6_ofKind) kM6_93 (by decide) dX6_ofKind_15, (show yo zX6_isCell = 6 from rfl), wp_if_eq (y := zX6_ofKind) 67 (by decide) dX6_ofKind_18, wp_al0 (y := zX6_ofKind) dX6_ofKind_21, wp_il4 (y := zX6_ofKind) dX6_ofKind_22, wp_cv1 (y := zX6_ofKind) kM6_115 (by decide) dX6_ofKind_24, (show yo zX6_sidesOf = 6 from rfl), wp_il1 (y := zX6_ofKind) dX6_ofKind_27, wp_icmp_ne (y := zX6_ofKind) 67 (by decide) dX6_ofKind_28, wp_il3 (y := zX6_ofKind) dX6_ofKind_31, wp_il2 (y := zX6_ofKind) dX6_ofKind_32, wp_if_ne (y := zX6_ofKind) 40 (by decide) dX6_ofKind_33, wp_il2 (y := zX6_ofKind) dX6_ofKind_40, wp_iconst (y := zX6_ofKind) (nI 1) ki_1 dX6_ofKind_41, wp_icmp_ne (y := zX6_ofKind) 59 (by decide) dX6_ofKind_42, wp_al0 (y := zX6_ofKind) dX6_ofKind_59, wp_il4 (y := zX6_ofKind) dX6_ofKind_60, wp_cv1 (y := zX6_ofKind) kM6_246 (by decide) dX6_ofKind_62, (show yo zX6_aboutOf = 6 from rfl), wp_iadd (y := zX6_ofKind) dX6_ofKind_65, wp_is3 (y := zX6_ofKind) dX6_ofKind_66, wp_inc4 (y := zX6_ofKind) (nI 1) ki_1 dX6_ofKind_67, wp_goto (y := zX6_ofKind) 5 (by decide) dX6_ofKind_70, O.oc, O.g0, O.g1, O.g2, O.g3, O.g4, O.g5, O.g6, O.g7, O.g9, O.g10, O.g11, O.p0, O.p7, O.a1, O.a2, O.a3, O.a4, O.a5, O.a6, O.a7, O.a8, O.a9, h9, E1, ra, Es, Ea, p', (show (nI 2 = 0) = False from eq_false (by decide)), (show (nI 2 = nI 1) = False from eq_false (by decide))]
          exact ih (i + 1) _ (by omega)
        · have p' : (nI (sd M (cI i)) = n) = False := eq_false p
          rw [if_neg p]
          simp (disch := first | omega | assumption) only [mm_op_some, true_and, and_true, mm_rc_some, mm_rc_none, pk_mul, nI_add, mm_in_t, nI_clamp, ok0, ok1, ok2, ok3, ok4, n1_0, n0_0, nI_le_, nI_lt_, if_true, if_false, not_true, not_false_eq_true, ce_lt, ce_cl, hf_lt, hf_cl, n1_zz, wp_bipush (y := zX6_ofKind) (nI 48) kb_48 dX6_ofKind_7, wp_icmp_ge (y := zX6_ofKind) 73 (by decide) dX6_ofKind_9, wp_al0 (y := zX6_ofKind) dX6_ofKind_12, wp_il4 (y := zX6_ofKind) dX6_ofKind_13, wp_cv1 (y := zX6_ofKind) kM6_93 (by decide) dX6_ofKind_15, (show yo zX6_isCell = 6 from rfl), wp_if_eq (y := zX6_ofKind) 67 (by decide) dX6_ofKind_18, wp_al0 (y := zX6_ofKind) dX6_ofKind_21, wp_il4 (y := zX6_ofKind) dX6_ofKind_22, wp_cv1 (y := zX6_ofKind) kM6_115 (by decide) dX6_ofKind_24, (show yo zX6_sidesOf = 6 from rfl), wp_il1 (y := zX6_ofKind) dX6_ofKind_27, wp_icmp_ne (y := zX6_ofKind) 67 (by decide) dX6_ofKind_28, wp_inc4 (y := zX6_ofKind) (nI 1) ki_1 dX6_ofKind_67, wp_goto (y := zX6_ofKind) 5 (by decide) dX6_ofKind_70, O.oc, O.g0, O.g1, O.g2, O.g3, O.g4, O.g5, O.g6, O.g7, O.g9, O.g10, O.g11, O.p0, O.p7, O.a1, O.a2, O.a3, O.a4, O.a5, O.a6, O.a7, O.a8, O.a9, h9, E1, Es, p']
          exact ih (i + 1) _ (by omega)
      · have E1 : ∀ Q', cl sh zX6_isCell [.ref m, .int (nI i)] μ Q' = Q' (some (.int (nI 0))) μ := fun Q' => m_isCell0 O A J.sdb hi' h
        rw [if_neg h]
        simp (disch := first | omega | assumption) only [mm_op_some, true_and, and_true, mm_rc_some, mm_rc_none, pk_mul, nI_add, mm_in_t, nI_clamp, ok0, ok1, ok2, ok3, ok4, n1_0, n0_0, nI_le_, nI_lt_, if_true, if_false, not_true, not_false_eq_true, ce_lt, ce_cl, hf_lt, hf_cl, n0_zz, wp_bipush (y := zX6_ofKind) (nI 48) kb_48 dX6_ofKind_7, wp_icmp_ge (y := zX6_ofKind) 73 (by decide) dX6_ofKind_9, wp_al0 (y := zX6_ofKind) dX6_ofKind_12, wp_il4 (y := zX6_ofKind) dX6_ofKind_13, wp_cv1 (y := zX6_ofKind) kM6_93 (by decide) dX6_ofKind_15, (show yo zX6_isCell = 6 from rfl), wp_if_eq (y := zX6_ofKind) 67 (by decide) dX6_ofKind_18, wp_inc4 (y := zX6_ofKind) (nI 1) ki_1 dX6_ofKind_67, wp_goto (y := zX6_ofKind) 5 (by decide) dX6_ofKind_70, O.oc, O.g0, O.g1, O.g2, O.g3, O.g4, O.g5, O.g6, O.g7, O.g9, O.g10, O.g11, O.p0, O.p7, O.a1, O.a2, O.a3, O.a4, O.a5, O.a6, O.a7, O.a8, O.a9, h9, E1]
        exact ih (i + 1) _ (by omega)
  show wp sh zX6_ofKind 0 [.ref m, .int n, .int (nI 2), .null, .null] [] μ Q = _
  simp (disch := first | omega | assumption) only [mm_op_some, true_and, and_true, mm_rc_some, mm_rc_none, pk_mul, nI_add, mm_in_t, nI_clamp, ok0, ok1, ok2, ok3, ok4, n1_0, n0_0, nI_le_, nI_lt_, if_true, if_false, not_true, not_false_eq_true, ce_lt, ce_cl, hf_lt, hf_cl, wp_iconst (y := zX6_ofKind) (nI 0) ki_0 dX6_ofKind_0, wp_is3 (y := zX6_ofKind) dX6_ofKind_1, wp_iconst (y := zX6_ofKind) (nI 0) ki_0 dX6_ofKind_2, wp_is4 (y := zX6_ofKind) dX6_ofKind_3]
  exact key 48 0 _ (by omega)
end MKD
