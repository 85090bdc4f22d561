section MSH2
variable {sh : mm_Sh} {m : Nat} {M : Ms} {μ : mm_U} {s : Fo} {c : Ce} {Q : Option Value → mm_U → Prop}
theorem m_shortest (O : MoSh sh m) (A : MeR M (μ (m + 1))) (J : Inv M) (c : Ce) : cl sh zX6_shortest [.ref m, .int (nI c.val)] μ Q = Q (some (.int (wo (shs M c)))) μ := by
  show wp sh zX6_shortest 0 [.ref m, .int (nI c.val), .null, .null, .null] [] μ Q = _
  simp (disch := first | omega | assumption) only [wp_iconst (y := zX6_shortest) ((-1)) ki_m1 dX6_shortest_0, wp_is2 (y := zX6_shortest) dX6_shortest_1, wp_iconst (y := zX6_shortest) (nI 0) ki_0 dX6_shortest_2, wp_is3 (y := zX6_shortest) dX6_shortest_3]
  have key : ∀ d i (a : Option Wa) (v : Value), i + d = 144 → (∀ w, a = some w → lv M w = true) → wp sh zX6_shortest 4 [.ref m, .int (nI c.val), .int (wo a), .int (nI i), v] [] μ Q = Q (some (.int (wo (it (shg M c) d i a)))) μ := by
    intro d
    induction d with
    | zero =>
      intro i a v hi _
      have h9 : (144 ≤ i) = True := eq_true (by omega)
      rw [wp_il3 (y := zX6_shortest) dX6_shortest_4]
      simp (disch := first | omega | assumption) only [mm_op_some, true_and, and_true, mm_rc_some, mm_rc_none, pk_mul, nI_add, mm_in_t, nI_clamp, ok0, ok1, ok2, ok3, ok4, n1_0, n0_0, nI_le_, nI_lt_, if_true, if_false, not_true, not_false_eq_true, ce_lt, ce_cl, hf_lt, hf_cl, wp_sipush (y := zX6_shortest) (nI 144) ks_144 dX6_shortest_5, wp_icmp_ge (y := zX6_shortest) 101 (by decide) dX6_shortest_8, wp_il2 (y := zX6_shortest) dX6_shortest_101, wp_ireti (y := zX6_shortest) rfl dX6_shortest_102, h9]
      rfl
    | succ d ih =>
      intro i a v hi ha
      have h9 : (144 ≤ i) = False := eq_false (by omega)
      have i144 : i < 144 := by omega
      have iv := wI_lt i144
      have pre : ∀ QQ, wp sh zX6_shortest 4 [.ref m, .int (nI c.val), .int (wo a), .int (nI i), v] [] μ QQ = wp sh zX6_shortest 56 [.ref m, .int (nI c.val), .int (wo a), .int (nI i), .int (bI (decide (lv M (wI i) = true ∧ (ow M (h0 (wI i)) = c ∨ ow M (h1 (wI i)) = c) ∧ can M (wI i) = true)))] [] μ QQ := by
        intro QQ
        rw [wp_il3 (y := zX6_shortest) dX6_shortest_4]
        by_cases hl : lv M (wI i) = true
        · have la : LvH M (h0 (wI i)) := LvH_h0.mpr hl
          have E0 : ∀ Q', cl sh zX6_isWall [.ref m, .int (nI i)] μ Q' = Q' (some (.int (nI 1))) μ := fun Q' => m_isWall1 O A J.lnb i144 hl
          have E1 : ∀ Q', cl sh zX6_cellOf [.ref m, .int (nI (2 * i))] μ Q' = Q' (some (.int (nI (ow M (h0 (wI i))).val))) μ := fun Q' => by
            have := m_cellOf (Q := Q') O A (h0 (wI i)) la
            rw [h0_val, iv] at this
            exact this
          have E2 : ∀ Q', cl sh zX6_over [.ref m, .int (nI (2 * i))] μ Q' = Q' (some (.int (nI (ow M (h1 (wI i))).val))) μ := fun Q' => by
            have := m_over (Q := Q') O A (h0 (wI i)) la
            rw [tw_h0, h0_val, iv] at this
            exact this
          have E3 : ∀ Q', cl sh zX6_canSwap [.ref m, .int (nI i)] μ Q' = Q' (some (.int (bI (can M (wI i))))) μ := fun Q' => by
            have := m_canSwap (Q := Q') O A J i144
            rw [hl, Bool.true_and] at this
            exact this
          generalize ow M (h0 (wI i)) = u at E1 ⊢
          generalize ow M (h1 (wI i)) = x at E2 ⊢
          have tail : (u = c ∨ x = c) → wp sh zX6_shortest 41 [.ref m, .int (nI c.val), .int (wo a), .int (nI i), v] [] μ QQ = wp sh zX6_shortest 56 [.ref m, .int (nI c.val), .int (wo a), .int (nI i), .int (bI (decide (lv M (wI i) = true ∧ (u = c ∨ x = c) ∧ can M (wI i) = true)))] [] μ QQ := by
            intro hu
            cases hc : can M (wI i) with
            | true =>
              rw [hc] at E3
              rw [decide_eq_true ⟨hl, hu, rfl⟩]
              simp (disch := first | omega | assumption) only [mm_op_some, true_and, and_true, mm_rc_some, mm_rc_none, pk_mul, nI_add, mm_in_t, nI_clamp, ok0, ok1, ok2, ok3, ok4, n1_0, n0_0, nI_le_, nI_lt_, if_true, if_false, not_true, not_false_eq_true, ce_lt, ce_cl, hf_lt, hf_cl, wp_al0 (y := zX6_shortest) dX6_shortest_41, wp_il3 (y := zX6_shortest) dX6_shortest_42, wp_cv1 (y := zX6_shortest) kM6_147 (by decide) dX6_shortest_43, (show yo zX6_canSwap = 6 from rfl), wp_if_eq (y := zX6_shortest) 53 (by decide) dX6_shortest_46, wp_iconst (y := zX6_shortest) (nI 1) ki_1 dX6_shortest_49, wp_goto (y := zX6_shortest) 54 (by decide) dX6_shortest_50, wp_is4 (y := zX6_shortest) dX6_shortest_54, O.oc, O.g0, O.g1, O.g2, O.g3, O.g4, O.g5, O.g6, O.g7, O.g9, O.g10, O.g11, O.p0, O.p7, O.a1, O.a2, O.a3, O.a4, O.a5, O.a6, O.a7, O.a8, O.a9, E3, bI_t]
            | false =>
              rw [hc] at E3
              rw [decide_eq_false (fun t => by have := t.2.2; cases this)]
              simp (disch := first | omega | assumption) only [mm_op_some, true_and, and_true, mm_rc_some, mm_rc_none, pk_mul, nI_add, mm_in_t, nI_clamp, ok0, ok1, ok2, ok3, ok4, n1_0, n0_0, nI_le_, nI_lt_, if_true, if_false, not_true, not_false_eq_true, ce_lt, ce_cl, hf_lt, hf_cl, wp_al0 (y := zX6_shortest) dX6_shortest_41, wp_il3 (y := zX6_shortest) dX6_shortest_42, wp_cv1 (y := zX6_shortest) kM6_147 (by decide) dX6_shortest_43, (show yo zX6_canSwap = 6 from rfl), wp_if_eq (y := zX6_shortest) 53 (by decide) dX6_shortest_46, wp_iconst (y := zX6_shortest) (nI 0) ki_0 dX6_shortest_53, wp_is4 (y := zX6_shortest) dX6_shortest_54, O.oc, O.g0, O.g1, O.g2, O.g3, O.g4, O.g5, O.g6, O.g7, O.g9, O.g10, O.g11, O.p0, O.p7, O.a1, O.a2, O.a3, O.a4, O.a5, O.a6, O.a7, O.a8, O.a9, E3, bI_f]
          by_cases p1 : u = c
          · have q1 : (nI u.val = nI c.val) = True := eq_true (by rw [p1])
            rw [← tail (Or.inl p1)]
            simp (disch := first | omega | assumption) only [mm_op_some, true_and, and_true, mm_rc_some, mm_rc_none, pk_mul, nI_add, mm_in_t, nI_clamp, ok0, ok1, ok2, ok3, ok4, n1_0, n0_0, nI_le_, nI_lt_, if_true, if_false, not_true, not_false_eq_true, ce_lt, ce_cl, hf_lt, hf_cl, wp_sipush (y := zX6_shortest) (nI 144) ks_144 dX6_shortest_5, wp_icmp_ge (y := zX6_shortest) 101 (by decide) dX6_shortest_8, wp_al0 (y := zX6_shortest) dX6_shortest_11, wp_il3 (y := zX6_shortest) dX6_shortest_12, wp_cv1 (y := zX6_shortest) kM6_80 (by decide) dX6_shortest_13, (show yo zX6_isWall = 6 from rfl), wp_if_eq (y := zX6_shortest) 53 (by decide) dX6_shortest_16, wp_al0 (y := zX6_shortest) dX6_shortest_19, wp_iconst (y := zX6_shortest) (nI 2) ki_2 dX6_shortest_20, wp_il3 (y := zX6_shortest) dX6_shortest_21, wp_imul (y := zX6_shortest) dX6_shortest_22, wp_cv1 (y := zX6_shortest) kM6_84 (by decide) dX6_shortest_23, (show yo zX6_cellOf = 6 from rfl), wp_il1 (y := zX6_shortest) dX6_shortest_26, wp_icmp_eq (y := zX6_shortest) 41 (by decide) dX6_shortest_27, O.oc, O.g0, O.g1, O.g2, O.g3, O.g4, O.g5, O.g6, O.g7, O.g9, O.g10, O.g11, O.p0, O.p7, O.a1, O.a2, O.a3, O.a4, O.a5, O.a6, O.a7, O.a8, O.a9, E0, E1, q1, h9]
          · have q1 : (nI u.val = nI c.val) = False := eq_false (by rw [ce_eq]; exact p1)
            by_cases p2 : x = c
            · have q2 : (nI x.val = nI c.val) = True := eq_true (by rw [p2])
              rw [← tail (Or.inr p2)]
              simp (disch := first | omega | assumption) only [mm_op_some, true_and, and_true, mm_rc_some, mm_rc_none, pk_mul, nI_add, mm_in_t, nI_clamp, ok0, ok1, ok2, ok3, ok4, n1_0, n0_0, nI_le_, nI_lt_, if_true, if_false, not_true, not_false_eq_true, ce_lt, ce_cl, hf_lt, hf_cl, wp_sipush (y := zX6_shortest) (nI 144) ks_144 dX6_shortest_5, wp_icmp_ge (y := zX6_shortest) 101 (by decide) dX6_shortest_8, wp_al0 (y := zX6_shortest) dX6_shortest_11, wp_il3 (y := zX6_shortest) dX6_shortest_12, wp_cv1 (y := zX6_shortest) kM6_80 (by decide) dX6_shortest_13, (show yo zX6_isWall = 6 from rfl), wp_if_eq (y := zX6_shortest) 53 (by decide) dX6_shortest_16, wp_al0 (y := zX6_shortest) dX6_shortest_19, wp_iconst (y := zX6_shortest) (nI 2) ki_2 dX6_shortest_20, wp_il3 (y := zX6_shortest) dX6_shortest_21, wp_imul (y := zX6_shortest) dX6_shortest_22, wp_cv1 (y := zX6_shortest) kM6_84 (by decide) dX6_shortest_23, (show yo zX6_cellOf = 6 from rfl), wp_il1 (y := zX6_shortest) dX6_shortest_26, wp_icmp_eq (y := zX6_shortest) 41 (by decide) dX6_shortest_27, wp_al0 (y := zX6_shortest) dX6_shortest_30, wp_iconst (y := zX6_shortest) (nI 2) ki_2 dX6_shortest_31, wp_il3 (y := zX6_shortest) dX6_shortest_32, wp_imul (y := zX6_shortest) dX6_shortest_33, wp_cv1 (y := zX6_shortest) kM6_105 (by decide) dX6_shortest_34, (show yo zX6_over = 6 from rfl), wp_il1 (y := zX6_shortest) dX6_shortest_37, wp_icmp_ne (y := zX6_shortest) 53 (by decide) dX6_shortest_38, O.oc, O.g0, O.g1, O.g2, O.g3, O.g4, O.g5, O.g6, O.g7, O.g9, O.g10, O.g11, O.p0, O.p7, O.a1, O.a2, O.a3, O.a4, O.a5, O.a6, O.a7, O.a8, O.a9, E0, E1, E2, q1, q2, h9]
            · have q2 : (nI x.val = nI c.val) = False := eq_false (by rw [ce_eq]; exact p2)
              rw [decide_eq_false (fun t => t.2.1.elim p1 p2)]
              simp (disch := first | omega | assumption) only [mm_op_some, true_and, and_true, mm_rc_some, mm_rc_none, pk_mul, nI_add, mm_in_t, nI_clamp, ok0, ok1, ok2, ok3, ok4, n1_0, n0_0, nI_le_, nI_lt_, if_true, if_false, not_true, not_false_eq_true, ce_lt, ce_cl, hf_lt, hf_cl, wp_sipush (y := zX6_shortest) (nI 144) ks_144 dX6_shortest_5, wp_icmp_ge (y := zX6_shortest) 101 (by decide) dX6_shortest_8, wp_al0 (y := zX6_shortest) dX6_shortest_11, wp_il3 (y := zX6_shortest) dX6_shortest_12, wp_cv1 (y := zX6_shortest) kM6_80 (by decide) dX6_shortest_13, (show yo zX6_isWall = 6 from rfl), wp_if_eq (y := zX6_shortest) 53 (by decide) dX6_shortest_16, wp_al0 (y := zX6_shortest) dX6_shortest_19, wp_iconst (y := zX6_shortest) (nI 2) ki_2 dX6_shortest_20, wp_il3 (y := zX6_shortest) dX6_shortest_21, wp_imul (y := zX6_shortest) dX6_shortest_22, wp_cv1 (y := zX6_shortest) kM6_84 (by decide) dX6_shortest_23, (show yo zX6_cellOf = 6 from rfl), wp_il1 (y := zX6_shortest) dX6_shortest_26, wp_icmp_eq (y := zX6_shortest) 41 (by decide) dX6_shortest_27, wp_al0 (y := zX6_shortest) dX6_shortest_30, wp_iconst (y := zX6_shortest) (nI 2) ki_2 dX6_shortest_31, wp_il3 (y := zX6_shortest) dX6_shortest_32, wp_imul (y := zX6_shortest) dX6_shortest_33, wp_cv1 (y := zX6_shortest) kM6_105 (by decide) dX6_shortest_34, (show yo zX6_over = 6 from rfl), wp_il1 (y := zX6_shortest) dX6_shortest_37, wp_icmp_ne (y := zX6_shortest) 53 (by decide) dX6_shortest_38, wp_iconst (y := zX6_shortest) (nI 0) ki_0 dX6_shortest_53, wp_is4 (y := zX6_shortest) dX6_shortest_54, O.oc, O.g0, O.g1, O.g2, O.g3, O.g4, O.g5, O.g6, O.g7, O.g9, O.g10, O.g11, O.p0, O.p7, O.a1, O.a2, O.a3, O.a4, O.a5, O.a6, O.a7, O.a8, O.a9, E0, E1, E2, q1, q2, h9, bI_f]
        · have E0 : ∀ Q', cl sh zX6_isWall [.ref m, .int (nI i)] μ Q' = Q' (some (.int (nI 0))) μ := fun Q' => m_isWall0 O A i144 hl
          rw [decide_eq_false (fun t => hl t.1)]
          simp (disch := first | omega | assumption) only [mm_op_some, true_and, and_true, mm_rc_some, mm_rc_none, pk_mul, nI_add, mm_in_t, nI_clamp, ok0, ok1, ok2, ok3, ok4, n1_0, n0_0, nI_le_, nI_lt_, if_true, if_false, not_true, not_false_eq_true, ce_lt, ce_cl, hf_lt, hf_cl, wp_sipush (y := zX6_shortest) (nI 144) ks_144 dX6_shortest_5, wp_icmp_ge (y := zX6_shortest) 101 (by decide) dX6_shortest_8, wp_al0 (y := zX6_shortest) dX6_shortest_11, wp_il3 (y := zX6_shortest) dX6_shortest_12, wp_cv1 (y := zX6_shortest) kM6_80 (by decide) dX6_shortest_13, (show yo zX6_isWall = 6 from rfl), wp_if_eq (y := zX6_shortest) 53 (by decide) dX6_shortest_16, wp_iconst (y := zX6_shortest) (nI 0) ki_0 dX6_shortest_53, wp_is4 (y := zX6_shortest) dX6_shortest_54, O.oc, O.g0, O.g1, O.g2, O.g3, O.g4, O.g5, O.g6, O.g7, O.g9, O.g10, O.g11, O.p0, O.p7, O.a1, O.a2, O.a3, O.a4, O.a5, O.a6, O.a7, O.a8, O.a9, E0, h9, bI_f]
      rw [pre]
      show _ = Q (some (.int (wo (it (shg M c) d (i + 1) (shg M c i a))))) μ
      by_cases hc : lv M (wI i) = true ∧ (ow M (h0 (wI i)) = c ∨ ow M (h1 (wI i)) = c) ∧ can M (wI i) = true
      · rw [decide_eq_true hc]
        have rl := A.lnv hc.1
        rw [iv] at rl
        cases a with
        | none =>
          have e : shg M c i none = some (wI i) := by unfold shg; rw [if_pos hc]
          have w0 : (wo none = (-1 : Int32)) = True := eq_true rfl
          rw [e]
          simp (disch := first | omega | assumption) only [mm_op_some, true_and, and_true, mm_rc_some, mm_rc_none, pk_mul, nI_add, mm_in_t, nI_clamp, ok0, ok1, ok2, ok3, ok4, n1_0, n0_0, nI_le_, nI_lt_, if_true, if_false, not_true, not_false_eq_true, ce_lt, ce_cl, hf_lt, hf_cl, wp_il4 (y := zX6_shortest) dX6_shortest_56, wp_if_eq (y := zX6_shortest) 93 (by decide) dX6_shortest_58, wp_il2 (y := zX6_shortest) dX6_shortest_61, wp_iconst (y := zX6_shortest) ((-1)) ki_m1 dX6_shortest_62, wp_icmp_eq (y := zX6_shortest) 89 (by decide) dX6_shortest_63, wp_il3 (y := zX6_shortest) dX6_shortest_89, wp_goto (y := zX6_shortest) 94 (by decide) dX6_shortest_90, wp_is2 (y := zX6_shortest) dX6_shortest_94, wp_inc3 (y := zX6_shortest) (nI 1) ki_1 dX6_shortest_95, wp_goto (y := zX6_shortest) 4 (by decide) dX6_shortest_98, O.oc, O.g0, O.g1, O.g2, O.g3, O.g4, O.g5, O.g6, O.g7, O.g9, O.g10, O.g11, O.p0, O.p7, O.a1, O.a2, O.a3, O.a4, O.a5, O.a6, O.a7, O.a8, O.a9, bI_t, w0]
          have := ih (i + 1) (some (wI i)) (.int (nI 1)) (by omega) (fun w hw => by cases hw; exact hc.1)
          rw [wo_s, iv] at this
          exact this
        | some b =>
          have rb := A.lnv (ha b rfl)
          have w0 : (nI b.val = (-1 : Int32)) = False := nI_m1 (by omega)
          rw [wo_s]
          by_cases hg : ln M (wI i) < ln M b
          · have hg' : (ln M b ≤ ln M (wI i)) = False := i_nle hg
            have e : shg M c i (some b) = some (wI i) := by unfold shg; rw [if_pos hc]; exact if_pos hg
            rw [e]
            simp (disch := first | omega | assumption) only [mm_op_some, true_and, and_true, mm_rc_some, mm_rc_none, pk_mul, nI_add, mm_in_t, nI_clamp, ok0, ok1, ok2, ok3, ok4, n1_0, n0_0, nI_le_, nI_lt_, if_true, if_false, not_true, not_false_eq_true, ce_lt, ce_cl, hf_lt, hf_cl, wp_il4 (y := zX6_shortest) dX6_shortest_56, wp_if_eq (y := zX6_shortest) 93 (by decide) dX6_shortest_58, wp_il2 (y := zX6_shortest) dX6_shortest_61, wp_iconst (y := zX6_shortest) ((-1)) ki_m1 dX6_shortest_62, wp_icmp_eq (y := zX6_shortest) 89 (by decide) dX6_shortest_63, wp_al0 (y := zX6_shortest) dX6_shortest_66, wp_getf (y := zX6_shortest) kF6_9 dX6_shortest_67, wp_sipush (y := zX6_shortest) (nI 1456) ks_1456 dX6_shortest_70, wp_il3 (y := zX6_shortest) dX6_shortest_73, wp_iadd (y := zX6_shortest) dX6_shortest_74, wp_iald (y := zX6_shortest) dX6_shortest_75, wp_al0 (y := zX6_shortest) dX6_shortest_76, wp_getf (y := zX6_shortest) kF6_9 dX6_shortest_77, wp_sipush (y := zX6_shortest) (nI 1456) ks_1456 dX6_shortest_80, wp_il2 (y := zX6_shortest) dX6_shortest_83, wp_iadd (y := zX6_shortest) dX6_shortest_84, wp_iald (y := zX6_shortest) dX6_shortest_85, wp_icmp_ge (y := zX6_shortest) 93 (by decide) dX6_shortest_86, wp_il3 (y := zX6_shortest) dX6_shortest_89, wp_goto (y := zX6_shortest) 94 (by decide) dX6_shortest_90, wp_is2 (y := zX6_shortest) dX6_shortest_94, wp_inc3 (y := zX6_shortest) (nI 1) ki_1 dX6_shortest_95, wp_goto (y := zX6_shortest) 4 (by decide) dX6_shortest_98, O.oc, O.g0, O.g1, O.g2, O.g3, O.g4, O.g5, O.g6, O.g7, O.g9, O.g10, O.g11, O.p0, O.p7, O.a1, O.a2, O.a3, O.a4, O.a5, O.a6, O.a7, O.a8, O.a9, bI_t, w0, rl, rb, hg']
            have := ih (i + 1) (some (wI i)) (.int (nI 1)) (by omega) (fun w hw => by cases hw; exact hc.1)
            rw [wo_s, iv] at this
            exact this
          · have hg' : (ln M b ≤ ln M (wI i)) = True := i_le hg
            have e : shg M c i (some b) = some b := by unfold shg; rw [if_pos hc]; exact if_neg hg
            rw [e]
            simp (disch := first | omega | assumption) only [mm_op_some, true_and, and_true, mm_rc_some, mm_rc_none, pk_mul, nI_add, mm_in_t, nI_clamp, ok0, ok1, ok2, ok3, ok4, n1_0, n0_0, nI_le_, nI_lt_, if_true, if_false, not_true, not_false_eq_true, ce_lt, ce_cl, hf_lt, hf_cl, wp_il4 (y := zX6_shortest) dX6_shortest_56, wp_if_eq (y := zX6_shortest) 93 (by decide) dX6_shortest_58, wp_il2 (y := zX6_shortest) dX6_shortest_61, wp_iconst (y := zX6_shortest) ((-1)) ki_m1 dX6_shortest_62, wp_icmp_eq (y := zX6_shortest) 89 (by decide) dX6_shortest_63, wp_al0 (y := zX6_shortest) dX6_shortest_66, wp_getf (y := zX6_shortest) kF6_9 dX6_shortest_67, wp_sipush (y := zX6_shortest) (nI 1456) ks_1456 dX6_shortest_70, wp_il3 (y := zX6_shortest) dX6_shortest_73, wp_iadd (y := zX6_shortest) dX6_shortest_74, wp_iald (y := zX6_shortest) dX6_shortest_75, wp_al0 (y := zX6_shortest) dX6_shortest_76, wp_getf (y := zX6_shortest) kF6_9 dX6_shortest_77, wp_sipush (y := zX6_shortest) (nI 1456) ks_1456 dX6_shortest_80, wp_il2 (y := zX6_shortest) dX6_shortest_83, wp_iadd (y := zX6_shortest) dX6_shortest_84, wp_iald (y := zX6_shortest) dX6_shortest_85, wp_icmp_ge (y := zX6_shortest) 93 (by decide) dX6_shortest_86, wp_il2 (y := zX6_shortest) dX6_shortest_93, wp_is2 (y := zX6_shortest) dX6_shortest_94, wp_inc3 (y := zX6_shortest) (nI 1) ki_1 dX6_shortest_95, wp_goto (y := zX6_shortest) 4 (by decide) dX6_shortest_98, O.oc, O.g0, O.g1, O.g2, O.g3, O.g4, O.g5, O.g6, O.g7, O.g9, O.g10, O.g11, O.p0, O.p7, O.a1, O.a2, O.a3, O.a4, O.a5, O.a6, O.a7, O.a8, O.a9, bI_t, w0, rl, rb, hg']
            exact ih (i + 1) (some b) (.int (nI 1)) (by omega) ha
      · rw [decide_eq_false hc, shg_no hc]
        simp (disch := first | omega | assumption) only [mm_op_some, true_and, and_true, mm_rc_some, mm_rc_none, pk_mul, nI_add, mm_in_t, nI_clamp, ok0, ok1, ok2, ok3, ok4, n1_0, n0_0, nI_le_, nI_lt_, if_true, if_false, not_true, not_false_eq_true, ce_lt, ce_cl, hf_lt, hf_cl, wp_il4 (y := zX6_shortest) dX6_shortest_56, wp_if_eq (y := zX6_shortest) 93 (by decide) dX6_shortest_58, wp_il2 (y := zX6_shortest) dX6_shortest_93, wp_is2 (y := zX6_shortest) dX6_shortest_94, wp_inc3 (y := zX6_shortest) (nI 1) ki_1 dX6_shortest_95, wp_goto (y := zX6_shortest) 4 (by decide) dX6_shortest_98, O.oc, O.g0, O.g1, O.g2, O.g3, O.g4, O.g5, O.g6, O.g7, O.g9, O.g10, O.g11, O.p0, O.p7, O.a1, O.a2, O.a3, O.a4, O.a5, O.a6, O.a7, O.a8, O.a9, bI_f]
        exact ih (i + 1) a _ (by omega) ha
  exact key 144 0 none _ rfl (fun w hw => by cases hw)
theorem m_shrinks (O : MoSh sh m) (R : RepM s μ m) (J : Inv s.1) (hc : 0 < sd s.1 c) : cl sh zX6_shrinks [.ref m, .int (nI c.val)] μ (fun r μ' => r = none ∧ (RepM (gvW s c) μ' m ∧ Inv (gvW s c).1) ∧ RO μ μ' m) := by
  have h3 := J.2.2.2.2.1 c hc
  have bs := J.sdb c
  obtain ⟨f, fh, lf, of⟩ := J.hasf c hc
  have E0 : ∀ Q', cl sh zX6_sidesOf [.ref m, .int (nI c.val)] μ Q' = Q' (some (.int (nI (sd s.1 c)))) μ := fun Q' => m_sidesOf O R.1 c
  show wp sh zX6_shrinks 0 [.ref m, .int (nI c.val), .null] [] μ _
  unfold gvW
  by_cases h : sd s.1 c = 3
  · have h' : (sd s.1 c = 3) = True := eq_true h
    rw [if_neg (by omega), fH_hI fh]
    have E1 : ∀ Q', cl sh zX6_canVanish [.ref m, .int (nI c.val)] μ Q' = Q' (some (.int (bI (canS s.1 c f)))) μ := fun Q' => m_canVanish O R.1 J c f fh
    cases hk : canS s.1 c f with
    | true =>
      rw [hk] at E1
      rw [if_pos rfl]
      simp (disch := first | omega | assumption) only [mm_op_some, true_and, and_true, mm_rc_some, mm_rc_none, pk_mul, nI_add, mm_in_t, nI_clamp, ok0, ok1, ok2, ok3, ok4, n1_0, n0_0, nI_le_, nI_lt_, if_true, if_false, not_true, not_false_eq_true, ce_lt, ce_cl, hf_lt, hf_cl, nI_eq_, wp_al0 (y := zX6_shrinks) dX6_shrinks_0, wp_il1 (y := zX6_shrinks) dX6_shrinks_1, wp_cv1 (y := zX6_shrinks) kM6_115 (by decide) dX6_shrinks_2, (show yo zX6_sidesOf = 6 from rfl), wp_iconst (y := zX6_shrinks) (nI 3) ki_3 dX6_shrinks_5, wp_icmp_ne (y := zX6_shrinks) 24 (by decide) dX6_shrinks_6, wp_al0 (y := zX6_shrinks) dX6_shrinks_9, wp_il1 (y := zX6_shrinks) dX6_shrinks_10, wp_cv1 (y := zX6_shrinks) kM6_160 (by decide) dX6_shrinks_11, (show yo zX6_canVanish = 6 from rfl), wp_if_eq (y := zX6_shrinks) 23 (by decide) dX6_shrinks_14, wp_al0 (y := zX6_shrinks) dX6_shrinks_17, wp_il1 (y := zX6_shrinks) dX6_shrinks_18, wp_cv1 (y := zX6_shrinks) kM6_163 (by decide) dX6_shrinks_19, (show yo zX6_vanishes = 6 from rfl), O.oc, O.g0, O.g1, O.g2, O.g3, O.g4, O.g5, O.g6, O.g7, O.g9, O.g10, O.g11, O.p0, O.p7, O.a1, O.a2, O.a3, O.a4, O.a5, O.a6, O.a7, O.a8, O.a9, E0, E1, bI_t, h']
      refine cl_mono (m_vanishes O R J f fh hk) ?_
      rintro r μ1 ⟨rfl, R1, F1⟩
      simp (disch := first | omega | assumption) only [mm_op_some, true_and, and_true, mm_rc_some, mm_rc_none, pk_mul, nI_add, mm_in_t, nI_clamp, ok0, ok1, ok2, ok3, ok4, n1_0, n0_0, nI_le_, nI_lt_, if_true, if_false, not_true, not_false_eq_true, ce_lt, ce_cl, hf_lt, hf_cl, wp_pop_int (y := zX6_shrinks) dX6_shrinks_22, wp_vret (y := zX6_shrinks) rfl dX6_shrinks_23]
      exact ⟨⟨R1, (J.van fh hk).2⟩, F1⟩
    | false =>
      rw [hk] at E1
      rw [if_neg (by decide)]
      simp (disch := first | omega | assumption) only [mm_op_some, true_and, and_true, mm_rc_some, mm_rc_none, pk_mul, nI_add, mm_in_t, nI_clamp, ok0, ok1, ok2, ok3, ok4, n1_0, n0_0, nI_le_, nI_lt_, if_true, if_false, not_true, not_false_eq_true, ce_lt, ce_cl, hf_lt, hf_cl, nI_eq_, wp_al0 (y := zX6_shrinks) dX6_shrinks_0, wp_il1 (y := zX6_shrinks) dX6_shrinks_1, wp_cv1 (y := zX6_shrinks) kM6_115 (by decide) dX6_shrinks_2, (show yo zX6_sidesOf = 6 from rfl), wp_iconst (y := zX6_shrinks) (nI 3) ki_3 dX6_shrinks_5, wp_icmp_ne (y := zX6_shrinks) 24 (by decide) dX6_shrinks_6, wp_al0 (y := zX6_shrinks) dX6_shrinks_9, wp_il1 (y := zX6_shrinks) dX6_shrinks_10, wp_cv1 (y := zX6_shrinks) kM6_160 (by decide) dX6_shrinks_11, (show yo zX6_canVanish = 6 from rfl), wp_if_eq (y := zX6_shrinks) 23 (by decide) dX6_shrinks_14, wp_vret (y := zX6_shrinks) rfl dX6_shrinks_23, O.oc, O.g0, O.g1, O.g2, O.g3, O.g4, O.g5, O.g6, O.g7, O.g9, O.g10, O.g11, O.p0, O.p7, O.a1, O.a2, O.a3, O.a4, O.a5, O.a6, O.a7, O.a8, O.a9, E0, E1, bI_f, h']
      exact ⟨⟨R, J⟩, RO.refl _ _⟩
  · have h' : (sd s.1 c = 3) = False := eq_false h
    rw [if_pos (by omega)]
    have E1 : ∀ Q', cl sh zX6_shortest [.ref m, .int (nI c.val)] μ Q' = Q' (some (.int (wo (shs s.1 c)))) μ := fun Q' => m_shortest O R.1 J c
    cases hk : shs s.1 c with
    | none =>
      rw [hk] at E1
      have w0 : (wo none = (-1 : Int32)) = True := eq_true rfl
      simp (disch := first | omega | assumption) only [mm_op_some, true_and, and_true, mm_rc_some, mm_rc_none, pk_mul, nI_add, mm_in_t, nI_clamp, ok0, ok1, ok2, ok3, ok4, n1_0, n0_0, nI_le_, nI_lt_, if_true, if_false, not_true, not_false_eq_true, ce_lt, ce_cl, hf_lt, hf_cl, nI_eq_, wp_al0 (y := zX6_shrinks) dX6_shrinks_0, wp_il1 (y := zX6_shrinks) dX6_shrinks_1, wp_cv1 (y := zX6_shrinks) kM6_115 (by decide) dX6_shrinks_2, (show yo zX6_sidesOf = 6 from rfl), wp_iconst (y := zX6_shrinks) (nI 3) ki_3 dX6_shrinks_5, wp_icmp_ne (y := zX6_shrinks) 24 (by decide) dX6_shrinks_6, wp_al0 (y := zX6_shrinks) dX6_shrinks_24, wp_il1 (y := zX6_shrinks) dX6_shrinks_25, wp_cv1 (y := zX6_shrinks) kM6_223 (by decide) dX6_shrinks_26, (show yo zX6_shortest = 6 from rfl), wp_is2 (y := zX6_shrinks) dX6_shrinks_29, wp_il2 (y := zX6_shrinks) dX6_shrinks_30, wp_iconst (y := zX6_shrinks) ((-1)) ki_m1 dX6_shrinks_31, wp_icmp_eq (y := zX6_shrinks) 40 (by decide) dX6_shrinks_32, wp_vret (y := zX6_shrinks) rfl dX6_shrinks_40, O.oc, O.g0, O.g1, O.g2, O.g3, O.g4, O.g5, O.g6, O.g7, O.g9, O.g10, O.g11, O.p0, O.p7, O.a1, O.a2, O.a3, O.a4, O.a5, O.a6, O.a7, O.a8, O.a9, E0, E1, h', w0]
      exact ⟨⟨R, J⟩, RO.refl _ _⟩
    | some w =>
      rw [hk, wo_s] at E1
      obtain ⟨hl, hcn⟩ := shs_some hk
      have w0 : (nI w.val = (-1 : Int32)) = False := nI_m1 (by omega)
      simp (disch := first | omega | assumption) only [mm_op_some, true_and, and_true, mm_rc_some, mm_rc_none, pk_mul, nI_add, mm_in_t, nI_clamp, ok0, ok1, ok2, ok3, ok4, n1_0, n0_0, nI_le_, nI_lt_, if_true, if_false, not_true, not_false_eq_true, ce_lt, ce_cl, hf_lt, hf_cl, nI_eq_, wp_al0 (y := zX6_shrinks) dX6_shrinks_0, wp_il1 (y := zX6_shrinks) dX6_shrinks_1, wp_cv1 (y := zX6_shrinks) kM6_115 (by decide) dX6_shrinks_2, (show yo zX6_sidesOf = 6 from rfl), wp_iconst (y := zX6_shrinks) (nI 3) ki_3 dX6_shrinks_5, wp_icmp_ne (y := zX6_shrinks) 24 (by decide) dX6_shrinks_6, wp_al0 (y := zX6_shrinks) dX6_shrinks_24, wp_il1 (y := zX6_shrinks) dX6_shrinks_25, wp_cv1 (y := zX6_shrinks) kM6_223 (by decide) dX6_shrinks_26, (show yo zX6_shortest = 6 from rfl), wp_is2 (y := zX6_shrinks) dX6_shrinks_29, wp_il2 (y := zX6_shrinks) dX6_shrinks_30, wp_iconst (y := zX6_shrinks) ((-1)) ki_m1 dX6_shrinks_31, wp_icmp_eq (y := zX6_shrinks) 40 (by decide) dX6_shrinks_32, wp_al0 (y := zX6_shrinks) dX6_shrinks_35, wp_il2 (y := zX6_shrinks) dX6_shrinks_36, wp_cv1 (y := zX6_shrinks) kM6_153 (by decide) dX6_shrinks_37, (show yo zX6_swaps = 6 from rfl), O.oc, O.g0, O.g1, O.g2, O.g3, O.g4, O.g5, O.g6, O.g7, O.g9, O.g10, O.g11, O.p0, O.p7, O.a1, O.a2, O.a3, O.a4, O.a5, O.a6, O.a7, O.a8, O.a9, E0, E1, h', w0]
      refine cl_mono (m_swaps O R J w hl hcn) ?_
      rintro r μ1 ⟨rfl, R1, F1⟩
      simp (disch := first | omega | assumption) only [mm_op_some, true_and, and_true, mm_rc_some, mm_rc_none, pk_mul, nI_add, mm_in_t, nI_clamp, ok0, ok1, ok2, ok3, ok4, n1_0, n0_0, nI_le_, nI_lt_, if_true, if_false, not_true, not_false_eq_true, ce_lt, ce_cl, hf_lt, hf_cl, wp_vret (y := zX6_shrinks) rfl dX6_shrinks_40]
      exact ⟨⟨R1, J.fl hl hcn⟩, F1⟩
end MSH2
