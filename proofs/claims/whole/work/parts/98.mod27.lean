def cpR (f g : Nat → Int32) (a0 b0 i : Nat) : Nat → Int32 := fun k => if b0 ≤ k ∧ k < b0 + i then f (a0 + (k - b0)) else g k
theorem cpR_0 (f g : Nat → Int32) (a0 b0 : Nat) : cpR f g a0 b0 0 = g := by
  funext k
  unfold cpR
  rw [if_neg (by omega)]
theorem cpR_s (f g : Nat → Int32) (a0 b0 i : Nat) : upd (cpR f g a0 b0 i) (b0 + i) (f (a0 + i)) = cpR f g a0 b0 (i + 1) := by
  funext k
  by_cases z : k = b0 + i
  · rw [z, upd_s]
    unfold cpR
    rw [if_pos (by omega), show b0 + i - b0 = i by omega]
  · rw [upd_n _ _ z]
    unfold cpR
    by_cases y : b0 ≤ k ∧ k < b0 + i
    · rw [if_pos y, if_pos (by omega)]
    · rw [if_neg y, if_neg (by omega)]
theorem mu_id (μ : mm_U) (a : Nat) : mu μ a (μ a) = μ := by
  funext k
  by_cases z : k = a
  · rw [z, mu_s]
  · rw [mu_n _ _ z]
section MCP
variable {sh : mm_Sh} {m : Nat} {M : Ms} {μ : mm_U} {s : Fo} {Q : Option Value → mm_U → Prop}
theorem m_copy {A B LA LB a0 b0 : Nat} (hA : mm_al sh A = LA) (hB : mm_al sh B = LB) (hne : A ≠ B) (ha : a0 + 1786 ≤ LA) (hb : b0 + 1786 ≤ LB) (la : LA < 2 ^ 20) (lb : LB < 2 ^ 20) : cl sh zX6_copy [.ref A, .int (nI a0), .ref B, .int (nI b0)] μ Q = Q none (mu μ B (cpR (μ A) (μ B) a0 b0 1786)) := by
  show wp sh zX6_copy 0 [.ref A, .int (nI a0), .ref B, .int (nI b0), .null] [] μ Q = _
  have key : ∀ d i, i + d = 1786 → wp sh zX6_copy 3 [.ref A, .int (nI a0), .ref B, .int (nI b0), .int (nI i)] [] (mu μ B (cpR (μ A) (μ B) a0 b0 i)) Q = Q none (mu μ B (cpR (μ A) (μ B) a0 b0 1786)) := by
    intro d
    induction d with
    | zero =>
      intro i hi
      have e : i = 1786 := by omega
      rw [e, wp_il4 (y := zX6_copy) dX6_copy_3]
      simp (disch := first | omega | assumption) only [mm_op_some, true_and, and_true, mm_rc_some, mm_rc_none, pk_mul, nI_add, mm_in_t, nI_clamp, ok0, ok1, ok2, ok3, ok4, n1_0, n0_0, nI_le_, nI_lt_, if_true, if_false, not_true, not_false_eq_true, ce_lt, ce_cl, hf_lt, hf_cl, wp_sipush (y := zX6_copy) (nI 1786) ks_1786 dX6_copy_5, wp_icmp_ge (y := zX6_copy) 29 (by decide) dX6_copy_8, wp_vret (y := zX6_copy) rfl dX6_copy_29, Nat.le_refl]
    | succ d ih =>
      intro i hi
      have h9 : (1786 ≤ i) = False := eq_false (by omega)
      have e1 : mu μ B (cpR (μ A) (μ B) a0 b0 i) A = μ A := mu_n _ _ hne
      rw [wp_il4 (y := zX6_copy) dX6_copy_3]
      simp (disch := first | omega | assumption) only [mm_op_some, true_and, and_true, mm_rc_some, mm_rc_none, pk_mul, nI_add, mm_in_t, nI_clamp, ok0, ok1, ok2, ok3, ok4, n1_0, n0_0, nI_le_, nI_lt_, if_true, if_false, not_true, not_false_eq_true, ce_lt, ce_cl, hf_lt, hf_cl, wp_sipush (y := zX6_copy) (nI 1786) ks_1786 dX6_copy_5, wp_icmp_ge (y := zX6_copy) 29 (by decide) dX6_copy_8, wp_al2 (y := zX6_copy) dX6_copy_11, wp_il3 (y := zX6_copy) dX6_copy_12, wp_il4 (y := zX6_copy) dX6_copy_13, wp_iadd (y := zX6_copy) dX6_copy_15, wp_al0 (y := zX6_copy) dX6_copy_16, wp_il1 (y := zX6_copy) dX6_copy_17, wp_il4 (y := zX6_copy) dX6_copy_18, wp_iadd (y := zX6_copy) dX6_copy_20, wp_iald (y := zX6_copy) dX6_copy_21, wp_iast (y := zX6_copy) dX6_copy_22, wp_inc4 (y := zX6_copy) (nI 1) ki_1 dX6_copy_23, wp_goto (y := zX6_copy) 3 (by decide) dX6_copy_26, h9, hA, hB, e1, mu_s, mu_mu, cpR_s]
      exact ih (i + 1) (by omega)
  have k0 := key 1786 0 (by omega)
  rw [cpR_0, mu_id] at k0
  simp (disch := first | omega | assumption) only [mm_op_some, true_and, and_true, mm_rc_some, mm_rc_none, pk_mul, nI_add, mm_in_t, nI_clamp, ok0, ok1, ok2, ok3, ok4, n1_0, n0_0, nI_le_, nI_lt_, if_true, if_false, not_true, not_false_eq_true, ce_lt, ce_cl, hf_lt, hf_cl, wp_iconst (y := zX6_copy) (nI 0) ki_0 dX6_copy_0, wp_is4 (y := zX6_copy) dX6_copy_1]
  exact k0
/-- a thought begins: the row is laid aside -/
theorem m_think (O : MoSh sh m) : cl sh zX6_think [.ref m] μ Q = Q none (mu μ (m + 2) (cpR (μ (m + 1)) (μ (m + 2)) 0 0 1786)) := by
  have E : ∀ Q', cl sh zX6_copy [.ref (m + 1), .int (nI 0), .ref (m + 2), .int (nI 0)] μ Q' = Q' none (mu μ (m + 2) (cpR (μ (m + 1)) (μ (m + 2)) 0 0 1786)) := fun Q' => m_copy O.a1 O.a2 (by omega) (by omega) (by omega) (by omega) (by omega)
  show wp sh zX6_think 0 [.ref m] [] μ Q = _
  simp (disch := first | omega | assumption) only [mm_op_some, true_and, and_true, mm_rc_some, mm_rc_none, pk_mul, nI_add, mm_in_t, nI_clamp, ok0, ok1, ok2, ok3, ok4, n1_0, n0_0, nI_le_, nI_lt_, if_true, if_false, not_true, not_false_eq_true, ce_lt, ce_cl, hf_lt, hf_cl, wp_al0 (y := zX6_think) dX6_think_0, wp_getf (y := zX6_think) kF6_9 dX6_think_1, wp_iconst (y := zX6_think) (nI 0) ki_0 dX6_think_4, wp_al0 (y := zX6_think) dX6_think_5, wp_getf (y := zX6_think) kF6_15 dX6_think_6, wp_iconst (y := zX6_think) (nI 0) ki_0 dX6_think_9, wp_cs_riri (y := zX6_think) kM6_52 (by decide) dX6_think_10, wp_vret (y := zX6_think) rfl dX6_think_13, O.oc, O.g0, O.g1, O.g2, O.g3, O.g4, O.g5, O.g6, O.g7, O.g9, O.g10, O.g11, O.p0, O.p7, O.a1, O.a2, O.a3, O.a4, O.a5, O.a6, O.a7, O.a8, O.a9, E]
theorem m_endThought (O : MoSh sh m) : cl sh zX6_endThought [.ref m] μ Q = Q none (mu μ (m + 1) (cpR (μ (m + 2)) (μ (m + 1)) 0 0 1786)) := by
  have E : ∀ Q', cl sh zX6_copy [.ref (m + 2), .int (nI 0), .ref (m + 1), .int (nI 0)] μ Q' = Q' none (mu μ (m + 1) (cpR (μ (m + 2)) (μ (m + 1)) 0 0 1786)) := fun Q' => m_copy O.a2 O.a1 (by omega) (by omega) (by omega) (by omega) (by omega)
  show wp sh zX6_endThought 0 [.ref m] [] μ Q = _
  simp (disch := first | omega | assumption) only [mm_op_some, true_and, and_true, mm_rc_some, mm_rc_none, pk_mul, nI_add, mm_in_t, nI_clamp, ok0, ok1, ok2, ok3, ok4, n1_0, n0_0, nI_le_, nI_lt_, if_true, if_false, not_true, not_false_eq_true, ce_lt, ce_cl, hf_lt, hf_cl, wp_al0 (y := zX6_endThought) dX6_endThought_0, wp_getf (y := zX6_endThought) kF6_15 dX6_endThought_1, wp_iconst (y := zX6_endThought) (nI 0) ki_0 dX6_endThought_4, wp_al0 (y := zX6_endThought) dX6_endThought_5, wp_getf (y := zX6_endThought) kF6_9 dX6_endThought_6, wp_iconst (y := zX6_endThought) (nI 0) ki_0 dX6_endThought_9, wp_cs_riri (y := zX6_endThought) kM6_52 (by decide) dX6_endThought_10, wp_vret (y := zX6_endThought) rfl dX6_endThought_13, O.oc, O.g0, O.g1, O.g2, O.g3, O.g4, O.g5, O.g6, O.g7, O.g9, O.g10, O.g11, O.p0, O.p7, O.a1, O.a2, O.a3, O.a4, O.a5, O.a6, O.a7, O.a8, O.a9, E]
end MCP
