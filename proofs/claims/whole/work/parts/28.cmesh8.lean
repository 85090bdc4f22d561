section CM8
variable {sh : mm_Sh} {b : Nat} {M : Ms} {μ : mm_U} {Q : Option Value → mm_U → Prop}
/-- a neighbour loses a side, whose wall goes -/
def shS (M : Ms) (u : Hf) : Ms := sLv (sSd (unM M u) (ow M u) (sd M (ow M u) - 1)) (wl u) false
/-- a wall of a cell -/
def tch (M : Ms) (c : Ce) (w : Wa) : Prop := lv M w = true ∧ (ow M (h0 w) = c ∨ ow M (h1 w) = c)
theorem sk_shrink (S : MeshSh sh b) (R : RepC M μ b) (c : Ce) {i : Nat} (hi : i < 144) (hn : ¬ tch M c (wI i)) (hv : Int32) (v4 v5 : Value) : wp sh zX2_shrink 4 [.ref b, .int (nI c.val), .int hv, .int (nI i), v4, v5] [] μ Q = wp sh zX2_shrink 4 [.ref b, .int (nI c.val), .int hv, .int (nI (i + 1)), v4, v5] [] μ Q := by
  rw [wp_il3 (y := zX2_shrink) dX2_shrink_4]
  have h9 : ¬ 144 ≤ i := by omega
  by_cases hc : lv M (wI i) = true
  · have r0 := (R.1 (h0 (wI i)) (by rw [wl_h0]; exact hc)).1
    have r1 := (R.1 (h1 (wI i)) (by rw [wl_h1]; exact hc)).1
    rw [h0_val, wI_lt hi] at r0
    rw [h1_val, wI_lt hi] at r1
    have s1 : ¬ ow M (h0 (wI i)) = c := fun q => hn ⟨hc, Or.inl q⟩
    have s2 : ¬ ow M (h1 (wI i)) = c := fun q => hn ⟨hc, Or.inr q⟩
    have hc9 := c.isLt
    simp (disch := first | omega | assumption) only [wp_sipush (y := zX2_shrink) (nI 144) ks_144 dX2_shrink_5, wp_icmp_ge (y := zX2_shrink) 115 (by decide) dX2_shrink_8, wp_al0 (y := zX2_shrink) dX2_shrink_11, wp_il3 (y := zX2_shrink) dX2_shrink_12, wp_cv1 (y := zX2_shrink) kM2_91 (by decide) dX2_shrink_13, (show yo zX2_hasWall = 2 from rfl), wp_if_eq (y := zX2_shrink) 109 (by decide) dX2_shrink_16, wp_al0 (y := zX2_shrink) dX2_shrink_19, wp_getf (y := zX2_shrink) kF2_9 dX2_shrink_20, wp_iconst (y := zX2_shrink) (nI 2) ki_2 dX2_shrink_23, wp_il3 (y := zX2_shrink) dX2_shrink_24, wp_imul (y := zX2_shrink) dX2_shrink_25, wp_iald (y := zX2_shrink) dX2_shrink_26, wp_il1 (y := zX2_shrink) dX2_shrink_27, wp_icmp_eq (y := zX2_shrink) 45 (by decide) dX2_shrink_28, wp_al0 (y := zX2_shrink) dX2_shrink_31, wp_getf (y := zX2_shrink) kF2_9 dX2_shrink_32, wp_iconst (y := zX2_shrink) (nI 2) ki_2 dX2_shrink_35, wp_il3 (y := zX2_shrink) dX2_shrink_36, wp_imul (y := zX2_shrink) dX2_shrink_37, wp_iconst (y := zX2_shrink) (nI 1) ki_1 dX2_shrink_38, wp_iadd (y := zX2_shrink) dX2_shrink_39, wp_iald (y := zX2_shrink) dX2_shrink_40, wp_il1 (y := zX2_shrink) dX2_shrink_41, wp_icmp_ne (y := zX2_shrink) 109 (by decide) dX2_shrink_42, wp_al0 (y := zX2_shrink) dX2_shrink_45, wp_getf (y := zX2_shrink) kF2_9 dX2_shrink_46, wp_iconst (y := zX2_shrink) (nI 2) ki_2 dX2_shrink_49, wp_il3 (y := zX2_shrink) dX2_shrink_50, wp_imul (y := zX2_shrink) dX2_shrink_51, wp_iald (y := zX2_shrink) dX2_shrink_52, wp_il1 (y := zX2_shrink) dX2_shrink_53, wp_icmp_ne (y := zX2_shrink) 65 (by decide) dX2_shrink_54, wp_iconst (y := zX2_shrink) (nI 2) ki_2 dX2_shrink_57, wp_il3 (y := zX2_shrink) dX2_shrink_58, wp_imul (y := zX2_shrink) dX2_shrink_59, wp_iconst (y := zX2_shrink) (nI 1) ki_1 dX2_shrink_60, wp_iadd (y := zX2_shrink) dX2_shrink_61, wp_goto (y := zX2_shrink) 68 (by decide) dX2_shrink_62, wp_iconst (y := zX2_shrink) (nI 2) ki_2 dX2_shrink_65, wp_il3 (y := zX2_shrink) dX2_shrink_66, wp_imul (y := zX2_shrink) dX2_shrink_67, wp_is4 (y := zX2_shrink) dX2_shrink_68, wp_al0 (y := zX2_shrink) dX2_shrink_70, wp_getf (y := zX2_shrink) kF2_9 dX2_shrink_71, wp_il4 (y := zX2_shrink) dX2_shrink_74, wp_iald (y := zX2_shrink) dX2_shrink_76, wp_is5 (y := zX2_shrink) dX2_shrink_77, wp_al0 (y := zX2_shrink) dX2_shrink_79, wp_il2 (y := zX2_shrink) dX2_shrink_80, wp_il5 (y := zX2_shrink) dX2_shrink_81, wp_cv2 (y := zX2_shrink) kM2_104 (by decide) dX2_shrink_83, (show yo zX2_greater = 2 from rfl), wp_is2 (y := zX2_shrink) dX2_shrink_86, wp_al0 (y := zX2_shrink) dX2_shrink_87, wp_il4 (y := zX2_shrink) dX2_shrink_88, wp_cv1 (y := zX2_shrink) kM2_84 (by decide) dX2_shrink_90, (show yo zX2_unlink = 2 from rfl), wp_al0 (y := zX2_shrink) dX2_shrink_93, wp_getf (y := zX2_shrink) kF2_30 dX2_shrink_94, wp_il5 (y := zX2_shrink) dX2_shrink_97, wp_dup2 (y := zX2_shrink) dX2_shrink_99, wp_iald (y := zX2_shrink) dX2_shrink_100, wp_iconst (y := zX2_shrink) (nI 1) ki_1 dX2_shrink_101, wp_isub (y := zX2_shrink) dX2_shrink_102, wp_iast (y := zX2_shrink) dX2_shrink_103, wp_al0 (y := zX2_shrink) dX2_shrink_104, wp_il3 (y := zX2_shrink) dX2_shrink_105, wp_cv1 (y := zX2_shrink) kM2_107 (by decide) dX2_shrink_106, (show yo zX2_dropWall = 2 from rfl), wp_inc3 (y := zX2_shrink) (nI 1) ki_1 dX2_shrink_109, wp_goto (y := zX2_shrink) 4 (by decide) dX2_shrink_112, mm_op_some, true_and, and_true, mm_rc_some, mm_rc_none, nI_xor, tw_xor, pk_mul, nI_add, mm_in_t, nI_clamp, ok0, ok1, ok2, ok3, ok4, n1_0, n0_0, n0_zz, n1_zz, bI_eq0, bI_ne0, bI_zz, nI_le_, nI_lt_, nI_eq_, nI_lt0, nI_ge0, nI_gt0, nI_le0, nI_eq0, m1_lt0, m1_ge0, if_true, if_false, not_true, not_false_eq_true, Classical.not_not, true_or, or_true, false_or, n1_1, k10, Bool.true_eq_false, Bool.false_eq_true, Nat.le_refl, and_self, and_false, false_and, or_self, or_false, hf_lt, ce_lt, wa_lt, hf_cl, ce_cl, wa_cl, ce_vv, hf_vv, wa_vv, i_irr, i_rfl, S.oc, S.g0, S.g1, S.g2, S.g3, S.g4, S.g5, S.g6, S.g7, S.a1, S.a2, S.a3, S.a4, S.a5, S.a6, S.a7, S.a8, h9, c_hasWall1 S R, r0, r1, s1, s2]
  · simp (disch := first | omega | assumption) only [wp_sipush (y := zX2_shrink) (nI 144) ks_144 dX2_shrink_5, wp_icmp_ge (y := zX2_shrink) 115 (by decide) dX2_shrink_8, wp_al0 (y := zX2_shrink) dX2_shrink_11, wp_il3 (y := zX2_shrink) dX2_shrink_12, wp_cv1 (y := zX2_shrink) kM2_91 (by decide) dX2_shrink_13, (show yo zX2_hasWall = 2 from rfl), wp_if_eq (y := zX2_shrink) 109 (by decide) dX2_shrink_16, wp_al0 (y := zX2_shrink) dX2_shrink_19, wp_getf (y := zX2_shrink) kF2_9 dX2_shrink_20, wp_iconst (y := zX2_shrink) (nI 2) ki_2 dX2_shrink_23, wp_il3 (y := zX2_shrink) dX2_shrink_24, wp_imul (y := zX2_shrink) dX2_shrink_25, wp_iald (y := zX2_shrink) dX2_shrink_26, wp_il1 (y := zX2_shrink) dX2_shrink_27, wp_icmp_eq (y := zX2_shrink) 45 (by decide) dX2_shrink_28, wp_al0 (y := zX2_shrink) dX2_shrink_31, wp_getf (y := zX2_shrink) kF2_9 dX2_shrink_32, wp_iconst (y := zX2_shrink) (nI 2) ki_2 dX2_shrink_35, wp_il3 (y := zX2_shrink) dX2_shrink_36, wp_imul (y := zX2_shrink) dX2_shrink_37, wp_iconst (y := zX2_shrink) (nI 1) ki_1 dX2_shrink_38, wp_iadd (y := zX2_shrink) dX2_shrink_39, wp_iald (y := zX2_shrink) dX2_shrink_40, wp_il1 (y := zX2_shrink) dX2_shrink_41, wp_icmp_ne (y := zX2_shrink) 109 (by decide) dX2_shrink_42, wp_al0 (y := zX2_shrink) dX2_shrink_45, wp_getf (y := zX2_shrink) kF2_9 dX2_shrink_46, wp_iconst (y := zX2_shrink) (nI 2) ki_2 dX2_shrink_49, wp_il3 (y := zX2_shrink) dX2_shrink_50, wp_imul (y := zX2_shrink) dX2_shrink_51, wp_iald (y := zX2_shrink) dX2_shrink_52, wp_il1 (y := zX2_shrink) dX2_shrink_53, wp_icmp_ne (y := zX2_shrink) 65 (by decide) dX2_shrink_54, wp_iconst (y := zX2_shrink) (nI 2) ki_2 dX2_shrink_57, wp_il3 (y := zX2_shrink) dX2_shrink_58, wp_imul (y := zX2_shrink) dX2_shrink_59, wp_iconst (y := zX2_shrink) (nI 1) ki_1 dX2_shrink_60, wp_iadd (y := zX2_shrink) dX2_shrink_61, wp_goto (y := zX2_shrink) 68 (by decide) dX2_shrink_62, wp_iconst (y := zX2_shrink) (nI 2) ki_2 dX2_shrink_65, wp_il3 (y := zX2_shrink) dX2_shrink_66, wp_imul (y := zX2_shrink) dX2_shrink_67, wp_is4 (y := zX2_shrink) dX2_shrink_68, wp_al0 (y := zX2_shrink) dX2_shrink_70, wp_getf (y := zX2_shrink) kF2_9 dX2_shrink_71, wp_il4 (y := zX2_shrink) dX2_shrink_74, wp_iald (y := zX2_shrink) dX2_shrink_76, wp_is5 (y := zX2_shrink) dX2_shrink_77, wp_al0 (y := zX2_shrink) dX2_shrink_79, wp_il2 (y := zX2_shrink) dX2_shrink_80, wp_il5 (y := zX2_shrink) dX2_shrink_81, wp_cv2 (y := zX2_shrink) kM2_104 (by decide) dX2_shrink_83, (show yo zX2_greater = 2 from rfl), wp_is2 (y := zX2_shrink) dX2_shrink_86, wp_al0 (y := zX2_shrink) dX2_shrink_87, wp_il4 (y := zX2_shrink) dX2_shrink_88, wp_cv1 (y := zX2_shrink) kM2_84 (by decide) dX2_shrink_90, (show yo zX2_unlink = 2 from rfl), wp_al0 (y := zX2_shrink) dX2_shrink_93, wp_getf (y := zX2_shrink) kF2_30 dX2_shrink_94, wp_il5 (y := zX2_shrink) dX2_shrink_97, wp_dup2 (y := zX2_shrink) dX2_shrink_99, wp_iald (y := zX2_shrink) dX2_shrink_100, wp_iconst (y := zX2_shrink) (nI 1) ki_1 dX2_shrink_101, wp_isub (y := zX2_shrink) dX2_shrink_102, wp_iast (y := zX2_shrink) dX2_shrink_103, wp_al0 (y := zX2_shrink) dX2_shrink_104, wp_il3 (y := zX2_shrink) dX2_shrink_105, wp_cv1 (y := zX2_shrink) kM2_107 (by decide) dX2_shrink_106, (show yo zX2_dropWall = 2 from rfl), wp_inc3 (y := zX2_shrink) (nI 1) ki_1 dX2_shrink_109, wp_goto (y := zX2_shrink) 4 (by decide) dX2_shrink_112, mm_op_some, true_and, and_true, mm_rc_some, mm_rc_none, nI_xor, tw_xor, pk_mul, nI_add, mm_in_t, nI_clamp, ok0, ok1, ok2, ok3, ok4, n1_0, n0_0, n0_zz, n1_zz, bI_eq0, bI_ne0, bI_zz, nI_le_, nI_lt_, nI_eq_, nI_lt0, nI_ge0, nI_gt0, nI_le0, nI_eq0, m1_lt0, m1_ge0, if_true, if_false, not_true, not_false_eq_true, Classical.not_not, true_or, or_true, false_or, n1_1, k10, Bool.true_eq_false, Bool.false_eq_true, Nat.le_refl, and_self, and_false, false_and, or_self, or_false, hf_lt, ce_lt, wa_lt, hf_cl, ce_cl, wa_cl, ce_vv, hf_vv, wa_vv, i_irr, i_rfl, S.oc, S.g0, S.g1, S.g2, S.g3, S.g4, S.g5, S.g6, S.g7, S.a1, S.a2, S.a3, S.a4, S.a5, S.a6, S.a7, S.a8, h9, c_hasWall0 S R]
theorem st_shrink (S : MeshSh sh b) (R : RepC M μ b) (B : SdB M) (c : Ce) (u : Hf) (hl : lv M (wl u) = true) (ht : ow M (tw u) = c) (hu : ow M u ≠ c) (hs : 0 < sd M (ow M u)) (hv hv' : Int32) (hg : ∀ Q', cl sh zX2_greater [.ref b, .int hv, .int (nI (ow M u).val)] μ Q' = Q' (some (.int hv')) μ) (v4 v5 : Value)
    (kk : ∀ μ', RepC (shS M u) μ' b → Fr μ μ' b → wp sh zX2_shrink 4 [.ref b, .int (nI c.val), .int hv', .int (nI ((wl u).val + 1)), .int (nI u.val), .int (nI (ow M u).val)] [] μ' Q) :
    wp sh zX2_shrink 4 [.ref b, .int (nI c.val), .int hv, .int (nI (wl u).val), v4, v5] [] μ Q := by
  have hw := (wl u).isLt
  have h9 : ¬ 144 ≤ (wl u).val := by omega
  have lw : lv M (wI (wl u).val) = true := by rw [wI_val]; exact hl
  have l0 : lv M (wl (h0 (wl u))) = true := by rw [wl_h0]; exact hl
  have l1 : lv M (wl (h1 (wl u))) = true := by rw [wl_h1]; exact hl
  have r0 := (R.1 (h0 (wl u)) l0).1
  have r1 := (R.1 (h1 (wl u)) l1).1
  rw [h0_val] at r0
  rw [h1_val] at r1
  have ru := (R.1 u hl).1
  have rs := R.2.2.2.1 (ow M u)
  have bs := B (ow M u)
  have p1 : nI (sd M (ow M u)) - nI 1 = nI (sd M (ow M u) - 1) := pk_sub (by omega)
  have fin : ∀ μ1, RepC (unM M u) μ1 b → Fr μ μ1 b → wp sh zX2_shrink 93 [.ref b, .int (nI c.val), .int hv', .int (nI (wl u).val), .int (nI u.val), .int (nI (ow M u).val)] [] μ1 Q := by
    intro μ1 R1 F1
    have q2 : μ1 (b + 7) (ow M u).val = nI (sd M (ow M u)) := R1.2.2.2.1 (ow M u)
    simp (disch := first | omega | assumption) only [wp_al0 (y := zX2_shrink) dX2_shrink_93, wp_getf (y := zX2_shrink) kF2_30 dX2_shrink_94, wp_il5 (y := zX2_shrink) dX2_shrink_97, wp_dup2 (y := zX2_shrink) dX2_shrink_99, wp_iald (y := zX2_shrink) dX2_shrink_100, wp_iconst (y := zX2_shrink) (nI 1) ki_1 dX2_shrink_101, wp_isub (y := zX2_shrink) dX2_shrink_102, wp_iast (y := zX2_shrink) dX2_shrink_103, wp_al0 (y := zX2_shrink) dX2_shrink_104, wp_il3 (y := zX2_shrink) dX2_shrink_105, wp_cv1 (y := zX2_shrink) kM2_107 (by decide) dX2_shrink_106, (show yo zX2_dropWall = 2 from rfl), mm_op_some, true_and, and_true, mm_rc_some, mm_rc_none, nI_xor, tw_xor, pk_mul, nI_add, mm_in_t, nI_clamp, ok0, ok1, ok2, ok3, ok4, n1_0, n0_0, n0_zz, n1_zz, bI_eq0, bI_ne0, bI_zz, nI_le_, nI_lt_, nI_eq_, nI_lt0, nI_ge0, nI_gt0, nI_le0, nI_eq0, m1_lt0, m1_ge0, if_true, if_false, not_true, not_false_eq_true, Classical.not_not, true_or, or_true, false_or, n1_1, k10, Bool.true_eq_false, Bool.false_eq_true, Nat.le_refl, and_self, and_false, false_and, or_self, or_false, hf_lt, ce_lt, wa_lt, hf_cl, ce_cl, wa_cl, ce_vv, hf_vv, wa_vv, i_irr, i_rfl, S.oc, S.g0, S.g1, S.g2, S.g3, S.g4, S.g5, S.g6, S.g7, S.a1, S.a2, S.a3, S.a4, S.a5, S.a6, S.a7, S.a8, q2, p1]
    have R2 := R1.wSd (ow M u) (sd M (ow M u) - 1) (fun _ => R1.2.2.2.2 _ hs)
    refine cl_mono (c_dropWall S R2 (wl u)) ?_
    rintro r μ2 ⟨rfl, R3, F3⟩
    simp (disch := first | omega | assumption) only [wp_inc3 (y := zX2_shrink) (nI 1) ki_1 dX2_shrink_109, wp_goto (y := zX2_shrink) 4 (by decide) dX2_shrink_112, mm_op_some, true_and, and_true, mm_rc_some, mm_rc_none, nI_xor, tw_xor, pk_mul, nI_add, mm_in_t, nI_clamp, ok0, ok1, ok2, ok3, ok4, n1_0, n0_0, n0_zz, n1_zz, bI_eq0, bI_ne0, bI_zz, nI_le_, nI_lt_, nI_eq_, nI_lt0, nI_ge0, nI_gt0, nI_le0, nI_eq0, m1_lt0, m1_ge0, if_true, if_false, not_true, not_false_eq_true, Classical.not_not, true_or, or_true, false_or, n1_1, k10, Bool.true_eq_false, Bool.false_eq_true, Nat.le_refl, and_self, and_false, false_and, or_self, or_false, hf_lt, ce_lt, wa_lt, hf_cl, ce_cl, wa_cl, ce_vv, hf_vv, wa_vv, i_irr, i_rfl, S.oc, S.g0, S.g1, S.g2, S.g3, S.g4, S.g5, S.g6, S.g7, S.a1, S.a2, S.a3, S.a4, S.a5, S.a6, S.a7, S.a8]
    exact kk μ2 R3 (Fr.trans (F1.mu _ (by omega) (by omega)) F3)
  rw [wp_il3 (y := zX2_shrink) dX2_shrink_4]
  by_cases e : u.val % 2 = 0
  · have e0 : u = h0 (wl u) := Fin.ext (by rw [h0_val, wl_val]; omega)
    have e1 : tw u = h1 (wl u) := by rw [← tw_h0, ← e0]
    have s2 : (ow M (h1 (wl u)) = c) = True := eq_true (by rw [← e1]; exact ht)
    have e2 : 2 * (wl u).val = u.val := by rw [wl_val]; omega
    rw [e2] at r1
    simp (disch := first | omega | assumption) only [wp_sipush (y := zX2_shrink) (nI 144) ks_144 dX2_shrink_5, wp_icmp_ge (y := zX2_shrink) 115 (by decide) dX2_shrink_8, wp_al0 (y := zX2_shrink) dX2_shrink_11, wp_il3 (y := zX2_shrink) dX2_shrink_12, wp_cv1 (y := zX2_shrink) kM2_91 (by decide) dX2_shrink_13, (show yo zX2_hasWall = 2 from rfl), wp_if_eq (y := zX2_shrink) 109 (by decide) dX2_shrink_16, wp_al0 (y := zX2_shrink) dX2_shrink_19, wp_getf (y := zX2_shrink) kF2_9 dX2_shrink_20, wp_iconst (y := zX2_shrink) (nI 2) ki_2 dX2_shrink_23, wp_il3 (y := zX2_shrink) dX2_shrink_24, wp_imul (y := zX2_shrink) dX2_shrink_25, wp_iald (y := zX2_shrink) dX2_shrink_26, wp_il1 (y := zX2_shrink) dX2_shrink_27, wp_icmp_eq (y := zX2_shrink) 45 (by decide) dX2_shrink_28, wp_al0 (y := zX2_shrink) dX2_shrink_31, wp_getf (y := zX2_shrink) kF2_9 dX2_shrink_32, wp_iconst (y := zX2_shrink) (nI 2) ki_2 dX2_shrink_35, wp_il3 (y := zX2_shrink) dX2_shrink_36, wp_imul (y := zX2_shrink) dX2_shrink_37, wp_iconst (y := zX2_shrink) (nI 1) ki_1 dX2_shrink_38, wp_iadd (y := zX2_shrink) dX2_shrink_39, wp_iald (y := zX2_shrink) dX2_shrink_40, wp_il1 (y := zX2_shrink) dX2_shrink_41, wp_icmp_ne (y := zX2_shrink) 109 (by decide) dX2_shrink_42, wp_al0 (y := zX2_shrink) dX2_shrink_45, wp_getf (y := zX2_shrink) kF2_9 dX2_shrink_46, wp_iconst (y := zX2_shrink) (nI 2) ki_2 dX2_shrink_49, wp_il3 (y := zX2_shrink) dX2_shrink_50, wp_imul (y := zX2_shrink) dX2_shrink_51, wp_iald (y := zX2_shrink) dX2_shrink_52, wp_il1 (y := zX2_shrink) dX2_shrink_53, wp_icmp_ne (y := zX2_shrink) 65 (by decide) dX2_shrink_54, wp_iconst (y := zX2_shrink) (nI 2) ki_2 dX2_shrink_57, wp_il3 (y := zX2_shrink) dX2_shrink_58, wp_imul (y := zX2_shrink) dX2_shrink_59, wp_iconst (y := zX2_shrink) (nI 1) ki_1 dX2_shrink_60, wp_iadd (y := zX2_shrink) dX2_shrink_61, wp_goto (y := zX2_shrink) 68 (by decide) dX2_shrink_62, wp_iconst (y := zX2_shrink) (nI 2) ki_2 dX2_shrink_65, wp_il3 (y := zX2_shrink) dX2_shrink_66, wp_imul (y := zX2_shrink) dX2_shrink_67, wp_is4 (y := zX2_shrink) dX2_shrink_68, wp_al0 (y := zX2_shrink) dX2_shrink_70, wp_getf (y := zX2_shrink) kF2_9 dX2_shrink_71, wp_il4 (y := zX2_shrink) dX2_shrink_74, wp_iald (y := zX2_shrink) dX2_shrink_76, wp_is5 (y := zX2_shrink) dX2_shrink_77, wp_al0 (y := zX2_shrink) dX2_shrink_79, wp_il2 (y := zX2_shrink) dX2_shrink_80, wp_il5 (y := zX2_shrink) dX2_shrink_81, wp_cv2 (y := zX2_shrink) kM2_104 (by decide) dX2_shrink_83, (show yo zX2_greater = 2 from rfl), wp_is2 (y := zX2_shrink) dX2_shrink_86, wp_al0 (y := zX2_shrink) dX2_shrink_87, wp_il4 (y := zX2_shrink) dX2_shrink_88, wp_cv1 (y := zX2_shrink) kM2_84 (by decide) dX2_shrink_90, (show yo zX2_unlink = 2 from rfl), mm_op_some, true_and, and_true, mm_rc_some, mm_rc_none, nI_xor, tw_xor, pk_mul, nI_add, mm_in_t, nI_clamp, ok0, ok1, ok2, ok3, ok4, n1_0, n0_0, n0_zz, n1_zz, bI_eq0, bI_ne0, bI_zz, nI_le_, nI_lt_, nI_eq_, nI_lt0, nI_ge0, nI_gt0, nI_le0, nI_eq0, m1_lt0, m1_ge0, if_true, if_false, not_true, not_false_eq_true, Classical.not_not, true_or, or_true, false_or, n1_1, k10, Bool.true_eq_false, Bool.false_eq_true, Nat.le_refl, and_self, and_false, false_and, or_self, or_false, hf_lt, ce_lt, wa_lt, hf_cl, ce_cl, wa_cl, ce_vv, hf_vv, wa_vv, i_irr, i_rfl, S.oc, S.g0, S.g1, S.g2, S.g3, S.g4, S.g5, S.g6, S.g7, S.a1, S.a2, S.a3, S.a4, S.a5, S.a6, S.a7, S.a8, h9, c_hasWall1 S R, r1, hu, s2, e2, ru, hg]
    refine cl_mono (c_unlink S R u hl) ?_
    rintro r μ1 ⟨rfl, R1, F1⟩
    exact fin μ1 R1 F1
  · have e0 : u = h1 (wl u) := Fin.ext (by rw [h1_val, wl_val]; omega)
    have e1 : tw u = h0 (wl u) := by rw [← tw_h1, ← e0]
    have s2 : (ow M (h0 (wl u)) = c) = True := eq_true (by rw [← e1]; exact ht)
    have e2 : 2 * (wl u).val + 1 = u.val := by rw [wl_val]; omega
    simp (disch := first | omega | assumption) only [wp_sipush (y := zX2_shrink) (nI 144) ks_144 dX2_shrink_5, wp_icmp_ge (y := zX2_shrink) 115 (by decide) dX2_shrink_8, wp_al0 (y := zX2_shrink) dX2_shrink_11, wp_il3 (y := zX2_shrink) dX2_shrink_12, wp_cv1 (y := zX2_shrink) kM2_91 (by decide) dX2_shrink_13, (show yo zX2_hasWall = 2 from rfl), wp_if_eq (y := zX2_shrink) 109 (by decide) dX2_shrink_16, wp_al0 (y := zX2_shrink) dX2_shrink_19, wp_getf (y := zX2_shrink) kF2_9 dX2_shrink_20, wp_iconst (y := zX2_shrink) (nI 2) ki_2 dX2_shrink_23, wp_il3 (y := zX2_shrink) dX2_shrink_24, wp_imul (y := zX2_shrink) dX2_shrink_25, wp_iald (y := zX2_shrink) dX2_shrink_26, wp_il1 (y := zX2_shrink) dX2_shrink_27, wp_icmp_eq (y := zX2_shrink) 45 (by decide) dX2_shrink_28, wp_al0 (y := zX2_shrink) dX2_shrink_31, wp_getf (y := zX2_shrink) kF2_9 dX2_shrink_32, wp_iconst (y := zX2_shrink) (nI 2) ki_2 dX2_shrink_35, wp_il3 (y := zX2_shrink) dX2_shrink_36, wp_imul (y := zX2_shrink) dX2_shrink_37, wp_iconst (y := zX2_shrink) (nI 1) ki_1 dX2_shrink_38, wp_iadd (y := zX2_shrink) dX2_shrink_39, wp_iald (y := zX2_shrink) dX2_shrink_40, wp_il1 (y := zX2_shrink) dX2_shrink_41, wp_icmp_ne (y := zX2_shrink) 109 (by decide) dX2_shrink_42, wp_al0 (y := zX2_shrink) dX2_shrink_45, wp_getf (y := zX2_shrink) kF2_9 dX2_shrink_46, wp_iconst (y := zX2_shrink) (nI 2) ki_2 dX2_shrink_49, wp_il3 (y := zX2_shrink) dX2_shrink_50, wp_imul (y := zX2_shrink) dX2_shrink_51, wp_iald (y := zX2_shrink) dX2_shrink_52, wp_il1 (y := zX2_shrink) dX2_shrink_53, wp_icmp_ne (y := zX2_shrink) 65 (by decide) dX2_shrink_54, wp_iconst (y := zX2_shrink) (nI 2) ki_2 dX2_shrink_57, wp_il3 (y := zX2_shrink) dX2_shrink_58, wp_imul (y := zX2_shrink) dX2_shrink_59, wp_iconst (y := zX2_shrink) (nI 1) ki_1 dX2_shrink_60, wp_iadd (y := zX2_shrink) dX2_shrink_61, wp_goto (y := zX2_shrink) 68 (by decide) dX2_shrink_62, wp_iconst (y := zX2_shrink) (nI 2) ki_2 dX2_shrink_65, wp_il3 (y := zX2_shrink) dX2_shrink_66, wp_imul (y := zX2_shrink) dX2_shrink_67, wp_is4 (y := zX2_shrink) dX2_shrink_68, wp_al0 (y := zX2_shrink) dX2_shrink_70, wp_getf (y := zX2_shrink) kF2_9 dX2_shrink_71, wp_il4 (y := zX2_shrink) dX2_shrink_74, wp_iald (y := zX2_shrink) dX2_shrink_76, wp_is5 (y := zX2_shrink) dX2_shrink_77, wp_al0 (y := zX2_shrink) dX2_shrink_79, wp_il2 (y := zX2_shrink) dX2_shrink_80, wp_il5 (y := zX2_shrink) dX2_shrink_81, wp_cv2 (y := zX2_shrink) kM2_104 (by decide) dX2_shrink_83, (show yo zX2_greater = 2 from rfl), wp_is2 (y := zX2_shrink) dX2_shrink_86, wp_al0 (y := zX2_shrink) dX2_shrink_87, wp_il4 (y := zX2_shrink) dX2_shrink_88, wp_cv1 (y := zX2_shrink) kM2_84 (by decide) dX2_shrink_90, (show yo zX2_unlink = 2 from rfl), mm_op_some, true_and, and_true, mm_rc_some, mm_rc_none, nI_xor, tw_xor, pk_mul, nI_add, mm_in_t, nI_clamp, ok0, ok1, ok2, ok3, ok4, n1_0, n0_0, n0_zz, n1_zz, bI_eq0, bI_ne0, bI_zz, nI_le_, nI_lt_, nI_eq_, nI_lt0, nI_ge0, nI_gt0, nI_le0, nI_eq0, m1_lt0, m1_ge0, if_true, if_false, not_true, not_false_eq_true, Classical.not_not, true_or, or_true, false_or, n1_1, k10, Bool.true_eq_false, Bool.false_eq_true, Nat.le_refl, and_self, and_false, false_and, or_self, or_false, hf_lt, ce_lt, wa_lt, hf_cl, ce_cl, wa_cl, ce_vv, hf_vv, wa_vv, i_irr, i_rfl, S.oc, S.g0, S.g1, S.g2, S.g3, S.g4, S.g5, S.g6, S.g7, S.a1, S.a2, S.a3, S.a4, S.a5, S.a6, S.a7, S.a8, h9, c_hasWall1 S R, r0, s2, e2, ru, hg]
    refine cl_mono (c_unlink S R u hl) ?_
    rintro r μ1 ⟨rfl, R1, F1⟩
    exact fin μ1 R1 F1
theorem skips {F : Nat → Prop} : ∀ (d i : Nat), (∀ j, i ≤ j → j < i + d → F j = F (j + 1)) → F i = F (i + d)
  | 0, _, _ => rfl
  | d + 1, i, h => by
    rw [h i (Nat.le_refl _) (by omega), skips d (i + 1) (fun j h1 h2 => h j (by omega) (by omega))]
    congr 1
    omega
/-- VANISH of a cell, by the halves of its neighbours, in the order of the walls -/
def vaH (M : Ms) (u0 u1 u2 : Hf) : Ce := rich M (rich M (ow M u0) (ow M u1)) (ow M u2)
def vaM (M : Ms) (c : Ce) (u0 u1 u2 : Hf) : Ms :=
  let M3 := shS (shS (shS M u0) u1) u2
  sAr (sSd (sAr M3 (vaH M u0 u1 u2) (ar M (vaH M u0 u1 u2) + ar M c)) c 0) c (nI 0)
def VaOk (M : Ms) (c : Ce) (u0 u1 u2 : Hf) : Prop := (wl u0).val < (wl u1).val ∧ (wl u1).val < (wl u2).val ∧ (∀ w, tch M c w ↔ w = wl u0 ∨ w = wl u1 ∨ w = wl u2) ∧ ow M (tw u0) = c ∧ ow M (tw u1) = c ∧ ow M (tw u2) = c ∧ ow M u0 ≠ c ∧ ow M u1 ≠ c ∧ ow M u2 ≠ c ∧ ow M u0 ≠ ow M u1 ∧ ow M u0 ≠ ow M u2 ∧ ow M u1 ≠ ow M u2 ∧ 1 < sd M (ow M u0) ∧ 1 < sd M (ow M u1) ∧ 1 < sd M (ow M u2) ∧ 0 < sd M c
theorem rich_or (M : Ms) (d c : Ce) : rich M d c = d ∨ rich M d c = c := by
  unfold rich
  split
  · exact Or.inr rfl
  · split
    · split
      · exact Or.inr rfl
      · exact Or.inl rfl
    · exact Or.inl rfl
theorem c_shrink (S : MeshSh sh b) (R : RepC M μ b) (B : SdB M) (c : Ce) (u0 u1 u2 : Hf) (ok : VaOk M c u0 u1 u2) : cl sh zX2_shrink [.ref b, .int (nI c.val)] μ (fun r μ' => r = some (.int (nI (vaH M u0 u1 u2).val)) ∧ RepC (vaM M c u0 u1 u2) μ' b ∧ Fr μ μ' b) := by
  obtain ⟨o1, o2, ht, t0, t1, t2, n0, n1, n2, d01, d02, d12, s0, s1, s2, hc⟩ := ok
  have w0 := (wl u0).isLt
  have w1 := (wl u1).isLt
  have w2 := (wl u2).isLt
  have L0 : lv M (wl u0) = true := ((ht _).mpr (Or.inl rfl)).1
  have L1 : lv M (wl u1) = true := ((ht _).mpr (Or.inr (Or.inl rfl))).1
  have L2 : lv M (wl u2) = true := ((ht _).mpr (Or.inr (Or.inr rfl))).1
  have ne01 : wl u1 ≠ wl u0 := fun e => by rw [e] at o1; omega
  have ne02 : wl u2 ≠ wl u0 := fun e => by rw [e] at o2; omega
  have ne12 : wl u2 ≠ wl u1 := fun e => by rw [e] at o2; omega
  show wp sh zX2_shrink 0 [.ref b, .int (nI c.val), .null, .null, .null, .null] [] μ _
  simp (disch := first | omega | assumption) only [wp_iconst (y := zX2_shrink) ((-1)) ki_m1 dX2_shrink_0, wp_is2 (y := zX2_shrink) dX2_shrink_1, wp_iconst (y := zX2_shrink) (nI 0) ki_0 dX2_shrink_2, wp_is3 (y := zX2_shrink) dX2_shrink_3]
  -- to the first wall
  have K0 := skips (F := fun i => wp sh zX2_shrink 4 [.ref b, .int (nI c.val), .int (-1), .int (nI i), .null, .null] [] μ (fun r μ' => r = some (.int (nI (vaH M u0 u1 u2).val)) ∧ RepC (vaM M c u0 u1 u2) μ' b ∧ Fr μ μ' b)) (wl u0).val 0 (fun j h1 h2 => sk_shrink S R c (by omega) (fun q => by
    have := (ht _).mp q
    have jv := wI_lt (i := j) (by omega)
    rcases this with e | e | e <;> (rw [e] at jv; omega)) _ _ _)
  rw [Nat.zero_add] at K0
  rw [K0]
  refine st_shrink S R B c u0 L0 t0 n0 (by omega) _ (nI (ow M u0).val) (fun Q' => c_greaterN S _) _ _ ?_
  intro μ1 R1 F1
  -- the mesh behind the first
  have B1 : SdB (shS M u0) := by
    intro d
    show fu (sd M) (ow M u0) (sd M (ow M u0) - 1) d ≤ 288
    unfold fu
    split
    · have := B (ow M u0); omega
    · exact B d
  have a1 : ∀ w, tch (shS M u0) c w ↔ w = wl u1 ∨ w = wl u2 := by
    intro w
    have e : tch (shS M u0) c w ↔ (fu (lv M) (wl u0) false w = true ∧ (ow M (h0 w) = c ∨ ow M (h1 w) = c)) := Iff.rfl
    rw [e]
    unfold fu
    by_cases q : w = wl u0
    · rw [if_pos q]
      constructor
      · intro z; cases z.1
      · rintro (z | z)
        · exact absurd (z.symm.trans q) ne01
        · exact absurd (z.symm.trans q) ne02
    · rw [if_neg q]
      have := ht w
      unfold tch at this
      rw [this]
      constructor
      · rintro (z | z | z)
        · exact absurd z q
        · exact Or.inl z
        · exact Or.inr z
      · rintro (z | z)
        · exact Or.inr (Or.inl z)
        · exact Or.inr (Or.inr z)
  have z1 : sd (shS M u0) (ow M u1) = sd M (ow M u1) := fu_n _ _ (Ne.symm d01)
  have z2 : sd (shS M u0) (ow M u2) = sd M (ow M u2) := fu_n _ _ (Ne.symm d02)
  have z0 : sd (shS M u0) (ow M u0) = sd M (ow M u0) - 1 := fu_s _ _ _
  have l11 : lv (shS M u0) (wl u1) = true := (fu_n _ _ ne01).trans L1
  have l12 : lv (shS M u0) (wl u2) = true := (fu_n _ _ ne02).trans L2
  have K1 := skips (F := fun i => wp sh zX2_shrink 4 [.ref b, .int (nI c.val), .int (nI (ow M u0).val), .int (nI i), .int (nI u0.val), .int (nI (ow M u0).val)] [] μ1 (fun r μ' => r = some (.int (nI (vaH M u0 u1 u2).val)) ∧ RepC (vaM M c u0 u1 u2) μ' b ∧ Fr μ μ' b)) ((wl u1).val - ((wl u0).val + 1)) ((wl u0).val + 1) (fun j h1 h2 => sk_shrink S R1 c (by omega) (fun q => by
    have := (a1 _).mp q
    have jv := wI_lt (i := j) (by omega)
    rcases this with e | e <;> (rw [e] at jv; omega)) _ _ _)
  rw [show (wl u0).val + 1 + ((wl u1).val - ((wl u0).val + 1)) = (wl u1).val by omega] at K1
  rw [K1]
  have g1 : ∀ Q', cl sh zX2_greater [.ref b, .int (nI (ow M u0).val), .int (nI (ow (shS M u0) u1).val)] μ1 Q' = Q' (some (.int (nI (rich M (ow M u0) (ow M u1)).val))) μ1 := fun Q' => c_greater S R1 (ow M u0) (ow M u1) (by rw [z0]; omega) (by rw [z1]; omega)
  refine st_shrink S R1 B1 c u1 l11 t1 n1 (by show 0 < sd (shS M u0) (ow M u1); rw [z1]; omega) _ _ g1 _ _ ?_
  intro μ2 R2 F2
  have B2 : SdB (shS (shS M u0) u1) := by
    intro d
    show fu (sd (shS M u0)) (ow M u1) (sd (shS M u0) (ow M u1) - 1) d ≤ 288
    unfold fu
    split
    · have := B1 (ow M u1); omega
    · exact B1 d
  have a2 : ∀ w, tch (shS (shS M u0) u1) c w ↔ w = wl u2 := by
    intro w
    have e : tch (shS (shS M u0) u1) c w ↔ (fu (lv (shS M u0)) (wl u1) false w = true ∧ (ow M (h0 w) = c ∨ ow M (h1 w) = c)) := Iff.rfl
    rw [e]
    unfold fu
    by_cases q : w = wl u1
    · rw [if_pos q]
      constructor
      · intro z; cases z.1
      · intro z
        exact absurd (z.symm.trans q) ne12
    · rw [if_neg q]
      have e2 := a1 w
      unfold tch at e2
      constructor
      · intro z
        rcases e2.mp z with z | z
        · exact absurd z q
        · exact z
      · intro z
        exact e2.mpr (Or.inr z)
  have y2 : sd (shS (shS M u0) u1) (ow M u2) = sd M (ow M u2) := (fu_n _ _ (Ne.symm d12)).trans z2
  have y1 : sd (shS (shS M u0) u1) (ow M u1) = sd M (ow M u1) - 1 := (fu_s _ _ _).trans (by rw [show ow (shS M u0) u1 = ow M u1 from rfl, z1])
  have y0 : sd (shS (shS M u0) u1) (ow M u0) = sd M (ow M u0) - 1 := (fu_n _ _ d01).trans z0
  have l22 : lv (shS (shS M u0) u1) (wl u2) = true := (fu_n _ _ ne12).trans l12
  have K2 := skips (F := fun i => wp sh zX2_shrink 4 [.ref b, .int (nI c.val), .int (nI (rich M (ow M u0) (ow M u1)).val), .int (nI i), .int (nI u1.val), .int (nI (ow (shS M u0) u1).val)] [] μ2 (fun r μ' => r = some (.int (nI (vaH M u0 u1 u2).val)) ∧ RepC (vaM M c u0 u1 u2) μ' b ∧ Fr μ μ' b)) ((wl u2).val - ((wl u1).val + 1)) ((wl u1).val + 1) (fun j h1 h2 => sk_shrink S R2 c (by omega) (fun q => by
    have := (a2 _).mp q
    have jv := wI_lt (i := j) (by omega)
    rw [this] at jv; omega) _ _ _)
  rw [show (wl u1).val + 1 + ((wl u2).val - ((wl u1).val + 1)) = (wl u2).val by omega] at K2
  rw [K2]
  have pr : 0 < sd (shS (shS M u0) u1) (rich M (ow M u0) (ow M u1)) := by
    rcases rich_or M (ow M u0) (ow M u1) with e | e
    · rw [e, y0]; omega
    · rw [e, y1]; omega
  have g2 : ∀ Q', cl sh zX2_greater [.ref b, .int (nI (rich M (ow M u0) (ow M u1)).val), .int (nI (ow (shS (shS M u0) u1) u2).val)] μ2 Q' = Q' (some (.int (nI (vaH M u0 u1 u2).val))) μ2 := fun Q' => c_greater S R2 (rich M (ow M u0) (ow M u1)) (ow M u2) pr (by rw [y2]; omega)
  refine st_shrink S R2 B2 c u2 l22 t2 n2 (by show 0 < sd (shS (shS M u0) u1) (ow M u2); rw [y2]; omega) _ _ g2 _ _ ?_
  intro μ3 R3 F3
  have a3 : ∀ w, ¬ tch (shS (shS (shS M u0) u1) u2) c w := by
    intro w z
    have e : tch (shS (shS (shS M u0) u1) u2) c w ↔ (fu (lv (shS (shS M u0) u1)) (wl u2) false w = true ∧ (ow M (h0 w) = c ∨ ow M (h1 w) = c)) := Iff.rfl
    rw [e] at z
    unfold fu at z
    by_cases q : w = wl u2
    · rw [if_pos q] at z; cases z.1
    · rw [if_neg q] at z
      exact q ((a2 w).mp z)
  have K3 := skips (F := fun i => wp sh zX2_shrink 4 [.ref b, .int (nI c.val), .int (nI (vaH M u0 u1 u2).val), .int (nI i), .int (nI u2.val), .int (nI (ow (shS (shS M u0) u1) u2).val)] [] μ3 (fun r μ' => r = some (.int (nI (vaH M u0 u1 u2).val)) ∧ RepC (vaM M c u0 u1 u2) μ' b ∧ Fr μ μ' b)) (144 - ((wl u2).val + 1)) ((wl u2).val + 1) (fun j h1 h2 => sk_shrink S R3 c (by omega) (a3 _) _ _ _)
  rw [show (wl u2).val + 1 + (144 - ((wl u2).val + 1)) = 144 by omega] at K3
  rw [K3]
  have x2 : sd (shS (shS (shS M u0) u1) u2) (ow M u2) = sd M (ow M u2) - 1 := (fu_s _ _ _).trans (by rw [show ow (shS (shS M u0) u1) u2 = ow M u2 from rfl, y2])
  have x1 : sd (shS (shS (shS M u0) u1) u2) (ow M u1) = sd M (ow M u1) - 1 := (fu_n _ _ d12).trans y1
  have x0 : sd (shS (shS (shS M u0) u1) u2) (ow M u0) = sd M (ow M u0) - 1 := (fu_n _ _ d02).trans y0
  have hH : 0 < sd (shS (shS (shS M u0) u1) u2) (vaH M u0 u1 u2) := by
    unfold vaH
    rcases rich_or M (rich M (ow M u0) (ow M u1)) (ow M u2) with e | e
    · rw [e]
      rcases rich_or M (ow M u0) (ow M u1) with e | e
      · rw [e, x0]; omega
      · rw [e, x1]; omega
    · rw [e, x2]; omega
  have hCc : 0 < sd (shS (shS (shS M u0) u1) u2) c := by
    have : sd (shS (shS (shS M u0) u1) u2) c = sd M c := (fu_n _ _ (Ne.symm n2)).trans ((fu_n _ _ (Ne.symm n1)).trans (fu_n _ _ (Ne.symm n0)))
    rw [this]; exact hc
  have q1 : μ3 (b + 8) (vaH M u0 u1 u2).val = ar M (vaH M u0 u1 u2) := R3.2.2.2.2 _ hH
  have q2 : μ3 (b + 8) c.val = ar M c := R3.2.2.2.2 _ hCc
  rw [wp_il3 (y := zX2_shrink) dX2_shrink_4]
  have hvl := (vaH M u0 u1 u2).isLt
  simp (disch := first | omega | assumption) only [wp_sipush (y := zX2_shrink) (nI 144) ks_144 dX2_shrink_5, wp_icmp_ge (y := zX2_shrink) 115 (by decide) dX2_shrink_8, wp_al0 (y := zX2_shrink) dX2_shrink_11, wp_il3 (y := zX2_shrink) dX2_shrink_12, wp_cv1 (y := zX2_shrink) kM2_91 (by decide) dX2_shrink_13, (show yo zX2_hasWall = 2 from rfl), wp_if_eq (y := zX2_shrink) 109 (by decide) dX2_shrink_16, wp_al0 (y := zX2_shrink) dX2_shrink_19, wp_getf (y := zX2_shrink) kF2_9 dX2_shrink_20, wp_iconst (y := zX2_shrink) (nI 2) ki_2 dX2_shrink_23, wp_il3 (y := zX2_shrink) dX2_shrink_24, wp_imul (y := zX2_shrink) dX2_shrink_25, wp_iald (y := zX2_shrink) dX2_shrink_26, wp_il1 (y := zX2_shrink) dX2_shrink_27, wp_icmp_eq (y := zX2_shrink) 45 (by decide) dX2_shrink_28, wp_al0 (y := zX2_shrink) dX2_shrink_31, wp_getf (y := zX2_shrink) kF2_9 dX2_shrink_32, wp_iconst (y := zX2_shrink) (nI 2) ki_2 dX2_shrink_35, wp_il3 (y := zX2_shrink) dX2_shrink_36, wp_imul (y := zX2_shrink) dX2_shrink_37, wp_iconst (y := zX2_shrink) (nI 1) ki_1 dX2_shrink_38, wp_iadd (y := zX2_shrink) dX2_shrink_39, wp_iald (y := zX2_shrink) dX2_shrink_40, wp_il1 (y := zX2_shrink) dX2_shrink_41, wp_icmp_ne (y := zX2_shrink) 109 (by decide) dX2_shrink_42, wp_al0 (y := zX2_shrink) dX2_shrink_45, wp_getf (y := zX2_shrink) kF2_9 dX2_shrink_46, wp_iconst (y := zX2_shrink) (nI 2) ki_2 dX2_shrink_49, wp_il3 (y := zX2_shrink) dX2_shrink_50, wp_imul (y := zX2_shrink) dX2_shrink_51, wp_iald (y := zX2_shrink) dX2_shrink_52, wp_il1 (y := zX2_shrink) dX2_shrink_53, wp_icmp_ne (y := zX2_shrink) 65 (by decide) dX2_shrink_54, wp_iconst (y := zX2_shrink) (nI 2) ki_2 dX2_shrink_57, wp_il3 (y := zX2_shrink) dX2_shrink_58, wp_imul (y := zX2_shrink) dX2_shrink_59, wp_iconst (y := zX2_shrink) (nI 1) ki_1 dX2_shrink_60, wp_iadd (y := zX2_shrink) dX2_shrink_61, wp_goto (y := zX2_shrink) 68 (by decide) dX2_shrink_62, wp_iconst (y := zX2_shrink) (nI 2) ki_2 dX2_shrink_65, wp_il3 (y := zX2_shrink) dX2_shrink_66, wp_imul (y := zX2_shrink) dX2_shrink_67, wp_is4 (y := zX2_shrink) dX2_shrink_68, wp_al0 (y := zX2_shrink) dX2_shrink_70, wp_getf (y := zX2_shrink) kF2_9 dX2_shrink_71, wp_il4 (y := zX2_shrink) dX2_shrink_74, wp_iald (y := zX2_shrink) dX2_shrink_76, wp_is5 (y := zX2_shrink) dX2_shrink_77, wp_al0 (y := zX2_shrink) dX2_shrink_79, wp_il2 (y := zX2_shrink) dX2_shrink_80, wp_il5 (y := zX2_shrink) dX2_shrink_81, wp_cv2 (y := zX2_shrink) kM2_104 (by decide) dX2_shrink_83, (show yo zX2_greater = 2 from rfl), wp_is2 (y := zX2_shrink) dX2_shrink_86, wp_al0 (y := zX2_shrink) dX2_shrink_87, wp_il4 (y := zX2_shrink) dX2_shrink_88, wp_cv1 (y := zX2_shrink) kM2_84 (by decide) dX2_shrink_90, (show yo zX2_unlink = 2 from rfl), wp_al0 (y := zX2_shrink) dX2_shrink_93, wp_getf (y := zX2_shrink) kF2_30 dX2_shrink_94, wp_il5 (y := zX2_shrink) dX2_shrink_97, wp_dup2 (y := zX2_shrink) dX2_shrink_99, wp_iald (y := zX2_shrink) dX2_shrink_100, wp_iconst (y := zX2_shrink) (nI 1) ki_1 dX2_shrink_101, wp_isub (y := zX2_shrink) dX2_shrink_102, wp_iast (y := zX2_shrink) dX2_shrink_103, wp_al0 (y := zX2_shrink) dX2_shrink_104, wp_il3 (y := zX2_shrink) dX2_shrink_105, wp_cv1 (y := zX2_shrink) kM2_107 (by decide) dX2_shrink_106, (show yo zX2_dropWall = 2 from rfl), wp_inc3 (y := zX2_shrink) (nI 1) ki_1 dX2_shrink_109, wp_goto (y := zX2_shrink) 4 (by decide) dX2_shrink_112, wp_il2 (y := zX2_shrink) dX2_shrink_115, wp_if_lt (y := zX2_shrink) 134 (by decide) dX2_shrink_116, wp_al0 (y := zX2_shrink) dX2_shrink_119, wp_getf (y := zX2_shrink) kF2_33 dX2_shrink_120, wp_il2 (y := zX2_shrink) dX2_shrink_123, wp_dup2 (y := zX2_shrink) dX2_shrink_124, wp_iald (y := zX2_shrink) dX2_shrink_125, wp_al0 (y := zX2_shrink) dX2_shrink_126, wp_getf (y := zX2_shrink) kF2_33 dX2_shrink_127, wp_il1 (y := zX2_shrink) dX2_shrink_130, wp_iald (y := zX2_shrink) dX2_shrink_131, wp_iadd (y := zX2_shrink) dX2_shrink_132, wp_iast (y := zX2_shrink) dX2_shrink_133, wp_al0 (y := zX2_shrink) dX2_shrink_134, wp_il1 (y := zX2_shrink) dX2_shrink_135, wp_cv1 (y := zX2_shrink) kM2_110 (by decide) dX2_shrink_136, (show yo zX2_dropCell = 2 from rfl), mm_op_some, true_and, and_true, mm_rc_some, mm_rc_none, nI_xor, tw_xor, pk_mul, nI_add, mm_in_t, nI_clamp, ok0, ok1, ok2, ok3, ok4, n1_0, n0_0, n0_zz, n1_zz, bI_eq0, bI_ne0, bI_zz, nI_le_, nI_lt_, nI_eq_, nI_lt0, nI_ge0, nI_gt0, nI_le0, nI_eq0, m1_lt0, m1_ge0, if_true, if_false, not_true, not_false_eq_true, Classical.not_not, true_or, or_true, false_or, n1_1, k10, Bool.true_eq_false, Bool.false_eq_true, Nat.le_refl, and_self, and_false, false_and, or_self, or_false, hf_lt, ce_lt, wa_lt, hf_cl, ce_cl, wa_cl, ce_vv, hf_vv, wa_vv, i_irr, i_rfl, S.oc, S.g0, S.g1, S.g2, S.g3, S.g4, S.g5, S.g6, S.g7, S.a1, S.a2, S.a3, S.a4, S.a5, S.a6, S.a7, S.a8, q1, q2]
  have R4 := R3.wAr (vaH M u0 u1 u2) (ar M (vaH M u0 u1 u2) + ar M c)
  refine cl_mono (c_dropCell S R4 c) ?_
  rintro r μ4 ⟨rfl, R5, F5⟩
  simp (disch := first | omega | assumption) only [wp_il2 (y := zX2_shrink) dX2_shrink_139, wp_ireti (y := zX2_shrink) rfl dX2_shrink_140, mm_op_some, true_and, and_true, mm_rc_some, mm_rc_none, nI_xor, tw_xor, pk_mul, nI_add, mm_in_t, nI_clamp, ok0, ok1, ok2, ok3, ok4, n1_0, n0_0, n0_zz, n1_zz, bI_eq0, bI_ne0, bI_zz, nI_le_, nI_lt_, nI_eq_, nI_lt0, nI_ge0, nI_gt0, nI_le0, nI_eq0, m1_lt0, m1_ge0, if_true, if_false, not_true, not_false_eq_true, Classical.not_not, true_or, or_true, false_or, n1_1, k10, Bool.true_eq_false, Bool.false_eq_true, Nat.le_refl, and_self, and_false, false_and, or_self, or_false, hf_lt, ce_lt, wa_lt, hf_cl, ce_cl, wa_cl, ce_vv, hf_vv, wa_vv, i_irr, i_rfl, S.oc, S.g0, S.g1, S.g2, S.g3, S.g4, S.g5, S.g6, S.g7, S.a1, S.a2, S.a3, S.a4, S.a5, S.a6, S.a7, S.a8]
  exact ⟨R5, Fr.trans (Fr.mu (F1.trans (F2.trans F3)) _ (by omega) (by omega)) F5⟩
end CM8
