section CM7
variable {sh : mm_Sh} {b : Nat} {M : Ms} {μ : mm_U} {Q : Option Value → mm_U → Prop}
/-- a STEP's areas -/
def groM (M : Ms) (p : Int32) (i : Nat) : Ms := (lv M, ow M, nx M, pv M, rx M, ry M, ln M, sd M, fun c => if c.val < i ∧ 0 < sd M c then ar M c + p * (nI (sd M c) - nI 6) else ar M c)
theorem c_growAreas (S : MeshSh sh b) (R : RepC M μ b) (B : SdB M) (p : Int32) : cl sh zX2_growAreas [.ref b, .int p] μ (fun r μ' => r = none ∧ RepC (groM M p 48) μ' b ∧ Fr μ μ' b) := by
  show wp sh zX2_growAreas 0 [.ref b, .int p, .null] [] μ _
  simp (disch := first | omega | assumption) only [wp_iconst (y := zX2_growAreas) (nI 0) ki_0 dX2_growAreas_0, wp_is2 (y := zX2_growAreas) dX2_growAreas_1]
  refine lpI 48 (fun i μ1 => wp sh zX2_growAreas 2 [.ref b, .int p, .int (nI i)] [] μ1 (fun r μ' => r = none ∧ RepC (groM M p 48) μ' b ∧ Fr μ μ' b)) (fun i μ1 => RepC (groM M p i) μ1 b ∧ Fr μ μ1 b) ?_ ?_ μ ⟨?_, Fr.refl _ _⟩
  · rintro i μ1 hi ⟨R1, F1⟩ kk
    rw [wp_il2 (y := zX2_growAreas) dX2_growAreas_2]
    have h9 : ¬ 48 ≤ i := by omega
    have rs := R1.sdv hi
    have bs := B (cI i)
    have es : sd (groM M p i) (cI i) = sd M (cI i) := rfl
    have iv := cI_lt hi
    by_cases hc : 0 < sd M (cI i)
    · have ra := R1.arv hi hc
      have ea : ar (groM M p i) (cI i) = ar M (cI i) := by
        show (if (cI i).val < i ∧ _ then _ else _) = _
        rw [if_neg (by rw [iv]; omega)]
      have E1 : ∀ Q', cl sh zX2_hasCell [.ref b, .int (nI i)] μ1 Q' = Q' (some (.int (nI 1))) μ1 := fun Q' => c_hasCell1 S R1 B hi hc
      simp (disch := first | omega | assumption) only [wp_bipush (y := zX2_growAreas) (nI 48) kb_48 dX2_growAreas_3, wp_icmp_ge (y := zX2_growAreas) 42 (by decide) dX2_growAreas_5, wp_al0 (y := zX2_growAreas) dX2_growAreas_8, wp_il2 (y := zX2_growAreas) dX2_growAreas_9, wp_cv1 (y := zX2_growAreas) kM2_150 (by decide) dX2_growAreas_10, (show yo zX2_hasCell = 2 from rfl), wp_if_eq (y := zX2_growAreas) 36 (by decide) dX2_growAreas_13, wp_al0 (y := zX2_growAreas) dX2_growAreas_16, wp_getf (y := zX2_growAreas) kF2_33 dX2_growAreas_17, wp_il2 (y := zX2_growAreas) dX2_growAreas_20, wp_dup2 (y := zX2_growAreas) dX2_growAreas_21, wp_iald (y := zX2_growAreas) dX2_growAreas_22, wp_il1 (y := zX2_growAreas) dX2_growAreas_23, wp_al0 (y := zX2_growAreas) dX2_growAreas_24, wp_getf (y := zX2_growAreas) kF2_30 dX2_growAreas_25, wp_il2 (y := zX2_growAreas) dX2_growAreas_28, wp_iald (y := zX2_growAreas) dX2_growAreas_29, wp_bipush (y := zX2_growAreas) (nI 6) kb_6 dX2_growAreas_30, wp_isub (y := zX2_growAreas) dX2_growAreas_32, wp_imul (y := zX2_growAreas) dX2_growAreas_33, wp_iadd (y := zX2_growAreas) dX2_growAreas_34, wp_iast (y := zX2_growAreas) dX2_growAreas_35, wp_inc2 (y := zX2_growAreas) (nI 1) ki_1 dX2_growAreas_36, wp_goto (y := zX2_growAreas) 2 (by decide) dX2_growAreas_39, mm_op_some, true_and, and_true, mm_rc_some, mm_rc_none, nI_xor, tw_xor, pk_mul, nI_add, mm_in_t, nI_clamp, ok0, ok1, ok2, ok3, ok4, n1_0, n0_0, n0_zz, n1_zz, bI_eq0, bI_ne0, bI_zz, nI_le_, nI_lt_, nI_eq_, nI_lt0, nI_ge0, nI_gt0, nI_le0, nI_eq0, m1_lt0, m1_ge0, if_true, if_false, not_true, not_false_eq_true, Classical.not_not, true_or, or_true, false_or, n1_1, k10, Bool.true_eq_false, Bool.false_eq_true, Nat.le_refl, and_self, and_false, false_and, or_self, or_false, hf_lt, ce_lt, wa_lt, hf_cl, ce_cl, wa_cl, ce_vv, hf_vv, wa_vv, i_irr, i_rfl, S.oc, S.g0, S.g1, S.g2, S.g3, S.g4, S.g5, S.g6, S.g7, S.a1, S.a2, S.a3, S.a4, S.a5, S.a6, S.a7, S.a8, h9, rs, ra, es, ea, E1]
      have R2 := R1.wAr (cI i) (ar M (cI i) + p * (nI (sd M (cI i)) - nI 6))
      rw [iv] at R2
      refine kk _ ⟨?_, F1.mu _ (by omega) (by omega)⟩
      have e2 : sAr (groM M p i) (cI i) (ar M (cI i) + p * (nI (sd M (cI i)) - nI 6)) = groM M p (i + 1) := by
        unfold sAr groM
        congr 8
        funext c
        show fu (fun c => _) _ _ c = _
        unfold fu
        by_cases e : c = cI i
        · subst e
          rw [if_pos rfl, if_pos ⟨by rw [iv]; omega, hc⟩]
        · rw [if_neg e]
          have : ¬ c.val = i := fun q => e (Fin.ext (by rw [iv]; exact q))
          show (if c.val < i ∧ 0 < sd M c then ar M c + p * (nI (sd M c) - nI 6) else ar M c) = _
          by_cases h1 : c.val < i ∧ 0 < sd M c
          · rw [if_pos h1, if_pos ⟨by omega, h1.2⟩]
          · rw [if_neg h1, if_neg (fun q => h1 ⟨by omega, q.2⟩)]
      rw [← e2]
      exact R2
    · have E1 : ∀ Q', cl sh zX2_hasCell [.ref b, .int (nI i)] μ1 Q' = Q' (some (.int (nI 0))) μ1 := fun Q' => c_hasCell0 S R1 hi hc
      simp (disch := first | omega | assumption) only [wp_bipush (y := zX2_growAreas) (nI 48) kb_48 dX2_growAreas_3, wp_icmp_ge (y := zX2_growAreas) 42 (by decide) dX2_growAreas_5, wp_al0 (y := zX2_growAreas) dX2_growAreas_8, wp_il2 (y := zX2_growAreas) dX2_growAreas_9, wp_cv1 (y := zX2_growAreas) kM2_150 (by decide) dX2_growAreas_10, (show yo zX2_hasCell = 2 from rfl), wp_if_eq (y := zX2_growAreas) 36 (by decide) dX2_growAreas_13, wp_al0 (y := zX2_growAreas) dX2_growAreas_16, wp_getf (y := zX2_growAreas) kF2_33 dX2_growAreas_17, wp_il2 (y := zX2_growAreas) dX2_growAreas_20, wp_dup2 (y := zX2_growAreas) dX2_growAreas_21, wp_iald (y := zX2_growAreas) dX2_growAreas_22, wp_il1 (y := zX2_growAreas) dX2_growAreas_23, wp_al0 (y := zX2_growAreas) dX2_growAreas_24, wp_getf (y := zX2_growAreas) kF2_30 dX2_growAreas_25, wp_il2 (y := zX2_growAreas) dX2_growAreas_28, wp_iald (y := zX2_growAreas) dX2_growAreas_29, wp_bipush (y := zX2_growAreas) (nI 6) kb_6 dX2_growAreas_30, wp_isub (y := zX2_growAreas) dX2_growAreas_32, wp_imul (y := zX2_growAreas) dX2_growAreas_33, wp_iadd (y := zX2_growAreas) dX2_growAreas_34, wp_iast (y := zX2_growAreas) dX2_growAreas_35, wp_inc2 (y := zX2_growAreas) (nI 1) ki_1 dX2_growAreas_36, wp_goto (y := zX2_growAreas) 2 (by decide) dX2_growAreas_39, mm_op_some, true_and, and_true, mm_rc_some, mm_rc_none, nI_xor, tw_xor, pk_mul, nI_add, mm_in_t, nI_clamp, ok0, ok1, ok2, ok3, ok4, n1_0, n0_0, n0_zz, n1_zz, bI_eq0, bI_ne0, bI_zz, nI_le_, nI_lt_, nI_eq_, nI_lt0, nI_ge0, nI_gt0, nI_le0, nI_eq0, m1_lt0, m1_ge0, if_true, if_false, not_true, not_false_eq_true, Classical.not_not, true_or, or_true, false_or, n1_1, k10, Bool.true_eq_false, Bool.false_eq_true, Nat.le_refl, and_self, and_false, false_and, or_self, or_false, hf_lt, ce_lt, wa_lt, hf_cl, ce_cl, wa_cl, ce_vv, hf_vv, wa_vv, i_irr, i_rfl, S.oc, S.g0, S.g1, S.g2, S.g3, S.g4, S.g5, S.g6, S.g7, S.a1, S.a2, S.a3, S.a4, S.a5, S.a6, S.a7, S.a8, h9, E1]
      refine kk _ ⟨?_, F1⟩
      have e2 : groM M p i = groM M p (i + 1) := by
        unfold groM
        congr 8
        funext c
        by_cases h1 : c.val < i ∧ 0 < sd M c
        · rw [if_pos h1, if_pos ⟨by omega, h1.2⟩]
        · rw [if_neg h1, if_neg]
          rintro ⟨q1, q2⟩
          by_cases e : c.val = i
          · apply hc
            have : c = cI i := Fin.ext (by rw [iv]; exact e)
            rw [← this]; exact q2
          · exact h1 ⟨by omega, q2⟩
      rw [← e2]
      exact R1
  · rintro μ1 ⟨R1, F1⟩
    rw [wp_il2 (y := zX2_growAreas) dX2_growAreas_2]
    simp (disch := first | omega | assumption) only [wp_bipush (y := zX2_growAreas) (nI 48) kb_48 dX2_growAreas_3, wp_icmp_ge (y := zX2_growAreas) 42 (by decide) dX2_growAreas_5, wp_al0 (y := zX2_growAreas) dX2_growAreas_8, wp_il2 (y := zX2_growAreas) dX2_growAreas_9, wp_cv1 (y := zX2_growAreas) kM2_150 (by decide) dX2_growAreas_10, (show yo zX2_hasCell = 2 from rfl), wp_if_eq (y := zX2_growAreas) 36 (by decide) dX2_growAreas_13, wp_al0 (y := zX2_growAreas) dX2_growAreas_16, wp_getf (y := zX2_growAreas) kF2_33 dX2_growAreas_17, wp_il2 (y := zX2_growAreas) dX2_growAreas_20, wp_dup2 (y := zX2_growAreas) dX2_growAreas_21, wp_iald (y := zX2_growAreas) dX2_growAreas_22, wp_il1 (y := zX2_growAreas) dX2_growAreas_23, wp_al0 (y := zX2_growAreas) dX2_growAreas_24, wp_getf (y := zX2_growAreas) kF2_30 dX2_growAreas_25, wp_il2 (y := zX2_growAreas) dX2_growAreas_28, wp_iald (y := zX2_growAreas) dX2_growAreas_29, wp_bipush (y := zX2_growAreas) (nI 6) kb_6 dX2_growAreas_30, wp_isub (y := zX2_growAreas) dX2_growAreas_32, wp_imul (y := zX2_growAreas) dX2_growAreas_33, wp_iadd (y := zX2_growAreas) dX2_growAreas_34, wp_iast (y := zX2_growAreas) dX2_growAreas_35, wp_inc2 (y := zX2_growAreas) (nI 1) ki_1 dX2_growAreas_36, wp_goto (y := zX2_growAreas) 2 (by decide) dX2_growAreas_39, wp_vret (y := zX2_growAreas) rfl dX2_growAreas_42, mm_op_some, true_and, and_true, mm_rc_some, mm_rc_none, nI_xor, tw_xor, pk_mul, nI_add, mm_in_t, nI_clamp, ok0, ok1, ok2, ok3, ok4, n1_0, n0_0, n0_zz, n1_zz, bI_eq0, bI_ne0, bI_zz, nI_le_, nI_lt_, nI_eq_, nI_lt0, nI_ge0, nI_gt0, nI_le0, nI_eq0, m1_lt0, m1_ge0, if_true, if_false, not_true, not_false_eq_true, Classical.not_not, true_or, or_true, false_or, n1_1, k10, Bool.true_eq_false, Bool.false_eq_true, Nat.le_refl, and_self, and_false, false_and, or_self, or_false, hf_lt, ce_lt, wa_lt, hf_cl, ce_cl, wa_cl, ce_vv, hf_vv, wa_vv, i_irr, i_rfl]
    exact ⟨R1, F1⟩
  · have e2 : groM M p 0 = M := by
      unfold groM
      have : (fun c : Ce => if c.val < 0 ∧ 0 < sd M c then ar M c + p * (nI (sd M c) - nI 6) else ar M c) = ar M := by
        funext c
        rw [if_neg (fun q => absurd q.1 (Nat.not_lt_zero _))]
      rw [this]
    rw [e2]
    exact R
/-- a STEP's lengths -/
def strV (M : Ms) (w : Wa) : Int32 := imax (nI 0) (imin ((ln M w + nI (sd M (en M (h0 w)) + sd M (en M (h1 w)))) - nI (sd M (ow M (h0 w)) + sd M (ow M (h1 w)))) (nI 99))
def strM (M : Ms) (i : Nat) : Ms := (lv M, ow M, nx M, pv M, rx M, ry M, fun w => if w.val < i ∧ lv M w = true then strV M w else ln M w, sd M, ar M)
theorem c_stretchWalls (S : MeshSh sh b) (R : RepC M μ b) (B : SdB M) (L : LvN M) : cl sh zX2_stretchWalls [.ref b] μ (fun r μ' => r = none ∧ RepC (strM M 144) μ' b ∧ Fr μ μ' b) := by
  show wp sh zX2_stretchWalls 0 [.ref b, .null, .null, .null, .null] [] μ _
  simp (disch := first | omega | assumption) only [wp_iconst (y := zX2_stretchWalls) (nI 0) ki_0 dX2_stretchWalls_0, wp_is1 (y := zX2_stretchWalls) dX2_stretchWalls_1]
  refine lpI 144 (fun i (a : mm_U × Value × Value × Value) => wp sh zX2_stretchWalls 2 [.ref b, .int (nI i), a.2.1, a.2.2.1, a.2.2.2] [] a.1 (fun r μ' => r = none ∧ RepC (strM M 144) μ' b ∧ Fr μ μ' b)) (fun i a => RepC (strM M i) a.1 b ∧ Fr μ a.1 b) ?_ ?_ (μ, .null, .null, .null) ⟨?_, Fr.refl _ _⟩
  · rintro i ⟨μ1, v1, v2, v3⟩ hi ⟨R1, F1⟩ kk
    dsimp only at R1 F1 ⊢
    rw [wp_il1 (y := zX2_stretchWalls) dX2_stretchWalls_2]
    have h9 : ¬ 144 ≤ i := by omega
    have iv := wI_lt hi
    have L1 : LvN (strM M i) := L
    by_cases hc : lv M (wI i) = true
    · have hc1 : lv (strM M i) (wI i) = true := hc
      have rl := R1.lnv hi hc1
      have el : ln (strM M i) (wI i) = ln M (wI i) := by
        show (if (wI i).val < i ∧ _ then _ else _) = _
        rw [if_neg (by rw [iv]; omega)]
      have E1 : ∀ Q', cl sh zX2_hasWall [.ref b, .int (nI i)] μ1 Q' = Q' (some (.int (nI 1))) μ1 := fun Q' => c_hasWall1 S R1 hi hc1
      have la : lv (strM M i) (wl (h0 (wI i))) = true := by rw [wl_h0]; exact hc
      have lo : lv (strM M i) (wl (h1 (wI i))) = true := by rw [wl_h1]; exact hc
      have E2 : ∀ Q', cl sh zX2_endOf [.ref b, .int (nI (2 * i))] μ1 Q' = Q' (some (.int (nI (en M (h0 (wI i))).val))) μ1 := fun Q' => by have := c_endOf (Q := Q') S R1 (h0 (wI i)) la (L1 _ la); rw [h0_val, iv] at this; exact this
      have E3 : ∀ Q', cl sh zX2_endOf [.ref b, .int (nI (2 * i + 1))] μ1 Q' = Q' (some (.int (nI (en M (h1 (wI i))).val))) μ1 := fun Q' => by have := c_endOf (Q := Q') S R1 (h1 (wI i)) lo (L1 _ lo); rw [h1_val, iv] at this; exact this
      have r0 := (R1.1 (h0 (wI i)) la).1
      have r1 := (R1.1 (h1 (wI i)) lo).1
      rw [h0_val, iv] at r0
      rw [h1_val, iv] at r1
      have eo : ow (strM M i) = ow M := rfl
      rw [eo] at r0 r1
      have s0 : ∀ c : Ce, μ1 (b + 7) c.val = nI (sd M c) := R1.2.2.2.1
      simp (disch := first | omega | assumption) only [wp_sipush (y := zX2_stretchWalls) (nI 144) ks_144 dX2_stretchWalls_3, wp_icmp_ge (y := zX2_stretchWalls) 110 (by decide) dX2_stretchWalls_6, wp_al0 (y := zX2_stretchWalls) dX2_stretchWalls_9, wp_il1 (y := zX2_stretchWalls) dX2_stretchWalls_10, wp_cv1 (y := zX2_stretchWalls) kM2_91 (by decide) dX2_stretchWalls_11, (show yo zX2_hasWall = 2 from rfl), wp_if_eq (y := zX2_stretchWalls) 104 (by decide) dX2_stretchWalls_14, wp_al0 (y := zX2_stretchWalls) dX2_stretchWalls_17, wp_getf (y := zX2_stretchWalls) kF2_30 dX2_stretchWalls_18, wp_al0 (y := zX2_stretchWalls) dX2_stretchWalls_21, wp_iconst (y := zX2_stretchWalls) (nI 2) ki_2 dX2_stretchWalls_22, wp_il1 (y := zX2_stretchWalls) dX2_stretchWalls_23, wp_imul (y := zX2_stretchWalls) dX2_stretchWalls_24, wp_cv1 (y := zX2_stretchWalls) kM2_77 (by decide) dX2_stretchWalls_25, (show yo zX2_endOf = 2 from rfl), wp_iald (y := zX2_stretchWalls) dX2_stretchWalls_28, wp_al0 (y := zX2_stretchWalls) dX2_stretchWalls_29, wp_getf (y := zX2_stretchWalls) kF2_30 dX2_stretchWalls_30, wp_al0 (y := zX2_stretchWalls) dX2_stretchWalls_33, wp_iconst (y := zX2_stretchWalls) (nI 2) ki_2 dX2_stretchWalls_34, wp_il1 (y := zX2_stretchWalls) dX2_stretchWalls_35, wp_imul (y := zX2_stretchWalls) dX2_stretchWalls_36, wp_iconst (y := zX2_stretchWalls) (nI 1) ki_1 dX2_stretchWalls_37, wp_iadd (y := zX2_stretchWalls) dX2_stretchWalls_38, wp_cv1 (y := zX2_stretchWalls) kM2_77 (by decide) dX2_stretchWalls_39, (show yo zX2_endOf = 2 from rfl), wp_iald (y := zX2_stretchWalls) dX2_stretchWalls_42, wp_iadd (y := zX2_stretchWalls) dX2_stretchWalls_43, wp_is2 (y := zX2_stretchWalls) dX2_stretchWalls_44, wp_al0 (y := zX2_stretchWalls) dX2_stretchWalls_45, wp_getf (y := zX2_stretchWalls) kF2_30 dX2_stretchWalls_46, wp_al0 (y := zX2_stretchWalls) dX2_stretchWalls_49, wp_getf (y := zX2_stretchWalls) kF2_9 dX2_stretchWalls_50, wp_iconst (y := zX2_stretchWalls) (nI 2) ki_2 dX2_stretchWalls_53, wp_il1 (y := zX2_stretchWalls) dX2_stretchWalls_54, wp_imul (y := zX2_stretchWalls) dX2_stretchWalls_55, wp_iald (y := zX2_stretchWalls) dX2_stretchWalls_56, wp_iald (y := zX2_stretchWalls) dX2_stretchWalls_57, wp_al0 (y := zX2_stretchWalls) dX2_stretchWalls_58, wp_getf (y := zX2_stretchWalls) kF2_30 dX2_stretchWalls_59, wp_al0 (y := zX2_stretchWalls) dX2_stretchWalls_62, wp_getf (y := zX2_stretchWalls) kF2_9 dX2_stretchWalls_63, wp_iconst (y := zX2_stretchWalls) (nI 2) ki_2 dX2_stretchWalls_66, wp_il1 (y := zX2_stretchWalls) dX2_stretchWalls_67, wp_imul (y := zX2_stretchWalls) dX2_stretchWalls_68, wp_iconst (y := zX2_stretchWalls) (nI 1) ki_1 dX2_stretchWalls_69, wp_iadd (y := zX2_stretchWalls) dX2_stretchWalls_70, wp_iald (y := zX2_stretchWalls) dX2_stretchWalls_71, wp_iald (y := zX2_stretchWalls) dX2_stretchWalls_72, wp_iadd (y := zX2_stretchWalls) dX2_stretchWalls_73, wp_is3 (y := zX2_stretchWalls) dX2_stretchWalls_74, wp_al0 (y := zX2_stretchWalls) dX2_stretchWalls_75, wp_getf (y := zX2_stretchWalls) kF2_27 dX2_stretchWalls_76, wp_il1 (y := zX2_stretchWalls) dX2_stretchWalls_79, wp_iald (y := zX2_stretchWalls) dX2_stretchWalls_80, wp_il2 (y := zX2_stretchWalls) dX2_stretchWalls_81, wp_iadd (y := zX2_stretchWalls) dX2_stretchWalls_82, wp_il3 (y := zX2_stretchWalls) dX2_stretchWalls_83, wp_isub (y := zX2_stretchWalls) dX2_stretchWalls_84, wp_is4 (y := zX2_stretchWalls) dX2_stretchWalls_85, wp_al0 (y := zX2_stretchWalls) dX2_stretchWalls_87, wp_getf (y := zX2_stretchWalls) kF2_27 dX2_stretchWalls_88, wp_il1 (y := zX2_stretchWalls) dX2_stretchWalls_91, wp_iconst (y := zX2_stretchWalls) (nI 0) ki_0 dX2_stretchWalls_92, wp_il4 (y := zX2_stretchWalls) dX2_stretchWalls_93, wp_bipush (y := zX2_stretchWalls) (nI 99) kb_99 dX2_stretchWalls_95, wp_cs2 (y := zX2_stretchWalls) kM2_113 (by decide) dX2_stretchWalls_97, wp_cs2 (y := zX2_stretchWalls) kM2_156 (by decide) dX2_stretchWalls_100, wp_iast (y := zX2_stretchWalls) dX2_stretchWalls_103, wp_inc1 (y := zX2_stretchWalls) (nI 1) ki_1 dX2_stretchWalls_104, wp_goto (y := zX2_stretchWalls) 2 (by decide) dX2_stretchWalls_107, mm_op_some, true_and, and_true, mm_rc_some, mm_rc_none, nI_xor, tw_xor, pk_mul, nI_add, mm_in_t, nI_clamp, ok0, ok1, ok2, ok3, ok4, n1_0, n0_0, n0_zz, n1_zz, bI_eq0, bI_ne0, bI_zz, nI_le_, nI_lt_, nI_eq_, nI_lt0, nI_ge0, nI_gt0, nI_le0, nI_eq0, m1_lt0, m1_ge0, if_true, if_false, not_true, not_false_eq_true, Classical.not_not, true_or, or_true, false_or, n1_1, k10, Bool.true_eq_false, Bool.false_eq_true, Nat.le_refl, and_self, and_false, false_and, or_self, or_false, hf_lt, ce_lt, wa_lt, hf_cl, ce_cl, wa_cl, ce_vv, hf_vv, wa_vv, i_irr, i_rfl, S.oc, S.g0, S.g1, S.g2, S.g3, S.g4, S.g5, S.g6, S.g7, S.a1, S.a2, S.a3, S.a4, S.a5, S.a6, S.a7, S.a8, h9, rl, el, E1, E2, E3, r0, r1, s0, j_min, j_max]
      have R2 := R1.wLn (wI i) (strV M (wI i))
      rw [iv] at R2
      refine kk (_, _, _, _) ⟨?_, F1.mu _ (by omega) (by omega)⟩
      have e2 : sLn (strM M i) (wI i) (strV M (wI i)) = strM M (i + 1) := by
        unfold sLn strM
        congr 6
        show (_, _) = (_, _)
        congr 1
        funext w
        show fu (fun w => _) _ _ w = _
        unfold fu
        by_cases e : w = wI i
        · subst e
          rw [if_pos rfl, if_pos ⟨by rw [iv]; omega, hc⟩]
        · rw [if_neg e]
          have : ¬ w.val = i := fun q => e (Fin.ext (by rw [iv]; exact q))
          show (if w.val < i ∧ lv M w = true then strV M w else ln M w) = _
          by_cases h1 : w.val < i ∧ lv M w = true
          · rw [if_pos h1, if_pos ⟨by omega, h1.2⟩]
          · rw [if_neg h1, if_neg (fun q => h1 ⟨by omega, q.2⟩)]
      rw [← e2]
      exact R2
    · have hc1 : ¬ lv (strM M i) (wI i) = true := hc
      have E1 : ∀ Q', cl sh zX2_hasWall [.ref b, .int (nI i)] μ1 Q' = Q' (some (.int (nI 0))) μ1 := fun Q' => c_hasWall0 S R1 hi hc1
      simp (disch := first | omega | assumption) only [wp_sipush (y := zX2_stretchWalls) (nI 144) ks_144 dX2_stretchWalls_3, wp_icmp_ge (y := zX2_stretchWalls) 110 (by decide) dX2_stretchWalls_6, wp_al0 (y := zX2_stretchWalls) dX2_stretchWalls_9, wp_il1 (y := zX2_stretchWalls) dX2_stretchWalls_10, wp_cv1 (y := zX2_stretchWalls) kM2_91 (by decide) dX2_stretchWalls_11, (show yo zX2_hasWall = 2 from rfl), wp_if_eq (y := zX2_stretchWalls) 104 (by decide) dX2_stretchWalls_14, wp_al0 (y := zX2_stretchWalls) dX2_stretchWalls_17, wp_getf (y := zX2_stretchWalls) kF2_30 dX2_stretchWalls_18, wp_al0 (y := zX2_stretchWalls) dX2_stretchWalls_21, wp_iconst (y := zX2_stretchWalls) (nI 2) ki_2 dX2_stretchWalls_22, wp_il1 (y := zX2_stretchWalls) dX2_stretchWalls_23, wp_imul (y := zX2_stretchWalls) dX2_stretchWalls_24, wp_cv1 (y := zX2_stretchWalls) kM2_77 (by decide) dX2_stretchWalls_25, (show yo zX2_endOf = 2 from rfl), wp_iald (y := zX2_stretchWalls) dX2_stretchWalls_28, wp_al0 (y := zX2_stretchWalls) dX2_stretchWalls_29, wp_getf (y := zX2_stretchWalls) kF2_30 dX2_stretchWalls_30, wp_al0 (y := zX2_stretchWalls) dX2_stretchWalls_33, wp_iconst (y := zX2_stretchWalls) (nI 2) ki_2 dX2_stretchWalls_34, wp_il1 (y := zX2_stretchWalls) dX2_stretchWalls_35, wp_imul (y := zX2_stretchWalls) dX2_stretchWalls_36, wp_iconst (y := zX2_stretchWalls) (nI 1) ki_1 dX2_stretchWalls_37, wp_iadd (y := zX2_stretchWalls) dX2_stretchWalls_38, wp_cv1 (y := zX2_stretchWalls) kM2_77 (by decide) dX2_stretchWalls_39, (show yo zX2_endOf = 2 from rfl), wp_iald (y := zX2_stretchWalls) dX2_stretchWalls_42, wp_iadd (y := zX2_stretchWalls) dX2_stretchWalls_43, wp_is2 (y := zX2_stretchWalls) dX2_stretchWalls_44, wp_al0 (y := zX2_stretchWalls) dX2_stretchWalls_45, wp_getf (y := zX2_stretchWalls) kF2_30 dX2_stretchWalls_46, wp_al0 (y := zX2_stretchWalls) dX2_stretchWalls_49, wp_getf (y := zX2_stretchWalls) kF2_9 dX2_stretchWalls_50, wp_iconst (y := zX2_stretchWalls) (nI 2) ki_2 dX2_stretchWalls_53, wp_il1 (y := zX2_stretchWalls) dX2_stretchWalls_54, wp_imul (y := zX2_stretchWalls) dX2_stretchWalls_55, wp_iald (y := zX2_stretchWalls) dX2_stretchWalls_56, wp_iald (y := zX2_stretchWalls) dX2_stretchWalls_57, wp_al0 (y := zX2_stretchWalls) dX2_stretchWalls_58, wp_getf (y := zX2_stretchWalls) kF2_30 dX2_stretchWalls_59, wp_al0 (y := zX2_stretchWalls) dX2_stretchWalls_62, wp_getf (y := zX2_stretchWalls) kF2_9 dX2_stretchWalls_63, wp_iconst (y := zX2_stretchWalls) (nI 2) ki_2 dX2_stretchWalls_66, wp_il1 (y := zX2_stretchWalls) dX2_stretchWalls_67, wp_imul (y := zX2_stretchWalls) dX2_stretchWalls_68, wp_iconst (y := zX2_stretchWalls) (nI 1) ki_1 dX2_stretchWalls_69, wp_iadd (y := zX2_stretchWalls) dX2_stretchWalls_70, wp_iald (y := zX2_stretchWalls) dX2_stretchWalls_71, wp_iald (y := zX2_stretchWalls) dX2_stretchWalls_72, wp_iadd (y := zX2_stretchWalls) dX2_stretchWalls_73, wp_is3 (y := zX2_stretchWalls) dX2_stretchWalls_74, wp_al0 (y := zX2_stretchWalls) dX2_stretchWalls_75, wp_getf (y := zX2_stretchWalls) kF2_27 dX2_stretchWalls_76, wp_il1 (y := zX2_stretchWalls) dX2_stretchWalls_79, wp_iald (y := zX2_stretchWalls) dX2_stretchWalls_80, wp_il2 (y := zX2_stretchWalls) dX2_stretchWalls_81, wp_iadd (y := zX2_stretchWalls) dX2_stretchWalls_82, wp_il3 (y := zX2_stretchWalls) dX2_stretchWalls_83, wp_isub (y := zX2_stretchWalls) dX2_stretchWalls_84, wp_is4 (y := zX2_stretchWalls) dX2_stretchWalls_85, wp_al0 (y := zX2_stretchWalls) dX2_stretchWalls_87, wp_getf (y := zX2_stretchWalls) kF2_27 dX2_stretchWalls_88, wp_il1 (y := zX2_stretchWalls) dX2_stretchWalls_91, wp_iconst (y := zX2_stretchWalls) (nI 0) ki_0 dX2_stretchWalls_92, wp_il4 (y := zX2_stretchWalls) dX2_stretchWalls_93, wp_bipush (y := zX2_stretchWalls) (nI 99) kb_99 dX2_stretchWalls_95, wp_cs2 (y := zX2_stretchWalls) kM2_113 (by decide) dX2_stretchWalls_97, wp_cs2 (y := zX2_stretchWalls) kM2_156 (by decide) dX2_stretchWalls_100, wp_iast (y := zX2_stretchWalls) dX2_stretchWalls_103, wp_inc1 (y := zX2_stretchWalls) (nI 1) ki_1 dX2_stretchWalls_104, wp_goto (y := zX2_stretchWalls) 2 (by decide) dX2_stretchWalls_107, mm_op_some, true_and, and_true, mm_rc_some, mm_rc_none, nI_xor, tw_xor, pk_mul, nI_add, mm_in_t, nI_clamp, ok0, ok1, ok2, ok3, ok4, n1_0, n0_0, n0_zz, n1_zz, bI_eq0, bI_ne0, bI_zz, nI_le_, nI_lt_, nI_eq_, nI_lt0, nI_ge0, nI_gt0, nI_le0, nI_eq0, m1_lt0, m1_ge0, if_true, if_false, not_true, not_false_eq_true, Classical.not_not, true_or, or_true, false_or, n1_1, k10, Bool.true_eq_false, Bool.false_eq_true, Nat.le_refl, and_self, and_false, false_and, or_self, or_false, hf_lt, ce_lt, wa_lt, hf_cl, ce_cl, wa_cl, ce_vv, hf_vv, wa_vv, i_irr, i_rfl, S.oc, S.g0, S.g1, S.g2, S.g3, S.g4, S.g5, S.g6, S.g7, S.a1, S.a2, S.a3, S.a4, S.a5, S.a6, S.a7, S.a8, h9, E1]
      refine kk (_, _, _, _) ⟨?_, F1⟩
      have e2 : strM M i = strM M (i + 1) := by
        unfold strM
        congr 6
        show (_, _) = (_, _)
        congr 1
        funext w
        by_cases h1 : w.val < i ∧ lv M w = true
        · rw [if_pos h1, if_pos ⟨by omega, h1.2⟩]
        · rw [if_neg h1, if_neg]
          rintro ⟨q1, q2⟩
          by_cases e : w.val = i
          · apply hc
            have : w = wI i := Fin.ext (by rw [iv]; exact e)
            rw [← this]; exact q2
          · exact h1 ⟨by omega, q2⟩
      rw [← e2]
      exact R1
  · rintro ⟨μ1, v1, v2, v3⟩ ⟨R1, F1⟩
    dsimp only at R1 F1 ⊢
    rw [wp_il1 (y := zX2_stretchWalls) dX2_stretchWalls_2]
    simp (disch := first | omega | assumption) only [wp_sipush (y := zX2_stretchWalls) (nI 144) ks_144 dX2_stretchWalls_3, wp_icmp_ge (y := zX2_stretchWalls) 110 (by decide) dX2_stretchWalls_6, wp_al0 (y := zX2_stretchWalls) dX2_stretchWalls_9, wp_il1 (y := zX2_stretchWalls) dX2_stretchWalls_10, wp_cv1 (y := zX2_stretchWalls) kM2_91 (by decide) dX2_stretchWalls_11, (show yo zX2_hasWall = 2 from rfl), wp_if_eq (y := zX2_stretchWalls) 104 (by decide) dX2_stretchWalls_14, wp_al0 (y := zX2_stretchWalls) dX2_stretchWalls_17, wp_getf (y := zX2_stretchWalls) kF2_30 dX2_stretchWalls_18, wp_al0 (y := zX2_stretchWalls) dX2_stretchWalls_21, wp_iconst (y := zX2_stretchWalls) (nI 2) ki_2 dX2_stretchWalls_22, wp_il1 (y := zX2_stretchWalls) dX2_stretchWalls_23, wp_imul (y := zX2_stretchWalls) dX2_stretchWalls_24, wp_cv1 (y := zX2_stretchWalls) kM2_77 (by decide) dX2_stretchWalls_25, (show yo zX2_endOf = 2 from rfl), wp_iald (y := zX2_stretchWalls) dX2_stretchWalls_28, wp_al0 (y := zX2_stretchWalls) dX2_stretchWalls_29, wp_getf (y := zX2_stretchWalls) kF2_30 dX2_stretchWalls_30, wp_al0 (y := zX2_stretchWalls) dX2_stretchWalls_33, wp_iconst (y := zX2_stretchWalls) (nI 2) ki_2 dX2_stretchWalls_34, wp_il1 (y := zX2_stretchWalls) dX2_stretchWalls_35, wp_imul (y := zX2_stretchWalls) dX2_stretchWalls_36, wp_iconst (y := zX2_stretchWalls) (nI 1) ki_1 dX2_stretchWalls_37, wp_iadd (y := zX2_stretchWalls) dX2_stretchWalls_38, wp_cv1 (y := zX2_stretchWalls) kM2_77 (by decide) dX2_stretchWalls_39, (show yo zX2_endOf = 2 from rfl), wp_iald (y := zX2_stretchWalls) dX2_stretchWalls_42, wp_iadd (y := zX2_stretchWalls) dX2_stretchWalls_43, wp_is2 (y := zX2_stretchWalls) dX2_stretchWalls_44, wp_al0 (y := zX2_stretchWalls) dX2_stretchWalls_45, wp_getf (y := zX2_stretchWalls) kF2_30 dX2_stretchWalls_46, wp_al0 (y := zX2_stretchWalls) dX2_stretchWalls_49, wp_getf (y := zX2_stretchWalls) kF2_9 dX2_stretchWalls_50, wp_iconst (y := zX2_stretchWalls) (nI 2) ki_2 dX2_stretchWalls_53, wp_il1 (y := zX2_stretchWalls) dX2_stretchWalls_54, wp_imul (y := zX2_stretchWalls) dX2_stretchWalls_55, wp_iald (y := zX2_stretchWalls) dX2_stretchWalls_56, wp_iald (y := zX2_stretchWalls) dX2_stretchWalls_57, wp_al0 (y := zX2_stretchWalls) dX2_stretchWalls_58, wp_getf (y := zX2_stretchWalls) kF2_30 dX2_stretchWalls_59, wp_al0 (y := zX2_stretchWalls) dX2_stretchWalls_62, wp_getf (y := zX2_stretchWalls) kF2_9 dX2_stretchWalls_63, wp_iconst (y := zX2_stretchWalls) (nI 2) ki_2 dX2_stretchWalls_66, wp_il1 (y := zX2_stretchWalls) dX2_stretchWalls_67, wp_imul (y := zX2_stretchWalls) dX2_stretchWalls_68, wp_iconst (y := zX2_stretchWalls) (nI 1) ki_1 dX2_stretchWalls_69, wp_iadd (y := zX2_stretchWalls) dX2_stretchWalls_70, wp_iald (y := zX2_stretchWalls) dX2_stretchWalls_71, wp_iald (y := zX2_stretchWalls) dX2_stretchWalls_72, wp_iadd (y := zX2_stretchWalls) dX2_stretchWalls_73, wp_is3 (y := zX2_stretchWalls) dX2_stretchWalls_74, wp_al0 (y := zX2_stretchWalls) dX2_stretchWalls_75, wp_getf (y := zX2_stretchWalls) kF2_27 dX2_stretchWalls_76, wp_il1 (y := zX2_stretchWalls) dX2_stretchWalls_79, wp_iald (y := zX2_stretchWalls) dX2_stretchWalls_80, wp_il2 (y := zX2_stretchWalls) dX2_stretchWalls_81, wp_iadd (y := zX2_stretchWalls) dX2_stretchWalls_82, wp_il3 (y := zX2_stretchWalls) dX2_stretchWalls_83, wp_isub (y := zX2_stretchWalls) dX2_stretchWalls_84, wp_is4 (y := zX2_stretchWalls) dX2_stretchWalls_85, wp_al0 (y := zX2_stretchWalls) dX2_stretchWalls_87, wp_getf (y := zX2_stretchWalls) kF2_27 dX2_stretchWalls_88, wp_il1 (y := zX2_stretchWalls) dX2_stretchWalls_91, wp_iconst (y := zX2_stretchWalls) (nI 0) ki_0 dX2_stretchWalls_92, wp_il4 (y := zX2_stretchWalls) dX2_stretchWalls_93, wp_bipush (y := zX2_stretchWalls) (nI 99) kb_99 dX2_stretchWalls_95, wp_cs2 (y := zX2_stretchWalls) kM2_113 (by decide) dX2_stretchWalls_97, wp_cs2 (y := zX2_stretchWalls) kM2_156 (by decide) dX2_stretchWalls_100, wp_iast (y := zX2_stretchWalls) dX2_stretchWalls_103, wp_inc1 (y := zX2_stretchWalls) (nI 1) ki_1 dX2_stretchWalls_104, wp_goto (y := zX2_stretchWalls) 2 (by decide) dX2_stretchWalls_107, wp_vret (y := zX2_stretchWalls) rfl dX2_stretchWalls_110, mm_op_some, true_and, and_true, mm_rc_some, mm_rc_none, nI_xor, tw_xor, pk_mul, nI_add, mm_in_t, nI_clamp, ok0, ok1, ok2, ok3, ok4, n1_0, n0_0, n0_zz, n1_zz, bI_eq0, bI_ne0, bI_zz, nI_le_, nI_lt_, nI_eq_, nI_lt0, nI_ge0, nI_gt0, nI_le0, nI_eq0, m1_lt0, m1_ge0, if_true, if_false, not_true, not_false_eq_true, Classical.not_not, true_or, or_true, false_or, n1_1, k10, Bool.true_eq_false, Bool.false_eq_true, Nat.le_refl, and_self, and_false, false_and, or_self, or_false, hf_lt, ce_lt, wa_lt, hf_cl, ce_cl, wa_cl, ce_vv, hf_vv, wa_vv, i_irr, i_rfl]
    exact ⟨R1, F1⟩
  · have e2 : strM M 0 = M := by
      unfold strM
      have : (fun w : Wa => if w.val < 0 ∧ lv M w = true then strV M w else ln M w) = ln M := by
        funext c
        rw [if_neg (fun q => absurd q.1 (Nat.not_lt_zero _))]
      rw [this]
    rw [e2]
    exact R
theorem cpy_fin {n : Nat} (f g : Nat → Int32) (j : Nat) (h : j < n) : va_cpy f g 0 0 n j = f j := by
  unfold va_cpy
  rw [if_pos ⟨Nat.zero_le _, by omega⟩]
  congr 1
  omega
theorem c_copyMesh {b2 : Nat} {M2 : Ms} (S : MeshSh sh b) (S2 : MeshSh sh b2) (R2 : RepC M2 μ b2) (hb : b + 8 < b2 ∨ b2 + 8 < b) : cl sh zX2_copyOf [.ref b, .ref b2] μ (fun r μ' => r = none ∧ RepC M2 μ' b ∧ Fr μ μ' b) := by
  have k1 : 288 ≤ mm_al sh (b + 1) := by rw [S.a1]; exact Nat.le_refl _
  have j1 : 288 ≤ mm_al sh (b2 + 1) := by rw [S2.a1]; exact Nat.le_refl _
  have k2 : 288 ≤ mm_al sh (b + 2) := by rw [S.a2]; exact Nat.le_refl _
  have j2 : 288 ≤ mm_al sh (b2 + 2) := by rw [S2.a2]; exact Nat.le_refl _
  have k3 : 288 ≤ mm_al sh (b + 3) := by rw [S.a3]; exact Nat.le_refl _
  have j3 : 288 ≤ mm_al sh (b2 + 3) := by rw [S2.a3]; exact Nat.le_refl _
  have k4 : 288 ≤ mm_al sh (b + 4) := by rw [S.a4]; exact Nat.le_refl _
  have j4 : 288 ≤ mm_al sh (b2 + 4) := by rw [S2.a4]; exact Nat.le_refl _
  have k5 : 288 ≤ mm_al sh (b + 5) := by rw [S.a5]; exact Nat.le_refl _
  have j5 : 288 ≤ mm_al sh (b2 + 5) := by rw [S2.a5]; exact Nat.le_refl _
  have k6 : 144 ≤ mm_al sh (b + 6) := by rw [S.a6]; exact Nat.le_refl _
  have j6 : 144 ≤ mm_al sh (b2 + 6) := by rw [S2.a6]; exact Nat.le_refl _
  have k7 : 48 ≤ mm_al sh (b + 7) := by rw [S.a7]; exact Nat.le_refl _
  have j7 : 48 ≤ mm_al sh (b2 + 7) := by rw [S2.a7]; exact Nat.le_refl _
  have k8 : 48 ≤ mm_al sh (b + 8) := by rw [S.a8]; exact Nat.le_refl _
  have j8 : 48 ≤ mm_al sh (b2 + 8) := by rw [S2.a8]; exact Nat.le_refl _
  show wp sh zX2_copyOf 0 [.ref b, .ref b2] [] μ _
  simp (disch := first | assumption | decide) only [wp_al1 (y := zX2_copyOf) dX2_copyOf_0, wp_getf (y := zX2_copyOf) kF2_9 dX2_copyOf_1, wp_iconst (y := zX2_copyOf) (nI 0) ki_0 dX2_copyOf_4, wp_al0 (y := zX2_copyOf) dX2_copyOf_5, wp_getf (y := zX2_copyOf) kF2_9 dX2_copyOf_6, wp_iconst (y := zX2_copyOf) (nI 0) ki_0 dX2_copyOf_9, wp_sipush (y := zX2_copyOf) (nI 288) ks_288 dX2_copyOf_10, wp_acp' (y := zX2_copyOf) rfl kP2_36 (by decide) dX2_copyOf_13, wp_al1 (y := zX2_copyOf) dX2_copyOf_16, wp_getf (y := zX2_copyOf) kF2_15 dX2_copyOf_17, wp_iconst (y := zX2_copyOf) (nI 0) ki_0 dX2_copyOf_20, wp_al0 (y := zX2_copyOf) dX2_copyOf_21, wp_getf (y := zX2_copyOf) kF2_15 dX2_copyOf_22, wp_iconst (y := zX2_copyOf) (nI 0) ki_0 dX2_copyOf_25, wp_sipush (y := zX2_copyOf) (nI 288) ks_288 dX2_copyOf_26, wp_acp' (y := zX2_copyOf) rfl kP2_36 (by decide) dX2_copyOf_29, wp_al1 (y := zX2_copyOf) dX2_copyOf_32, wp_getf (y := zX2_copyOf) kF2_18 dX2_copyOf_33, wp_iconst (y := zX2_copyOf) (nI 0) ki_0 dX2_copyOf_36, wp_al0 (y := zX2_copyOf) dX2_copyOf_37, wp_getf (y := zX2_copyOf) kF2_18 dX2_copyOf_38, wp_iconst (y := zX2_copyOf) (nI 0) ki_0 dX2_copyOf_41, wp_sipush (y := zX2_copyOf) (nI 288) ks_288 dX2_copyOf_42, wp_acp' (y := zX2_copyOf) rfl kP2_36 (by decide) dX2_copyOf_45, wp_al1 (y := zX2_copyOf) dX2_copyOf_48, wp_getf (y := zX2_copyOf) kF2_21 dX2_copyOf_49, wp_iconst (y := zX2_copyOf) (nI 0) ki_0 dX2_copyOf_52, wp_al0 (y := zX2_copyOf) dX2_copyOf_53, wp_getf (y := zX2_copyOf) kF2_21 dX2_copyOf_54, wp_iconst (y := zX2_copyOf) (nI 0) ki_0 dX2_copyOf_57, wp_sipush (y := zX2_copyOf) (nI 288) ks_288 dX2_copyOf_58, wp_acp' (y := zX2_copyOf) rfl kP2_36 (by decide) dX2_copyOf_61, wp_al1 (y := zX2_copyOf) dX2_copyOf_64, wp_getf (y := zX2_copyOf) kF2_24 dX2_copyOf_65, wp_iconst (y := zX2_copyOf) (nI 0) ki_0 dX2_copyOf_68, wp_al0 (y := zX2_copyOf) dX2_copyOf_69, wp_getf (y := zX2_copyOf) kF2_24 dX2_copyOf_70, wp_iconst (y := zX2_copyOf) (nI 0) ki_0 dX2_copyOf_73, wp_sipush (y := zX2_copyOf) (nI 288) ks_288 dX2_copyOf_74, wp_acp' (y := zX2_copyOf) rfl kP2_36 (by decide) dX2_copyOf_77, wp_al1 (y := zX2_copyOf) dX2_copyOf_80, wp_getf (y := zX2_copyOf) kF2_27 dX2_copyOf_81, wp_iconst (y := zX2_copyOf) (nI 0) ki_0 dX2_copyOf_84, wp_al0 (y := zX2_copyOf) dX2_copyOf_85, wp_getf (y := zX2_copyOf) kF2_27 dX2_copyOf_86, wp_iconst (y := zX2_copyOf) (nI 0) ki_0 dX2_copyOf_89, wp_sipush (y := zX2_copyOf) (nI 144) ks_144 dX2_copyOf_90, wp_acp' (y := zX2_copyOf) rfl kP2_36 (by decide) dX2_copyOf_93, wp_al1 (y := zX2_copyOf) dX2_copyOf_96, wp_getf (y := zX2_copyOf) kF2_30 dX2_copyOf_97, wp_iconst (y := zX2_copyOf) (nI 0) ki_0 dX2_copyOf_100, wp_al0 (y := zX2_copyOf) dX2_copyOf_101, wp_getf (y := zX2_copyOf) kF2_30 dX2_copyOf_102, wp_iconst (y := zX2_copyOf) (nI 0) ki_0 dX2_copyOf_105, wp_bipush (y := zX2_copyOf) (nI 48) kb_48 dX2_copyOf_106, wp_acp' (y := zX2_copyOf) rfl kP2_36 (by decide) dX2_copyOf_108, wp_al1 (y := zX2_copyOf) dX2_copyOf_111, wp_getf (y := zX2_copyOf) kF2_33 dX2_copyOf_112, wp_iconst (y := zX2_copyOf) (nI 0) ki_0 dX2_copyOf_115, wp_al0 (y := zX2_copyOf) dX2_copyOf_116, wp_getf (y := zX2_copyOf) kF2_33 dX2_copyOf_117, wp_iconst (y := zX2_copyOf) (nI 0) ki_0 dX2_copyOf_120, wp_bipush (y := zX2_copyOf) (nI 48) kb_48 dX2_copyOf_121, wp_acp' (y := zX2_copyOf) rfl kP2_36 (by decide) dX2_copyOf_123, wp_vret (y := zX2_copyOf) rfl dX2_copyOf_126, mm_op_some, S.oc, S.g0, S.g1, S.g2, S.g3, S.g4, S.g5, S.g6, S.g7, S.a1, S.a2, S.a3, S.a4, S.a5, S.a6, S.a7, S.a8, S2.oc, S2.g0, S2.g1, S2.g2, S2.g3, S2.g4, S2.g5, S2.g6, S2.g7, true_and]
  have hh : ∀ h : Hf, h.val < 288 := fun h => h.isLt
  have hw : ∀ h : Wa, h.val < 144 := fun h => h.isLt
  have hc : ∀ h : Ce, h.val < 48 := fun h => h.isLt
  refine ⟨⟨fun h hl => ?_, fun h hl => ?_, fun w hl => ?_, fun c => ?_, fun c hl => ?_⟩, ?_⟩
  · simp (disch := omega) only [mu_s, mu_n, cpy_fin _ _ _ (hh h)]
    exact R2.1 h hl
  · simp (disch := omega) only [mu_s, mu_n, cpy_fin _ _ _ (hh h)]
    exact R2.2.1 h hl
  · simp (disch := omega) only [mu_s, mu_n, cpy_fin _ _ _ (hw w)]
    exact R2.2.2.1 w hl
  · simp (disch := omega) only [mu_s, mu_n, cpy_fin _ _ _ (hc c)]
    exact R2.2.2.2.1 c
  · simp (disch := omega) only [mu_s, mu_n, cpy_fin _ _ _ (hc c)]
    exact R2.2.2.2.2 c hl
  · intro a ha
    simp (disch := omega) only [mu_n]
end CM7
