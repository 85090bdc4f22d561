section MXR
variable {sh : mm_Sh} {m : Nat} {M : Ms} {μ : mm_U} {Q : Option Value → mm_U → Prop} {XN XP XO XR XQ : Hf → Prop} {XA : Ce → Prop}
theorem mr_next (O : MoSh sh m) (h g : Hf) (r : μ (m + 1) (16 + h.val) = nI g.val) : cl sh zX6_next [.ref m, .int (nI h.val)] μ Q = Q (some (.int (nI g.val))) μ := by
  show wp sh zX6_next 0 [.ref m, .int (nI h.val)] [] μ Q = _
  simp (disch := first | omega | assumption) only [mm_op_some, true_and, and_true, mm_rc_some, mm_rc_none, nI_xor, tw_xor, pk_mul, nI_add, mm_in_t, nI_clamp, ok0, ok1, ok2, ok3, ok4, n1_0, n0_0, n0_zz, n1_zz, bI_eq0, bI_ne0, bI_zz, nI_le_, nI_lt_, nI_eq_, nI_lt0, nI_ge0, nI_gt0, nI_le0, nI_eq0, m1_lt0, m1_ge0, if_true, if_false, not_true, not_false_eq_true, Classical.not_not, true_or, or_true, false_or, n1_1, k10, Bool.true_eq_false, Bool.false_eq_true, Nat.le_refl, and_self, and_false, false_and, or_self, or_false, hf_lt, ce_lt, hf_cl, ce_cl, i_irr, i_rfl, wp_al0 (y := zX6_next) dX6_next_0, wp_getf (y := zX6_next) kF6_9 dX6_next_1, wp_bipush (y := zX6_next) (nI 16) kb_16 dX6_next_4, wp_il1 (y := zX6_next) dX6_next_6, wp_iadd (y := zX6_next) dX6_next_7, wp_iald (y := zX6_next) dX6_next_8, wp_ireti (y := zX6_next) rfl dX6_next_9, O.oc, O.g0, O.g1, O.g2, O.g3, O.g4, O.g5, O.g6, O.g7, O.g9, O.g10, O.g11, O.p0, O.p7, O.a1, O.a2, O.a3, O.a4, O.a5, O.a6, O.a7, O.a8, O.a9, r]
theorem mr_before (O : MoSh sh m) (h g : Hf) (r : μ (m + 1) (304 + h.val) = nI g.val) : cl sh zX6_before [.ref m, .int (nI h.val)] μ Q = Q (some (.int (nI g.val))) μ := by
  show wp sh zX6_before 0 [.ref m, .int (nI h.val)] [] μ Q = _
  simp (disch := first | omega | assumption) only [mm_op_some, true_and, and_true, mm_rc_some, mm_rc_none, nI_xor, tw_xor, pk_mul, nI_add, mm_in_t, nI_clamp, ok0, ok1, ok2, ok3, ok4, n1_0, n0_0, n0_zz, n1_zz, bI_eq0, bI_ne0, bI_zz, nI_le_, nI_lt_, nI_eq_, nI_lt0, nI_ge0, nI_gt0, nI_le0, nI_eq0, m1_lt0, m1_ge0, if_true, if_false, not_true, not_false_eq_true, Classical.not_not, true_or, or_true, false_or, n1_1, k10, Bool.true_eq_false, Bool.false_eq_true, Nat.le_refl, and_self, and_false, false_and, or_self, or_false, hf_lt, ce_lt, hf_cl, ce_cl, i_irr, i_rfl, wp_al0 (y := zX6_before) dX6_before_0, wp_getf (y := zX6_before) kF6_9 dX6_before_1, wp_sipush (y := zX6_before) (nI 304) ks_304 dX6_before_4, wp_il1 (y := zX6_before) dX6_before_7, wp_iadd (y := zX6_before) dX6_before_8, wp_iald (y := zX6_before) dX6_before_9, wp_ireti (y := zX6_before) rfl dX6_before_10, O.oc, O.g0, O.g1, O.g2, O.g3, O.g4, O.g5, O.g6, O.g7, O.g9, O.g10, O.g11, O.p0, O.p7, O.a1, O.a2, O.a3, O.a4, O.a5, O.a6, O.a7, O.a8, O.a9, r]
theorem mr_cellOf (O : MoSh sh m) (h : Hf) (g : Ce) (r : μ (m + 1) (592 + h.val) = nI g.val) : cl sh zX6_cellOf [.ref m, .int (nI h.val)] μ Q = Q (some (.int (nI g.val))) μ := by
  show wp sh zX6_cellOf 0 [.ref m, .int (nI h.val)] [] μ Q = _
  simp (disch := first | omega | assumption) only [mm_op_some, true_and, and_true, mm_rc_some, mm_rc_none, nI_xor, tw_xor, pk_mul, nI_add, mm_in_t, nI_clamp, ok0, ok1, ok2, ok3, ok4, n1_0, n0_0, n0_zz, n1_zz, bI_eq0, bI_ne0, bI_zz, nI_le_, nI_lt_, nI_eq_, nI_lt0, nI_ge0, nI_gt0, nI_le0, nI_eq0, m1_lt0, m1_ge0, if_true, if_false, not_true, not_false_eq_true, Classical.not_not, true_or, or_true, false_or, n1_1, k10, Bool.true_eq_false, Bool.false_eq_true, Nat.le_refl, and_self, and_false, false_and, or_self, or_false, hf_lt, ce_lt, hf_cl, ce_cl, i_irr, i_rfl, wp_al0 (y := zX6_cellOf) dX6_cellOf_0, wp_getf (y := zX6_cellOf) kF6_9 dX6_cellOf_1, wp_sipush (y := zX6_cellOf) (nI 592) ks_592 dX6_cellOf_4, wp_il1 (y := zX6_cellOf) dX6_cellOf_7, wp_iadd (y := zX6_cellOf) dX6_cellOf_8, wp_iald (y := zX6_cellOf) dX6_cellOf_9, wp_ireti (y := zX6_cellOf) rfl dX6_cellOf_10, O.oc, O.g0, O.g1, O.g2, O.g3, O.g4, O.g5, O.g6, O.g7, O.g9, O.g10, O.g11, O.p0, O.p7, O.a1, O.a2, O.a3, O.a4, O.a5, O.a6, O.a7, O.a8, O.a9, r]
theorem mr_isWall (O : MoSh sh m) {i : Nat} (hi : i < 144) (b : Bool) (hb : (μ (m + 1) (1456 + i) = -1) = (b = false)) : cl sh zX6_isWall [.ref m, .int (nI i)] μ Q = Q (some (.int (bI b))) μ := by
  have e : mm_isin (nI i).toInt64 0 143 = nI 1 := isin_n (a := 0) (b := 143) (by omega) rfl rfl (by omega)
  show wp sh zX6_isWall 0 [.ref m, .int (nI i)] [] μ Q = _
  cases b with
  | false =>
    have h' : (μ (m + 1) (1456 + i) = -1) = True := hb.trans (eq_true rfl)
    simp (disch := first | omega | assumption) only [mm_op_some, true_and, and_true, mm_rc_some, mm_rc_none, nI_xor, tw_xor, pk_mul, nI_add, mm_in_t, nI_clamp, ok0, ok1, ok2, ok3, ok4, n1_0, n0_0, n0_zz, n1_zz, bI_eq0, bI_ne0, bI_zz, nI_le_, nI_lt_, nI_eq_, nI_lt0, nI_ge0, nI_gt0, nI_le0, nI_eq0, m1_lt0, m1_ge0, if_true, if_false, not_true, not_false_eq_true, Classical.not_not, true_or, or_true, false_or, n1_1, k10, Bool.true_eq_false, Bool.false_eq_true, Nat.le_refl, and_self, and_false, false_and, or_self, or_false, hf_lt, ce_lt, hf_cl, ce_cl, i_irr, i_rfl, wp_il1 (y := zX6_isWall) dX6_isWall_0, wp_i2l (y := zX6_isWall) dX6_isWall_1, wp_lconst (y := zX6_isWall) (0) kl_0 dX6_isWall_2, wp_ldc2 (y := zX6_isWall) kL6_78 dX6_isWall_3, wp_in (y := zX6_isWall) rfl kP6_48 (by decide) dX6_isWall_6, wp_if_eq (y := zX6_isWall) 30 (by decide) dX6_isWall_9, wp_al0 (y := zX6_isWall) dX6_isWall_12, wp_getf (y := zX6_isWall) kF6_9 dX6_isWall_13, wp_sipush (y := zX6_isWall) (nI 1456) ks_1456 dX6_isWall_16, wp_il1 (y := zX6_isWall) dX6_isWall_19, wp_iadd (y := zX6_isWall) dX6_isWall_20, wp_iald (y := zX6_isWall) dX6_isWall_21, wp_iconst (y := zX6_isWall) ((-1)) ki_m1 dX6_isWall_22, wp_icmp_eq (y := zX6_isWall) 30 (by decide) dX6_isWall_23, wp_iconst (y := zX6_isWall) (nI 0) ki_0 dX6_isWall_30, wp_iretz (y := zX6_isWall) rfl dX6_isWall_31, O.oc, O.g0, O.g1, O.g2, O.g3, O.g4, O.g5, O.g6, O.g7, O.g9, O.g10, O.g11, O.p0, O.p7, O.a1, O.a2, O.a3, O.a4, O.a5, O.a6, O.a7, O.a8, O.a9, e, h']
    rfl
  | true =>
    have h' : (μ (m + 1) (1456 + i) = -1) = False := hb.trans (eq_false (by decide))
    simp (disch := first | omega | assumption) only [mm_op_some, true_and, and_true, mm_rc_some, mm_rc_none, nI_xor, tw_xor, pk_mul, nI_add, mm_in_t, nI_clamp, ok0, ok1, ok2, ok3, ok4, n1_0, n0_0, n0_zz, n1_zz, bI_eq0, bI_ne0, bI_zz, nI_le_, nI_lt_, nI_eq_, nI_lt0, nI_ge0, nI_gt0, nI_le0, nI_eq0, m1_lt0, m1_ge0, if_true, if_false, not_true, not_false_eq_true, Classical.not_not, true_or, or_true, false_or, n1_1, k10, Bool.true_eq_false, Bool.false_eq_true, Nat.le_refl, and_self, and_false, false_and, or_self, or_false, hf_lt, ce_lt, hf_cl, ce_cl, i_irr, i_rfl, wp_il1 (y := zX6_isWall) dX6_isWall_0, wp_i2l (y := zX6_isWall) dX6_isWall_1, wp_lconst (y := zX6_isWall) (0) kl_0 dX6_isWall_2, wp_ldc2 (y := zX6_isWall) kL6_78 dX6_isWall_3, wp_in (y := zX6_isWall) rfl kP6_48 (by decide) dX6_isWall_6, wp_if_eq (y := zX6_isWall) 30 (by decide) dX6_isWall_9, wp_al0 (y := zX6_isWall) dX6_isWall_12, wp_getf (y := zX6_isWall) kF6_9 dX6_isWall_13, wp_sipush (y := zX6_isWall) (nI 1456) ks_1456 dX6_isWall_16, wp_il1 (y := zX6_isWall) dX6_isWall_19, wp_iadd (y := zX6_isWall) dX6_isWall_20, wp_iald (y := zX6_isWall) dX6_isWall_21, wp_iconst (y := zX6_isWall) ((-1)) ki_m1 dX6_isWall_22, wp_icmp_eq (y := zX6_isWall) 30 (by decide) dX6_isWall_23, wp_iconst (y := zX6_isWall) (nI 1) ki_1 dX6_isWall_26, wp_goto (y := zX6_isWall) 31 (by decide) dX6_isWall_27, wp_iconst (y := zX6_isWall) (nI 0) ki_0 dX6_isWall_30, wp_iretz (y := zX6_isWall) rfl dX6_isWall_31, O.oc, O.g0, O.g1, O.g2, O.g3, O.g4, O.g5, O.g6, O.g7, O.g9, O.g10, O.g11, O.p0, O.p7, O.a1, O.a2, O.a3, O.a4, O.a5, O.a6, O.a7, O.a8, O.a9, e, h']
    rfl
theorem mx_freeWall (O : MoSh sh m) (A : MeX M (μ (m + 1)) (DX XN XP XO XR XQ XA)) (B : LnB M) (j : Wa) (hj : frW M = some j.val) : cl sh zX6_freeWall [.ref m] μ Q = Q (some (.int (nI j.val))) μ := by
  have E : ∀ i, i < 144 → ∀ Q', cl sh zX6_isWall [.ref m, .int (nI i)] μ Q' = Q' (some (.int (bI (lv M (wI i))))) μ := fun i hi Q' => by
    refine mr_isWall O hi _ ?_
    have q := A.ln_ (wI i)
    rw [wI_lt hi] at q
    rw [q]
    cases h : lv M (wI i) with
    | false =>
      rw [if_neg (by decide)]
      exact (eq_true rfl).trans (eq_true rfl).symm
    | true =>
      rw [if_pos rfl]
      obtain ⟨n, hn, en⟩ := B _ h
      rw [en, nI_m1 (by omega)]
      exact (eq_false (by decide)).symm
  show wp sh zX6_freeWall 0 [.ref m, .null] [] μ Q = _
  simp (disch := first | omega | assumption) only [wp_iconst (y := zX6_freeWall) (nI 0) ki_0 dX6_freeWall_0, wp_is1 (y := zX6_freeWall) dX6_freeWall_1]
  refine (lpf 144 (fun i => wp sh zX6_freeWall 2 [.ref m, .int (nI i)] [] μ Q) (fun i => !(lv M (wI i))) (fun j => Q (some (.int (nI j))) μ) (fun i hi => ?_)).trans ?_
  · have h9 : (144 ≤ i) = False := eq_false (by omega)
    have E1 := E i hi
    rw [wp_il1 (y := zX6_freeWall) dX6_freeWall_2]
    cases h : lv M (wI i) with
    | false =>
      rw [h] at E1
      simp (disch := first | omega | assumption) only [mm_op_some, true_and, and_true, mm_rc_some, mm_rc_none, pk_mul, nI_add, mm_in_t, nI_clamp, ok0, ok1, ok2, ok3, ok4, n1_0, n0_0, nI_le_, nI_lt_, if_true, if_false, not_true, not_false_eq_true, ce_lt, ce_cl, hf_lt, hf_cl, n0_zz, wp_sipush (y := zX6_freeWall) (nI 144) ks_144 dX6_freeWall_3, wp_icmp_ge (y := zX6_freeWall) 23 (by decide) dX6_freeWall_6, wp_al0 (y := zX6_freeWall) dX6_freeWall_9, wp_il1 (y := zX6_freeWall) dX6_freeWall_10, wp_cv1 (y := zX6_freeWall) kM6_80 (by decide) dX6_freeWall_11, (show yo zX6_isWall = 6 from rfl), wp_if_eq (y := zX6_freeWall) 23 (by decide) dX6_freeWall_14, wp_il1 (y := zX6_freeWall) dX6_freeWall_23, wp_ireti (y := zX6_freeWall) rfl dX6_freeWall_24, O.oc, O.g0, O.g1, O.g2, O.g3, O.g4, O.g5, O.g6, O.g7, O.g9, O.g10, O.g11, O.p0, O.p7, O.a1, O.a2, O.a3, O.a4, O.a5, O.a6, O.a7, O.a8, O.a9, E1, h9, bI_f]
      rfl
    | true =>
      rw [h] at E1
      simp (disch := first | omega | assumption) only [mm_op_some, true_and, and_true, mm_rc_some, mm_rc_none, pk_mul, nI_add, mm_in_t, nI_clamp, ok0, ok1, ok2, ok3, ok4, n1_0, n0_0, nI_le_, nI_lt_, if_true, if_false, not_true, not_false_eq_true, ce_lt, ce_cl, hf_lt, hf_cl, n1_zz, wp_sipush (y := zX6_freeWall) (nI 144) ks_144 dX6_freeWall_3, wp_icmp_ge (y := zX6_freeWall) 23 (by decide) dX6_freeWall_6, wp_al0 (y := zX6_freeWall) dX6_freeWall_9, wp_il1 (y := zX6_freeWall) dX6_freeWall_10, wp_cv1 (y := zX6_freeWall) kM6_80 (by decide) dX6_freeWall_11, (show yo zX6_isWall = 6 from rfl), wp_if_eq (y := zX6_freeWall) 23 (by decide) dX6_freeWall_14, wp_inc1 (y := zX6_freeWall) (nI 1) ki_1 dX6_freeWall_17, wp_goto (y := zX6_freeWall) 2 (by decide) dX6_freeWall_20, O.oc, O.g0, O.g1, O.g2, O.g3, O.g4, O.g5, O.g6, O.g7, O.g9, O.g10, O.g11, O.p0, O.p7, O.a1, O.a2, O.a3, O.a4, O.a5, O.a6, O.a7, O.a8, O.a9, E1, h9, bI_t]
      rfl
  · have hj : fd (fun i => !(lv M (wI i))) 144 0 = some j.val := hj
    rw [hj]
theorem mx_newWall (O : MoSh sh m) (A : MeX M (μ (m + 1)) (DX XN XP XO XR XQ XA)) (B : LnB M) (j : Wa) (hj : frW M = some j.val) (v : Int32) : cl sh zX6_newWall [.ref m, .int v] μ (fun r μ' => r = some (.int (nI (h0 j).val)) ∧ MeX (sLn (sLv M j true) j v) (μ' (m + 1)) (DX (fun k => XN k ∨ wl k = j) (fun k => XP k ∨ wl k = j) (fun k => XO k ∨ wl k = j) (fun k => XR k ∨ wl k = j) (fun k => XQ k ∨ wl k = j) XA) ∧ FrR μ μ' m) := by
  have E1 : ∀ Q', cl sh zX6_freeWall [.ref m] μ Q' = Q' (some (.int (nI j.val))) μ := fun Q' => mx_freeWall O A B j hj
  show wp sh zX6_newWall 0 [.ref m, .int v, .null] [] μ _
  simp (disch := first | omega | assumption) only [mm_op_some, true_and, and_true, mm_rc_some, mm_rc_none, pk_mul, nI_add, mm_in_t, nI_clamp, ok0, ok1, ok2, ok3, ok4, n1_0, n0_0, nI_le_, nI_lt_, if_true, if_false, not_true, not_false_eq_true, ce_lt, ce_cl, hf_lt, hf_cl, wa_lt, wa_cl, wp_al0 (y := zX6_newWall) dX6_newWall_0, wp_cv0 (y := zX6_newWall) kM6_166 (by decide) dX6_newWall_1, (show yo zX6_freeWall = 6 from rfl), wp_is2 (y := zX6_newWall) dX6_newWall_4, wp_al0 (y := zX6_newWall) dX6_newWall_5, wp_getf (y := zX6_newWall) kF6_9 dX6_newWall_6, wp_sipush (y := zX6_newWall) (nI 1456) ks_1456 dX6_newWall_9, wp_il2 (y := zX6_newWall) dX6_newWall_12, wp_iadd (y := zX6_newWall) dX6_newWall_13, wp_il1 (y := zX6_newWall) dX6_newWall_14, wp_iast (y := zX6_newWall) dX6_newWall_15, wp_iconst (y := zX6_newWall) (nI 2) ki_2 dX6_newWall_16, wp_il2 (y := zX6_newWall) dX6_newWall_17, wp_imul (y := zX6_newWall) dX6_newWall_18, wp_ireti (y := zX6_newWall) rfl dX6_newWall_19, O.oc, O.g0, O.g1, O.g2, O.g3, O.g4, O.g5, O.g6, O.g7, O.g9, O.g10, O.g11, O.p0, O.p7, O.a1, O.a2, O.a3, O.a4, O.a5, O.a6, O.a7, O.a8, O.a9, E1]
  refine ⟨rfl, ?_, FrR_mu (FrR.refl _ _) _ _ (by omega) (by omega)⟩
  rw [mu_s]
  exact A.new j v
theorem mx_halves (O : MoSh sh m) (A : MeX M (μ (m + 1)) (DX XN XP XO XR XQ XA)) (h : Hf) (lh : LvH M h) (n : Nat) (hn : n ≤ 99) (en : ln M (wl h) = nI n) : cl sh zX6_halves [.ref m, .int (nI h.val)] μ (fun r μ' => r = some (.int (nI (n / 2))) ∧ MeX (sLn M (wl h) (nI ((n + 1) / 2))) (μ' (m + 1)) (DX XN XP XO XR XQ XA) ∧ FrR μ μ' m) := by
  have k2 : ¬ nI 2 = 0 := by decide
  have wd : nI h.val / nI 2 = nI (wl h).val := wl_div h
  have r := A.ln_ (wl h)
  rw [if_pos (show lv M (wl h) = true from lh), en] at r
  have e1 : nI n / nI 2 = nI (n / 2) := nI_div2 (by omega)
  have e2 : nI (n + 1) / nI 2 = nI ((n + 1) / 2) := nI_div2 (by omega)
  show wp sh zX6_halves 0 [.ref m, .int (nI h.val), .null] [] μ _
  simp (disch := first | omega | assumption) only [mm_op_some, true_and, and_true, mm_rc_some, mm_rc_none, pk_mul, nI_add, mm_in_t, nI_clamp, ok0, ok1, ok2, ok3, ok4, n1_0, n0_0, nI_le_, nI_lt_, if_true, if_false, not_true, not_false_eq_true, ce_lt, ce_cl, hf_lt, hf_cl, wa_lt, wa_cl, wp_al0 (y := zX6_halves) dX6_halves_0, wp_getf (y := zX6_halves) kF6_9 dX6_halves_1, wp_sipush (y := zX6_halves) (nI 1456) ks_1456 dX6_halves_4, wp_il1 (y := zX6_halves) dX6_halves_7, wp_iconst (y := zX6_halves) (nI 2) ki_2 dX6_halves_8, wp_idiv' (y := zX6_halves) dX6_halves_9, wp_iadd (y := zX6_halves) dX6_halves_10, wp_iald (y := zX6_halves) dX6_halves_11, wp_is2 (y := zX6_halves) dX6_halves_12, wp_al0 (y := zX6_halves) dX6_halves_13, wp_getf (y := zX6_halves) kF6_9 dX6_halves_14, wp_sipush (y := zX6_halves) (nI 1456) ks_1456 dX6_halves_17, wp_il1 (y := zX6_halves) dX6_halves_20, wp_iconst (y := zX6_halves) (nI 2) ki_2 dX6_halves_21, wp_idiv' (y := zX6_halves) dX6_halves_22, wp_iadd (y := zX6_halves) dX6_halves_23, wp_il2 (y := zX6_halves) dX6_halves_24, wp_iconst (y := zX6_halves) (nI 1) ki_1 dX6_halves_25, wp_iadd (y := zX6_halves) dX6_halves_26, wp_iconst (y := zX6_halves) (nI 2) ki_2 dX6_halves_27, wp_idiv' (y := zX6_halves) dX6_halves_28, wp_iast (y := zX6_halves) dX6_halves_29, wp_il2 (y := zX6_halves) dX6_halves_30, wp_iconst (y := zX6_halves) (nI 2) ki_2 dX6_halves_31, wp_idiv' (y := zX6_halves) dX6_halves_32, wp_ireti (y := zX6_halves) rfl dX6_halves_33, O.oc, O.g0, O.g1, O.g2, O.g3, O.g4, O.g5, O.g6, O.g7, O.g9, O.g10, O.g11, O.p0, O.p7, O.a1, O.a2, O.a3, O.a4, O.a5, O.a6, O.a7, O.a8, O.a9, wd, r, e1, e2]
  refine ⟨?_, FrR_mu (FrR.refl _ _) _ _ (by omega) (by omega)⟩
  rw [mu_s]
  exact A.wLn (wl h) _ lh
theorem mx_join (O : MoSh sh m) (A : MeX M (μ (m + 1)) (DX XN XP XO XR XQ XA)) (a c : Hf) : cl sh zX6_join [.ref m, .int (nI a.val), .int (nI c.val)] μ (fun r μ' => r = none ∧ MeX (lkM M a c) (μ' (m + 1)) (DX (fun k => XN k ∧ k ≠ a) (fun k => XP k ∧ k ≠ c) XO XR XQ XA) ∧ FrR μ μ' m) := by
  show wp sh zX6_join 0 [.ref m, .int (nI a.val), .int (nI c.val)] [] μ _
  simp (disch := first | omega | assumption) only [mm_op_some, true_and, and_true, mm_rc_some, mm_rc_none, pk_mul, nI_add, mm_in_t, nI_clamp, ok0, ok1, ok2, ok3, ok4, n1_0, n0_0, nI_le_, nI_lt_, if_true, if_false, not_true, not_false_eq_true, ce_lt, ce_cl, hf_lt, hf_cl, mu_s, wp_al0 (y := zX6_join) dX6_join_0, wp_getf (y := zX6_join) kF6_9 dX6_join_1, wp_bipush (y := zX6_join) (nI 16) kb_16 dX6_join_4, wp_il1 (y := zX6_join) dX6_join_6, wp_iadd (y := zX6_join) dX6_join_7, wp_il2 (y := zX6_join) dX6_join_8, wp_iast (y := zX6_join) dX6_join_9, wp_al0 (y := zX6_join) dX6_join_10, wp_getf (y := zX6_join) kF6_9 dX6_join_11, wp_sipush (y := zX6_join) (nI 304) ks_304 dX6_join_14, wp_il2 (y := zX6_join) dX6_join_17, wp_iadd (y := zX6_join) dX6_join_18, wp_il1 (y := zX6_join) dX6_join_19, wp_iast (y := zX6_join) dX6_join_20, wp_vret (y := zX6_join) rfl dX6_join_21, O.oc, O.g0, O.g1, O.g2, O.g3, O.g4, O.g5, O.g6, O.g7, O.g9, O.g10, O.g11, O.p0, O.p7, O.a1, O.a2, O.a3, O.a4, O.a5, O.a6, O.a7, O.a8, O.a9]
  refine ⟨?_, ?_⟩
  · exact (A.wNx a c).wPv c a
  · have := FrR_mu (FrR_mu (FrR.refl μ m) (16 + a.val) (nI c.val) (by omega) (by omega)) (304 + c.val) (nI a.val) (by omega) (by omega)
    rw [mu_s] at this
    exact this
theorem mx_enter (O : MoSh sh m) (A : MeX M (μ (m + 1)) (DX XN XP XO XR XQ XA)) (i t : Hf) (li : LvH M i) (lt : LvH M t) (x1 : ¬ XN t) (x2 : ¬ XO t) (it_ : i ≠ t) (hs : 0 < sd M (ow M t)) (hb : sd M (ow M t) < 1000) : cl sh zX6_enter [.ref m, .int (nI i.val), .int (nI t.val)] μ (fun r μ' => r = none ∧ MeX (inM M i t (nx M t)) (μ' (m + 1)) (DX (fun k => (XN k ∧ k ≠ t) ∧ k ≠ i) (fun k => (XP k ∧ k ≠ i) ∧ k ≠ nx M t) (fun k => XO k ∧ k ≠ i) XR XQ XA) ∧ FrR μ μ' m) := by
  have E1 : ∀ Q', cl sh zX6_next [.ref m, .int (nI t.val)] μ Q' = Q' (some (.int (nI (nx M t).val))) μ := fun Q' => mr_next O t _ (A.nx_ lt x1)
  show wp sh zX6_enter 0 [.ref m, .int (nI i.val), .int (nI t.val), .null] [] μ _
  simp (disch := first | omega | assumption) only [mm_op_some, true_and, and_true, mm_rc_some, mm_rc_none, pk_mul, nI_add, mm_in_t, nI_clamp, ok0, ok1, ok2, ok3, ok4, n1_0, n0_0, nI_le_, nI_lt_, if_true, if_false, not_true, not_false_eq_true, ce_lt, ce_cl, hf_lt, hf_cl, wp_al0 (y := zX6_enter) dX6_enter_0, wp_il2 (y := zX6_enter) dX6_enter_1, wp_cv1 (y := zX6_enter) kM6_90 (by decide) dX6_enter_2, (show yo zX6_next = 6 from rfl), wp_is3 (y := zX6_enter) dX6_enter_5, wp_al0 (y := zX6_enter) dX6_enter_6, wp_il2 (y := zX6_enter) dX6_enter_7, wp_il1 (y := zX6_enter) dX6_enter_8, wp_cv2 (y := zX6_enter) kM6_99 (by decide) dX6_enter_9, (show yo zX6_join = 6 from rfl), O.oc, O.g0, O.g1, O.g2, O.g3, O.g4, O.g5, O.g6, O.g7, O.g9, O.g10, O.g11, O.p0, O.p7, O.a1, O.a2, O.a3, O.a4, O.a5, O.a6, O.a7, O.a8, O.a9, E1]
  refine cl_mono (mx_join O A t i) ?_
  rintro r μ1 ⟨rfl, A1, F1⟩
  simp (disch := first | omega | assumption) only [mm_op_some, true_and, and_true, mm_rc_some, mm_rc_none, pk_mul, nI_add, mm_in_t, nI_clamp, ok0, ok1, ok2, ok3, ok4, n1_0, n0_0, nI_le_, nI_lt_, if_true, if_false, not_true, not_false_eq_true, ce_lt, ce_cl, hf_lt, hf_cl, wp_al0 (y := zX6_enter) dX6_enter_12, wp_il1 (y := zX6_enter) dX6_enter_13, wp_il3 (y := zX6_enter) dX6_enter_14, wp_cv2 (y := zX6_enter) kM6_99 (by decide) dX6_enter_15, (show yo zX6_join = 6 from rfl), O.oc, O.g0, O.g1, O.g2, O.g3, O.g4, O.g5, O.g6, O.g7, O.g9, O.g10, O.g11, O.p0, O.p7, O.a1, O.a2, O.a3, O.a4, O.a5, O.a6, O.a7, O.a8, O.a9]
  refine cl_mono (mx_join O A1 i (nx M t)) ?_
  rintro r μ2 ⟨rfl, A2, F2⟩
  have E3 : ∀ Q', cl sh zX6_cellOf [.ref m, .int (nI t.val)] μ2 Q' = Q' (some (.int (nI (ow M t).val))) μ2 := fun Q' => mr_cellOf O t _ (A2.ow_ lt x2)
  have A3 := A2.wOw i (ow M t)
  have E4 : ∀ Q', cl sh zX6_cellOf [.ref m, .int (nI i.val)] (mu μ2 (m + 1) (upd (μ2 (m + 1)) (592 + i.val) (nI (ow M t).val))) Q' = Q' (some (.int (nI (ow M t).val))) (mu μ2 (m + 1) (upd (μ2 (m + 1)) (592 + i.val) (nI (ow M t).val))) := fun Q' => mr_cellOf O i _ (by rw [mu_s, upd_s])
  have r1 : upd (μ2 (m + 1)) (592 + i.val) (nI (ow M t).val) (1648 + (ow M t).val) = nI (sd M (ow M t)) := A3.sd_ (ow M t)
  simp (disch := first | omega | assumption) only [mm_op_some, true_and, and_true, mm_rc_some, mm_rc_none, pk_mul, nI_add, mm_in_t, nI_clamp, ok0, ok1, ok2, ok3, ok4, n1_0, n0_0, nI_le_, nI_lt_, if_true, if_false, not_true, not_false_eq_true, ce_lt, ce_cl, hf_lt, hf_cl, wp_al0 (y := zX6_enter) dX6_enter_18, wp_getf (y := zX6_enter) kF6_9 dX6_enter_19, wp_sipush (y := zX6_enter) (nI 592) ks_592 dX6_enter_22, wp_il1 (y := zX6_enter) dX6_enter_25, wp_iadd (y := zX6_enter) dX6_enter_26, wp_al0 (y := zX6_enter) dX6_enter_27, wp_il2 (y := zX6_enter) dX6_enter_28, wp_cv1 (y := zX6_enter) kM6_84 (by decide) dX6_enter_29, (show yo zX6_cellOf = 6 from rfl), wp_iast (y := zX6_enter) dX6_enter_32, wp_al0 (y := zX6_enter) dX6_enter_33, wp_getf (y := zX6_enter) kF6_9 dX6_enter_34, wp_sipush (y := zX6_enter) (nI 1648) ks_1648 dX6_enter_37, wp_al0 (y := zX6_enter) dX6_enter_40, wp_il1 (y := zX6_enter) dX6_enter_41, wp_cv1 (y := zX6_enter) kM6_84 (by decide) dX6_enter_42, (show yo zX6_cellOf = 6 from rfl), wp_iadd (y := zX6_enter) dX6_enter_45, wp_dup2 (y := zX6_enter) dX6_enter_46, wp_iald (y := zX6_enter) dX6_enter_47, wp_iconst (y := zX6_enter) (nI 1) ki_1 dX6_enter_48, wp_iadd (y := zX6_enter) dX6_enter_49, wp_iast (y := zX6_enter) dX6_enter_50, wp_vret (y := zX6_enter) rfl dX6_enter_51, O.oc, O.g0, O.g1, O.g2, O.g3, O.g4, O.g5, O.g6, O.g7, O.g9, O.g10, O.g11, O.p0, O.p7, O.a1, O.a2, O.a3, O.a4, O.a5, O.a6, O.a7, O.a8, O.a9, E3, E4, mu_s, r1]
  refine ⟨?_, ?_⟩
  · exact A3.wSd (ow M t) (sd M (ow M t) + 1) hs
  · have := FrR_mu (FrR_mu (F1.trans F2) (592 + i.val) (nI (ow M t).val) (by omega) (by omega)) (1648 + (ow M t).val) (nI (sd M (ow M t) + 1)) (by omega) (by omega)
    rw [mu_s] at this
    exact this
theorem mx_counts (O : MoSh sh m) (A : MeX M (μ (m + 1)) (DX XN XP XO XR XQ XA)) (i : Hf) (x y : Int32) : cl sh zX6_counts [.ref m, .int (nI i.val), .int x, .int y] μ (fun r μ' => r = none ∧ MeX (rdM M i x y) (μ' (m + 1)) (DX XN XP XO (fun k => (XR k ∧ k ≠ i) ∧ k ≠ tw i) (fun k => (XQ k ∧ k ≠ i) ∧ k ≠ tw i) XA) ∧ FrR μ μ' m) := by
  show wp sh zX6_counts 0 [.ref m, .int (nI i.val), .int x, .int y] [] μ _
  simp (disch := first | omega | assumption) only [mm_op_some, true_and, and_true, mm_rc_some, mm_rc_none, pk_mul, nI_add, mm_in_t, nI_clamp, ok0, ok1, ok2, ok3, ok4, n1_0, n0_0, nI_le_, nI_lt_, if_true, if_false, not_true, not_false_eq_true, ce_lt, ce_cl, hf_lt, hf_cl, nI_xor, tw_xor, mu_s, wp_al0 (y := zX6_counts) dX6_counts_0, wp_getf (y := zX6_counts) kF6_9 dX6_counts_1, wp_sipush (y := zX6_counts) (nI 880) ks_880 dX6_counts_4, wp_il1 (y := zX6_counts) dX6_counts_7, wp_iadd (y := zX6_counts) dX6_counts_8, wp_il2 (y := zX6_counts) dX6_counts_9, wp_iast (y := zX6_counts) dX6_counts_10, wp_al0 (y := zX6_counts) dX6_counts_11, wp_getf (y := zX6_counts) kF6_9 dX6_counts_12, wp_sipush (y := zX6_counts) (nI 1168) ks_1168 dX6_counts_15, wp_il1 (y := zX6_counts) dX6_counts_18, wp_iadd (y := zX6_counts) dX6_counts_19, wp_il3 (y := zX6_counts) dX6_counts_20, wp_iast (y := zX6_counts) dX6_counts_21, wp_al0 (y := zX6_counts) dX6_counts_22, wp_getf (y := zX6_counts) kF6_9 dX6_counts_23, wp_sipush (y := zX6_counts) (nI 880) ks_880 dX6_counts_26, wp_il1 (y := zX6_counts) dX6_counts_29, wp_iconst (y := zX6_counts) (nI 1) ki_1 dX6_counts_30, wp_ixor (y := zX6_counts) dX6_counts_31, wp_iadd (y := zX6_counts) dX6_counts_32, wp_il2 (y := zX6_counts) dX6_counts_33, wp_ineg (y := zX6_counts) dX6_counts_34, wp_iast (y := zX6_counts) dX6_counts_35, wp_al0 (y := zX6_counts) dX6_counts_36, wp_getf (y := zX6_counts) kF6_9 dX6_counts_37, wp_sipush (y := zX6_counts) (nI 1168) ks_1168 dX6_counts_40, wp_il1 (y := zX6_counts) dX6_counts_43, wp_iconst (y := zX6_counts) (nI 1) ki_1 dX6_counts_44, wp_ixor (y := zX6_counts) dX6_counts_45, wp_iadd (y := zX6_counts) dX6_counts_46, wp_il3 (y := zX6_counts) dX6_counts_47, wp_ineg (y := zX6_counts) dX6_counts_48, wp_iast (y := zX6_counts) dX6_counts_49, wp_vret (y := zX6_counts) rfl dX6_counts_50, O.oc, O.g0, O.g1, O.g2, O.g3, O.g4, O.g5, O.g6, O.g7, O.g9, O.g10, O.g11, O.p0, O.p7, O.a1, O.a2, O.a3, O.a4, O.a5, O.a6, O.a7, O.a8, O.a9]
  refine ⟨?_, ?_⟩
  · exact (((A.wRx i x).wRy i y).wRx (tw i) (-x)).wRy (tw i) (-y)
  · have := FrR_mu (FrR_mu (FrR_mu (FrR_mu (FrR.refl μ m) (880 + i.val) x (by omega) (by omega)) (1168 + i.val) y (by omega) (by omega)) (880 + (tw i).val) (-x) (by omega) (by omega)) (1168 + (tw i).val) (-y) (by omega) (by omega)
    simp only [mu_s] at this
    exact this
theorem xr_loop (O : MoSh sh m) (c : Ce) (fr : Hf) (N : Nat) (hN : N < 2 ^ 31) (v1 : mm_U) : ∀ (d k : Nat) (M : Ms) (XO : Hf → Prop) (μ1 : mm_U) (h : Hf), k + d = N → (∀ i, LvH M (itn (nx M) i h)) → (∀ i, ¬ XN (itn (nx M) i h)) → itn (nx M) (d + 1) h = fr → (∀ i, 0 < i → i < d + 1 → itn (nx M) i h ≠ fr) → MeX M (μ1 (m + 1)) (DX XN XP XO XR XQ XA) → FrR v1 μ1 m → wp sh zX6_countRound 5 [.ref m, .int (nI fr.val), .int (nI c.val), .int (nI k), .int (nI h.val)] [] μ1 (fun r μ' => r = some (.int (nI (N + 1))) ∧ MeX (hoL c (d + 1) M h) (μ' (m + 1)) (DX XN XP (fun k => XO k ∧ ∀ i, i < d + 1 → itn (nx M) i h ≠ k) XR XQ XA) ∧ FrR v1 μ' m) := by
  intro d
  induction d with
  | zero =>
    intro k M XO μ1 h hk hl hx e1 e2 A F
    have A1 := A.wOw h c
    have lh : LvH M h := hl 0
    have E1 : ∀ Q', cl sh zX6_next [.ref m, .int (nI h.val)] (mu μ1 (m + 1) (upd (μ1 (m + 1)) (592 + h.val) (nI c.val))) Q' = Q' (some (.int (nI (nx M h).val))) (mu μ1 (m + 1) (upd (μ1 (m + 1)) (592 + h.val) (nI c.val))) := fun Q' => mr_next O h _ (by rw [mu_s]; exact A1.nx_ lh (hx 0))
    have e1' : nx M h = fr := e1
    rw [e1'] at E1
    have q : (nI fr.val = nI fr.val) = True := eq_true rfl
    have kN : k = N := by omega
    simp (disch := first | omega | assumption) only [mm_op_some, true_and, and_true, mm_rc_some, mm_rc_none, pk_mul, nI_add, mm_in_t, nI_clamp, ok0, ok1, ok2, ok3, ok4, n1_0, n0_0, nI_le_, nI_lt_, if_true, if_false, not_true, not_false_eq_true, ce_lt, ce_cl, hf_lt, hf_cl, wp_al0 (y := zX6_countRound) dX6_countRound_5, wp_getf (y := zX6_countRound) kF6_9 dX6_countRound_6, wp_sipush (y := zX6_countRound) (nI 592) ks_592 dX6_countRound_9, wp_il4 (y := zX6_countRound) dX6_countRound_12, wp_iadd (y := zX6_countRound) dX6_countRound_14, wp_il2 (y := zX6_countRound) dX6_countRound_15, wp_iast (y := zX6_countRound) dX6_countRound_16, wp_inc3 (y := zX6_countRound) (nI 1) ki_1 dX6_countRound_17, wp_al0 (y := zX6_countRound) dX6_countRound_20, wp_il4 (y := zX6_countRound) dX6_countRound_21, wp_cv1 (y := zX6_countRound) kM6_90 (by decide) dX6_countRound_23, (show yo zX6_next = 6 from rfl), wp_is4 (y := zX6_countRound) dX6_countRound_26, wp_il4 (y := zX6_countRound) dX6_countRound_28, wp_il1 (y := zX6_countRound) dX6_countRound_30, wp_icmp_ne (y := zX6_countRound) 5 (by decide) dX6_countRound_31, wp_il3 (y := zX6_countRound) dX6_countRound_34, wp_ireti (y := zX6_countRound) rfl dX6_countRound_35, O.oc, O.g0, O.g1, O.g2, O.g3, O.g4, O.g5, O.g6, O.g7, O.g9, O.g10, O.g11, O.p0, O.p7, O.a1, O.a2, O.a3, O.a4, O.a5, O.a6, O.a7, O.a8, O.a9, E1, q]
    refine ⟨by rw [kN], ?_, FrR_mu F _ _ (by omega) (by omega)⟩
    rw [mu_s]
    refine A1.mono (fun x dx => ?_)
    rcases dx with dx | dx | ⟨z, ⟨w1, w2⟩, w3⟩ | dx
    · exact Or.inl dx
    · exact Or.inr (Or.inl dx)
    · refine Or.inr (Or.inr (Or.inl ⟨z, ⟨w1, fun i hi => ?_⟩, w3⟩))
      have : i = 0 := by omega
      rw [this]
      exact fun e => w2 e.symm
    · exact Or.inr (Or.inr (Or.inr dx))
  | succ d ih =>
    intro k M XO μ1 h hk hl hx e1 e2 A F
    have A1 := A.wOw h c
    have lh : LvH M h := hl 0
    have E1 : ∀ Q', cl sh zX6_next [.ref m, .int (nI h.val)] (mu μ1 (m + 1) (upd (μ1 (m + 1)) (592 + h.val) (nI c.val))) Q' = Q' (some (.int (nI (nx M h).val))) (mu μ1 (m + 1) (upd (μ1 (m + 1)) (592 + h.val) (nI c.val))) := fun Q' => mr_next O h _ (by rw [mu_s]; exact A1.nx_ lh (hx 0))
    have q : (nI (nx M h).val = nI fr.val) = False := eq_false (by rw [hf_eq]; exact e2 1 (by omega) (by omega))
    rw [wp_al0 (y := zX6_countRound) dX6_countRound_5]
    simp (disch := first | omega | assumption) only [mm_op_some, true_and, and_true, mm_rc_some, mm_rc_none, pk_mul, nI_add, mm_in_t, nI_clamp, ok0, ok1, ok2, ok3, ok4, n1_0, n0_0, nI_le_, nI_lt_, if_true, if_false, not_true, not_false_eq_true, ce_lt, ce_cl, hf_lt, hf_cl, wp_getf (y := zX6_countRound) kF6_9 dX6_countRound_6, wp_sipush (y := zX6_countRound) (nI 592) ks_592 dX6_countRound_9, wp_il4 (y := zX6_countRound) dX6_countRound_12, wp_iadd (y := zX6_countRound) dX6_countRound_14, wp_il2 (y := zX6_countRound) dX6_countRound_15, wp_iast (y := zX6_countRound) dX6_countRound_16, wp_inc3 (y := zX6_countRound) (nI 1) ki_1 dX6_countRound_17, wp_al0 (y := zX6_countRound) dX6_countRound_20, wp_il4 (y := zX6_countRound) dX6_countRound_21, wp_cv1 (y := zX6_countRound) kM6_90 (by decide) dX6_countRound_23, (show yo zX6_next = 6 from rfl), wp_is4 (y := zX6_countRound) dX6_countRound_26, wp_il4 (y := zX6_countRound) dX6_countRound_28, wp_il1 (y := zX6_countRound) dX6_countRound_30, wp_icmp_ne (y := zX6_countRound) 5 (by decide) dX6_countRound_31, O.oc, O.g0, O.g1, O.g2, O.g3, O.g4, O.g5, O.g6, O.g7, O.g9, O.g10, O.g11, O.p0, O.p7, O.a1, O.a2, O.a3, O.a4, O.a5, O.a6, O.a7, O.a8, O.a9, E1, q]
    have q := ih (k + 1) (sOw M h c) (fun k => XO k ∧ k ≠ h) (mu μ1 (m + 1) (upd (μ1 (m + 1)) (592 + h.val) (nI c.val))) (nx M h) (by omega) (fun i => hl (i + 1)) (fun i => hx (i + 1)) e1 (fun i h1 h2 => e2 (i + 1) (by omega) (by omega)) (by rw [mu_s]; exact A1) (FrR_mu F _ _ (by omega) (by omega))
    refine wp_mono q ?_
    rintro r μ' ⟨w1, w2, w3⟩
    refine ⟨w1, w2.mono (fun x dx => ?_), w3⟩
    rcases dx with dx | dx | ⟨z, ⟨⟨y1, y2⟩, y3⟩, y4⟩ | dx
    · exact Or.inl dx
    · exact Or.inr (Or.inl dx)
    · refine Or.inr (Or.inr (Or.inl ⟨z, ⟨y1, fun i hi => ?_⟩, y4⟩))
      cases i with
      | zero => exact fun e => y2 e.symm
      | succ i => exact y3 i (by omega)
    · exact Or.inr (Or.inr (Or.inr dx))
theorem mx_countRound (O : MoSh sh m) (A : MeX M (μ (m + 1)) (DX XN XP XO XR XQ XA)) (c : Ce) (h : Hf) (n : Nat) (hn : n + 1 < 2 ^ 31) (hl : ∀ i, LvH M (itn (nx M) i h)) (hx : ∀ i, ¬ XN (itn (nx M) i h)) (e1 : itn (nx M) (n + 1) h = h) (e2 : ∀ i, 0 < i → i < n + 1 → itn (nx M) i h ≠ h) : cl sh zX6_countRound [.ref m, .int (nI h.val), .int (nI c.val)] μ (fun r μ' => r = some (.int (nI (n + 1))) ∧ MeX (hoL c (n + 1) M h) (μ' (m + 1)) (DX XN XP (fun k => XO k ∧ ∀ i, i < n + 1 → itn (nx M) i h ≠ k) XR XQ XA) ∧ FrR μ μ' m) := by
  show wp sh zX6_countRound 0 [.ref m, .int (nI h.val), .int (nI c.val), .null, .null] [] μ _
  simp (disch := first | omega | assumption) only [wp_iconst (y := zX6_countRound) (nI 0) ki_0 dX6_countRound_0, wp_is3 (y := zX6_countRound) dX6_countRound_1, wp_il1 (y := zX6_countRound) dX6_countRound_2, wp_is4 (y := zX6_countRound) dX6_countRound_3]
  exact xr_loop O c h n (by omega) μ n 0 M XO μ h (by omega) hl hx e1 e2 A (FrR.refl _ _)
theorem m_freeCell (O : MoSh sh m) (A : MeR M (μ (m + 1))) (B : SdB M) : cl sh zX6_freeCell [.ref m] μ Q = Q (some (.int (match frC M with | some j => nI j | none => nI 48))) μ := by
  have E1 : ∀ i, i < 48 → 0 < sd M (cI i) → ∀ Q', cl sh zX6_isCell [.ref m, .int (nI i)] μ Q' = Q' (some (.int (nI 1))) μ := fun i hi h Q' => m_isCell1 O A B hi h
  have E0 : ∀ i, i < 48 → ¬ 0 < sd M (cI i) → ∀ Q', cl sh zX6_isCell [.ref m, .int (nI i)] μ Q' = Q' (some (.int (nI 0))) μ := fun i hi h Q' => m_isCell0 O A B hi h
  show wp sh zX6_freeCell 0 [.ref m, .null] [] μ Q = _
  simp (disch := first | omega | assumption) only [wp_iconst (y := zX6_freeCell) (nI 0) ki_0 dX6_freeCell_0, wp_is1 (y := zX6_freeCell) dX6_freeCell_1]
  refine (lpf 48 (fun i => wp sh zX6_freeCell 2 [.ref m, .int (nI i)] [] μ Q) (fun k => decide (sd M (cI k) = 0)) (fun j => Q (some (.int (nI j))) μ) (fun i hi => ?_)).trans ?_
  · have h9 : (48 ≤ i) = False := eq_false (by omega)
    rw [wp_il1 (y := zX6_freeCell) dX6_freeCell_2]
    by_cases h : sd M (cI i) = 0
    · have E := E0 i hi (by omega)
      rw [if_pos (decide_eq_true h)]
      simp (disch := first | omega | assumption) only [mm_op_some, true_and, and_true, mm_rc_some, mm_rc_none, pk_mul, nI_add, mm_in_t, nI_clamp, ok0, ok1, ok2, ok3, ok4, n1_0, n0_0, nI_le_, nI_lt_, if_true, if_false, not_true, not_false_eq_true, ce_lt, ce_cl, hf_lt, hf_cl, n0_zz, wp_bipush (y := zX6_freeCell) (nI 48) kb_48 dX6_freeCell_3, wp_icmp_ge (y := zX6_freeCell) 22 (by decide) dX6_freeCell_5, wp_al0 (y := zX6_freeCell) dX6_freeCell_8, wp_il1 (y := zX6_freeCell) dX6_freeCell_9, wp_cv1 (y := zX6_freeCell) kM6_93 (by decide) dX6_freeCell_10, (show yo zX6_isCell = 6 from rfl), wp_if_eq (y := zX6_freeCell) 22 (by decide) dX6_freeCell_13, wp_il1 (y := zX6_freeCell) dX6_freeCell_22, wp_ireti (y := zX6_freeCell) rfl dX6_freeCell_23, O.oc, O.g0, O.g1, O.g2, O.g3, O.g4, O.g5, O.g6, O.g7, O.g9, O.g10, O.g11, O.p0, O.p7, O.a1, O.a2, O.a3, O.a4, O.a5, O.a6, O.a7, O.a8, O.a9, E, h9]
    · have E := E1 i hi (by omega)
      rw [if_neg (fun z => h (of_decide_eq_true z))]
      simp (disch := first | omega | assumption) only [mm_op_some, true_and, and_true, mm_rc_some, mm_rc_none, pk_mul, nI_add, mm_in_t, nI_clamp, ok0, ok1, ok2, ok3, ok4, n1_0, n0_0, nI_le_, nI_lt_, if_true, if_false, not_true, not_false_eq_true, ce_lt, ce_cl, hf_lt, hf_cl, n1_zz, wp_bipush (y := zX6_freeCell) (nI 48) kb_48 dX6_freeCell_3, wp_icmp_ge (y := zX6_freeCell) 22 (by decide) dX6_freeCell_5, wp_al0 (y := zX6_freeCell) dX6_freeCell_8, wp_il1 (y := zX6_freeCell) dX6_freeCell_9, wp_cv1 (y := zX6_freeCell) kM6_93 (by decide) dX6_freeCell_10, (show yo zX6_isCell = 6 from rfl), wp_if_eq (y := zX6_freeCell) 22 (by decide) dX6_freeCell_13, wp_inc1 (y := zX6_freeCell) (nI 1) ki_1 dX6_freeCell_16, wp_goto (y := zX6_freeCell) 2 (by decide) dX6_freeCell_19, O.oc, O.g0, O.g1, O.g2, O.g3, O.g4, O.g5, O.g6, O.g7, O.g9, O.g10, O.g11, O.p0, O.p7, O.a1, O.a2, O.a3, O.a4, O.a5, O.a6, O.a7, O.a8, O.a9, E, h9]
  · unfold frC
    cases hq : fd (fun k => decide (sd M (cI k) = 0)) 48 0 with
    | some j => rfl
    | none =>
      show wp sh zX6_freeCell 2 _ _ _ _ = _
      rw [wp_il1 (y := zX6_freeCell) dX6_freeCell_2]
      simp (disch := first | omega | assumption) only [mm_op_some, true_and, and_true, mm_rc_some, mm_rc_none, pk_mul, nI_add, mm_in_t, nI_clamp, ok0, ok1, ok2, ok3, ok4, n1_0, n0_0, nI_le_, nI_lt_, if_true, if_false, not_true, not_false_eq_true, ce_lt, ce_cl, hf_lt, hf_cl, wp_bipush (y := zX6_freeCell) (nI 48) kb_48 dX6_freeCell_3, wp_icmp_ge (y := zX6_freeCell) 22 (by decide) dX6_freeCell_5, wp_il1 (y := zX6_freeCell) dX6_freeCell_22, wp_ireti (y := zX6_freeCell) rfl dX6_freeCell_23, O.oc, O.g0, O.g1, O.g2, O.g3, O.g4, O.g5, O.g6, O.g7, O.g9, O.g10, O.g11, O.p0, O.p7, O.a1, O.a2, O.a3, O.a4, O.a5, O.a6, O.a7, O.a8, O.a9, Nat.le_refl]
end MXR
