section X5G
variable {sh : mm_Sh} {x f p q b : Nat} {μ : mm_U} {M : Ms} {s : Fo} {I : Ms → Prop} {Q : Option Value → mm_U → Prop}
theorem nr5 : ∀ i : Fin 5, nr (nI i.val - nI 2) = true ∧ (nI 2 < nI i.val - nI 2) = False ∧ nI i.val - nI 2 + nI 1 = nI (i.val + 1) - nI 2 := by
  have key : ∀ i : Fin 5, nr (nI i.val - nI 2) = true ∧ ¬ (nI 2 < nI i.val - nI 2) ∧ nI i.val - nI 2 + nI 1 = nI (i.val + 1) - nI 2 := by decide
  exact fun i => ⟨(key i).1, eq_false (key i).2.1, (key i).2.2⟩
theorem nr1 : nr (nI 1) = true := by decide
def spq (c : Ce) (what : Int32) (i : Nat) : P3 := if what = 0 then p3 c (nI 1) (nI i - nI 2) else p3 c (nI i - nI 2) (nI 1)
def a_spans (s : Fo) (c n what : Int32) : Int32 := match ceO s.1 c with
  | none => -1
  | some a => if what < 0 ∨ nI 1 < what then -1 else if nI (sd s.1 a) < n then nI 0 else bI (fd (fun i => ((srF s.1 n a).1 (spq a what i)).isSome) 5 0).isSome
theorem x_spans (X : XSh sh x f p q) (G : GoodX I) (R : RepF s μ f) (hI_ : I s.1) (c n what : Int32) : cl sh zX5_spans [.ref x, .int c, .int n, .int what] μ (RT I f (a_spans s c n what, s)) := by
  obtain ⟨F, P, W, d1, d2⟩ := X.2
  have S := F.2.1
  have Soc := S.oc
  obtain ⟨B, L⟩ := G.1.1 _ hI_
  obtain ⟨H, O⟩ := G.2.2.1 _ hI_
  show wp sh zX5_spans 0 [.ref x, .int c, .int n, .int what, .null, .null] [] μ _
  unfold a_spans
  cases ec : ceO s.1 c with
  | none =>
    have Ec : ∀ Q', cl sh zX2_hasCell [.ref (f + 1), .int c] μ Q' = Q' (some (.int (nI 0))) μ := fun Q' => c_hasCellN S R.1 ec
    simp (disch := first | omega | assumption) only [mm_op_some, true_and, and_true, mm_rc_some, mm_rc_none, nI_xor, tw_xor, pk_mul, nI_add, mm_in_t, nI_clamp, ok0, ok1, ok2, ok3, ok4, n1_0, n0_0, n0_zz, n1_zz, bI_eq0, bI_ne0, bI_zz, nI_le_, nI_lt_, nI_eq_, nI_lt0, nI_ge0, nI_gt0, nI_le0, nI_eq0, m1_lt0, m1_ge0, if_true, if_false, not_true, not_false_eq_true, Classical.not_not, true_or, or_true, false_or, n1_1, k10, Bool.true_eq_false, Bool.false_eq_true, Nat.le_refl, and_self, and_false, false_and, or_self, or_false, hf_lt, ce_lt, hf_cl, ce_cl, i_irr, i_rfl, wp_al0 (y := zX5_spans) dX5_spans_0, wp_getf (y := zX5_spans) kF5_10 dX5_spans_1, wp_getf (y := zX5_spans) kF5_46 dX5_spans_4, wp_il1 (y := zX5_spans) dX5_spans_7, wp_cv1 (y := zX5_spans) kM5_50 (by decide) dX5_spans_8, (show yo zX2_hasCell = 2 from rfl), wp_if_eq (y := zX5_spans) 23 (by decide) dX5_spans_11, wp_iconst (y := zX5_spans) ((-1)) ki_m1 dX5_spans_23, wp_ireti (y := zX5_spans) rfl dX5_spans_24, X.oc, X.g0, X.g1, X.g2, F.oc, F.g0, F.g1, F.g2, F.g3, F.g4, F.g5, F.g6, F.g7, F.g8, F.g9, F.g10, Soc, Ec]
    exact RT_mk R hI_
  | some a =>
    obtain ⟨rfl, ha⟩ := ceO_some ec
    have Ec : ∀ Q', cl sh zX2_hasCell [.ref (f + 1), .int (nI a.val)] μ Q' = Q' (some (.int (nI 1))) μ := fun Q' => c_hasCellS S R.1 B ha
    dsimp only
    have bs := B a
    by_cases h1 : what < 0
    · rw [if_pos (Or.inl h1)]
      simp (disch := first | omega | assumption) only [mm_op_some, true_and, and_true, mm_rc_some, mm_rc_none, ok0, ok1, ok2, ok3, ok4, n1_0, n0_0, if_true, if_false, wp_al0 (y := zX5_spans) dX5_spans_0, wp_getf (y := zX5_spans) kF5_10 dX5_spans_1, wp_getf (y := zX5_spans) kF5_46 dX5_spans_4, wp_il1 (y := zX5_spans) dX5_spans_7, wp_cv1 (y := zX5_spans) kM5_50 (by decide) dX5_spans_8, (show yo zX2_hasCell = 2 from rfl), wp_if_eq (y := zX5_spans) 23 (by decide) dX5_spans_11, wp_il3 (y := zX5_spans) dX5_spans_14, wp_if_lt (y := zX5_spans) 23 (by decide) dX5_spans_15, wp_iconst (y := zX5_spans) ((-1)) ki_m1 dX5_spans_23, wp_ireti (y := zX5_spans) rfl dX5_spans_24, X.oc, X.g0, X.g1, X.g2, F.oc, F.g0, F.g1, F.g2, F.g3, F.g4, F.g5, F.g6, F.g7, F.g8, F.g9, F.g10, Soc, Ec, h1]
      exact RT_mk R hI_
    by_cases h2 : nI 1 < what
    · rw [if_pos (Or.inr h2)]
      have h2' : (what ≤ nI 1) = False := i_nle h2
      simp (disch := first | omega | assumption) only [mm_op_some, true_and, and_true, mm_rc_some, mm_rc_none, ok0, ok1, ok2, ok3, ok4, n1_0, n0_0, if_true, if_false, wp_al0 (y := zX5_spans) dX5_spans_0, wp_getf (y := zX5_spans) kF5_10 dX5_spans_1, wp_getf (y := zX5_spans) kF5_46 dX5_spans_4, wp_il1 (y := zX5_spans) dX5_spans_7, wp_cv1 (y := zX5_spans) kM5_50 (by decide) dX5_spans_8, (show yo zX2_hasCell = 2 from rfl), wp_if_eq (y := zX5_spans) 23 (by decide) dX5_spans_11, wp_il3 (y := zX5_spans) dX5_spans_14, wp_if_lt (y := zX5_spans) 23 (by decide) dX5_spans_15, wp_il3 (y := zX5_spans) dX5_spans_18, wp_iconst (y := zX5_spans) (nI 1) ki_1 dX5_spans_19, wp_icmp_le (y := zX5_spans) 25 (by decide) dX5_spans_20, wp_iconst (y := zX5_spans) ((-1)) ki_m1 dX5_spans_23, wp_ireti (y := zX5_spans) rfl dX5_spans_24, X.oc, X.g0, X.g1, X.g2, F.oc, F.g0, F.g1, F.g2, F.g3, F.g4, F.g5, F.g6, F.g7, F.g8, F.g9, F.g10, Soc, Ec, h1, h2']
      exact RT_mk R hI_
    rw [if_neg (fun t => t.elim h1 h2)]
    have h2' : (what ≤ nI 1) = True := i_le h2
    have rs := R.1.2.2.2.1 a
    by_cases h3 : nI (sd s.1 a) < n
    · rw [if_pos h3]
      have h3' : (n ≤ nI (sd s.1 a)) = False := i_nle h3
      simp (disch := first | omega | assumption) only [mm_op_some, true_and, and_true, mm_rc_some, mm_rc_none, ok0, ok1, ok2, ok3, ok4, n1_0, n0_0, if_true, if_false, wp_al0 (y := zX5_spans) dX5_spans_0, wp_getf (y := zX5_spans) kF5_10 dX5_spans_1, wp_getf (y := zX5_spans) kF5_46 dX5_spans_4, wp_il1 (y := zX5_spans) dX5_spans_7, wp_cv1 (y := zX5_spans) kM5_50 (by decide) dX5_spans_8, (show yo zX2_hasCell = 2 from rfl), wp_if_eq (y := zX5_spans) 23 (by decide) dX5_spans_11, wp_il3 (y := zX5_spans) dX5_spans_14, wp_if_lt (y := zX5_spans) 23 (by decide) dX5_spans_15, wp_il3 (y := zX5_spans) dX5_spans_18, wp_iconst (y := zX5_spans) (nI 1) ki_1 dX5_spans_19, wp_icmp_le (y := zX5_spans) 25 (by decide) dX5_spans_20, wp_al0 (y := zX5_spans) dX5_spans_25, wp_getf (y := zX5_spans) kF5_10 dX5_spans_26, wp_getf (y := zX5_spans) kF5_46 dX5_spans_29, wp_getf (y := zX5_spans) kF5_127 dX5_spans_32, wp_il1 (y := zX5_spans) dX5_spans_35, wp_iald (y := zX5_spans) dX5_spans_36, wp_il2 (y := zX5_spans) dX5_spans_37, wp_icmp_ge (y := zX5_spans) 43 (by decide) dX5_spans_38, wp_iconst (y := zX5_spans) (nI 0) ki_0 dX5_spans_41, wp_ireti (y := zX5_spans) rfl dX5_spans_42, X.oc, X.g0, X.g1, X.g2, F.oc, F.g0, F.g1, F.g2, F.g3, F.g4, F.g5, F.g6, F.g7, F.g8, F.g9, F.g10, S.oc, S.g0, S.g1, S.g2, S.g3, S.g4, S.g5, S.g6, S.g7, S.a1, S.a2, S.a3, S.a4, S.a5, S.a6, S.a7, S.a8, Ec, h1, h2', rs, h3', ce_lt, ce_cl]
      exact RT_mk R hI_
    rw [if_neg h3]
    have h3' : (n ≤ nI (sd s.1 a)) = True := i_le h3
    simp (disch := first | omega | assumption) only [mm_op_some, true_and, and_true, mm_rc_some, mm_rc_none, ok0, ok1, ok2, ok3, ok4, n1_0, n0_0, if_true, if_false, wp_al0 (y := zX5_spans) dX5_spans_0, wp_getf (y := zX5_spans) kF5_10 dX5_spans_1, wp_getf (y := zX5_spans) kF5_46 dX5_spans_4, wp_il1 (y := zX5_spans) dX5_spans_7, wp_cv1 (y := zX5_spans) kM5_50 (by decide) dX5_spans_8, (show yo zX2_hasCell = 2 from rfl), wp_if_eq (y := zX5_spans) 23 (by decide) dX5_spans_11, wp_il3 (y := zX5_spans) dX5_spans_14, wp_if_lt (y := zX5_spans) 23 (by decide) dX5_spans_15, wp_il3 (y := zX5_spans) dX5_spans_18, wp_iconst (y := zX5_spans) (nI 1) ki_1 dX5_spans_19, wp_icmp_le (y := zX5_spans) 25 (by decide) dX5_spans_20, wp_al0 (y := zX5_spans) dX5_spans_25, wp_getf (y := zX5_spans) kF5_10 dX5_spans_26, wp_getf (y := zX5_spans) kF5_46 dX5_spans_29, wp_getf (y := zX5_spans) kF5_127 dX5_spans_32, wp_il1 (y := zX5_spans) dX5_spans_35, wp_iald (y := zX5_spans) dX5_spans_36, wp_il2 (y := zX5_spans) dX5_spans_37, wp_icmp_ge (y := zX5_spans) 43 (by decide) dX5_spans_38, wp_al0 (y := zX5_spans) dX5_spans_43, wp_getf (y := zX5_spans) kF5_26 dX5_spans_44, wp_al0 (y := zX5_spans) dX5_spans_47, wp_getf (y := zX5_spans) kF5_10 dX5_spans_48, wp_getf (y := zX5_spans) kF5_46 dX5_spans_51, wp_il1 (y := zX5_spans) dX5_spans_54, wp_il2 (y := zX5_spans) dX5_spans_55, wp_cv_rii (y := zX5_spans) kM5_201 (by decide) dX5_spans_56, (show yo zX4_spreadRound = 4 from rfl), X.oc, X.g0, X.g1, X.g2, F.oc, F.g0, F.g1, F.g2, F.g3, F.g4, F.g5, F.g6, F.g7, F.g8, F.g9, F.g10, S.oc, S.g0, S.g1, S.g2, S.g3, S.g4, S.g5, S.g6, S.g7, S.a1, S.a2, S.a3, S.a4, S.a5, S.a6, S.a7, S.a8, Ec, h1, h2', rs, h3', ce_lt, ce_cl, W.oc]
    refine cl_mono (c_spreadRound W S R.1 B L H O (by omega) n a ha) ?_
    rintro r μ1 ⟨rfl, R1, F1⟩
    have R2 : RepF s μ1 f := R.cg (fun t h1 h2 => F1 t (by omega))
    have m2 : (-2 : Int32) = nI 0 - nI 2 := by decide
    simp (disch := first | omega | assumption) only [mm_rc_none, wp_bipush (y := zX5_spans) ((-2)) kb_m2 dX5_spans_59, wp_is4 (y := zX5_spans) dX5_spans_61, m2]
    generalize hq : RT I f (bI (fd (fun i => ((srF s.1 n a).1 (spq a what i)).isSome) 5 0).isSome, s) = QQ
    refine Eq.mpr (lpf 5 (fun i => wp sh zX5_spans 63 [.ref x, .int (nI a.val), .int n, .int what, .int (nI i - nI 2), if i = 0 then .null else .int (nI (spq a what (i - 1)).val)] [] μ1 QQ) (fun i => ((srF s.1 n a).1 (spq a what i)).isSome) (fun i => QQ (some (.int (nI 1))) μ1) (fun i hi => ?_)) ?_
    · obtain ⟨g1, g2, g3⟩ := nr5 ⟨i, hi⟩
      dsimp only at g1 g2 g3
      have rd := R1.1 (spq a what i)
      have eg := fo_ge0 ((srF s.1 n a).1 (spq a what i)) (fun j hj => by have := R1.2.2.2.2.2.1 _ j hj; omega)
      have eg2 := fo_lt0 ((srF s.1 n a).1 (spq a what i)) (fun j hj => by have := R1.2.2.2.2.2.1 _ j hj; omega)
      have E3 : ∀ Q', cl sh zX4_spot [.int (nI a.val), .int (nI 1), .int (nI i - nI 2)] μ1 Q' = Q' (some (.int (nI (p3 a (nI 1) (nI i - nI 2)).val))) μ1 := fun Q' => by rw [c_spot, (p3_val nr1 g1).1]
      have E4 : ∀ Q', cl sh zX4_spot [.int (nI a.val), .int (nI i - nI 2), .int (nI 1)] μ1 Q' = Q' (some (.int (nI (p3 a (nI i - nI 2) (nI 1)).val))) μ1 := fun Q' => by rw [c_spot, (p3_val g1 nr1).1]
      generalize (if i = 0 then Value.null else .int (nI (spq a what (i - 1)).val)) = v5
      have pre : ∀ QQ, wp sh zX5_spans 63 [.ref x, .int (nI a.val), .int n, .int what, .int (nI i - nI 2), v5] [] μ1 QQ = wp sh zX5_spans 92 [.ref x, .int (nI a.val), .int n, .int what, .int (nI i - nI 2), .int (nI (spq a what i).val)] [] μ1 QQ := by
        intro QQ
        unfold spq
        by_cases hw : what = 0
        · rw [if_pos hw]
          have hw' := eq_true hw
          simp (disch := first | omega | assumption) only [mm_op_some, true_and, and_true, mm_rc_some, mm_rc_none, ok0, ok1, ok2, ok3, ok4, n1_0, n0_0, if_true, if_false, wp_il4 (y := zX5_spans) dX5_spans_63, wp_iconst (y := zX5_spans) (nI 2) ki_2 dX5_spans_65, wp_icmp_gt (y := zX5_spans) 113 (by decide) dX5_spans_66, wp_il3 (y := zX5_spans) dX5_spans_69, wp_if_ne (y := zX5_spans) 83 (by decide) dX5_spans_70, wp_il1 (y := zX5_spans) dX5_spans_73, wp_iconst (y := zX5_spans) (nI 1) ki_1 dX5_spans_74, wp_il4 (y := zX5_spans) dX5_spans_75, wp_cs3 (y := zX5_spans) kM5_208 (by decide) dX5_spans_77, wp_goto (y := zX5_spans) 90 (by decide) dX5_spans_80, wp_is5 (y := zX5_spans) dX5_spans_90, g2, hw', not_true, E3]
        · rw [if_neg hw]
          simp (disch := first | omega | assumption) only [mm_op_some, true_and, and_true, mm_rc_some, mm_rc_none, ok0, ok1, ok2, ok3, ok4, n1_0, n0_0, if_true, if_false, wp_il4 (y := zX5_spans) dX5_spans_63, wp_iconst (y := zX5_spans) (nI 2) ki_2 dX5_spans_65, wp_icmp_gt (y := zX5_spans) 113 (by decide) dX5_spans_66, wp_il3 (y := zX5_spans) dX5_spans_69, wp_if_ne (y := zX5_spans) 83 (by decide) dX5_spans_70, wp_il1 (y := zX5_spans) dX5_spans_83, wp_il4 (y := zX5_spans) dX5_spans_84, wp_iconst (y := zX5_spans) (nI 1) ki_1 dX5_spans_86, wp_cs3 (y := zX5_spans) kM5_208 (by decide) dX5_spans_87, wp_is5 (y := zX5_spans) dX5_spans_90, g2, hw, not_false_eq_true, E4]
      rw [pre, if_neg (Nat.succ_ne_zero i), Nat.add_sub_cancel]
      cases ed : (srF s.1 n a).1 (spq a what i) with
      | none =>
        rw [ed] at rd eg2
        have e' : (fo (none : Option Nat) < 0) = True := eg2.trans (eq_true rfl)
        simp (disch := first | omega | assumption) only [mm_op_some, true_and, and_true, mm_rc_some, mm_rc_none, ok0, ok1, ok2, ok3, ok4, n1_0, n0_0, if_true, if_false, wp_al0 (y := zX5_spans) dX5_spans_92, wp_getf (y := zX5_spans) kF5_26 dX5_spans_93, wp_getf (y := zX5_spans) kF5_205 dX5_spans_96, wp_il5 (y := zX5_spans) dX5_spans_99, wp_iald (y := zX5_spans) dX5_spans_101, wp_if_lt (y := zX5_spans) 107 (by decide) dX5_spans_102, wp_inc4 (y := zX5_spans) (nI 1) ki_1 dX5_spans_107, wp_goto (y := zX5_spans) 63 (by decide) dX5_spans_110, X.oc, X.g0, X.g1, X.g2, W.oc, W.g0, W.g1, W.g2, W.g3, W.g4, W.p4, W.a1, W.a2, W.a3, W.a4, p3_lt, p3_cl, rd, e', Option.isSome_none, Bool.false_eq_true, g3]
      | some j =>
        rw [ed] at rd eg2
        have e' : (fo (some j) < 0) = False := eg2.trans (eq_false (fun t => by cases t))
        simp (disch := first | omega | assumption) only [mm_op_some, true_and, and_true, mm_rc_some, mm_rc_none, ok0, ok1, ok2, ok3, ok4, n1_0, n0_0, if_true, if_false, wp_al0 (y := zX5_spans) dX5_spans_92, wp_getf (y := zX5_spans) kF5_26 dX5_spans_93, wp_getf (y := zX5_spans) kF5_205 dX5_spans_96, wp_il5 (y := zX5_spans) dX5_spans_99, wp_iald (y := zX5_spans) dX5_spans_101, wp_if_lt (y := zX5_spans) 107 (by decide) dX5_spans_102, wp_iconst (y := zX5_spans) (nI 1) ki_1 dX5_spans_105, wp_ireti (y := zX5_spans) rfl dX5_spans_106, X.oc, X.g0, X.g1, X.g2, W.oc, W.g0, W.g1, W.g2, W.g3, W.g4, W.p4, W.a1, W.a2, W.a3, W.a4, p3_lt, p3_cl, rd, e', Option.isSome_some]
    · rw [← hq]
      cases fd (fun i => ((srF s.1 n a).1 (spq a what i)).isSome) 5 0 with
      | some j => exact RT_mk R2 hI_
      | none =>
        dsimp only
        have g2 : (nI 2 < nI 5 - nI 2) = True := eq_true (by decide)
        simp (disch := first | omega | assumption) only [mm_op_some, true_and, and_true, mm_rc_some, mm_rc_none, ok0, ok1, ok2, ok3, ok4, n1_0, n0_0, if_true, if_false, wp_il4 (y := zX5_spans) dX5_spans_63, wp_iconst (y := zX5_spans) (nI 2) ki_2 dX5_spans_65, wp_icmp_gt (y := zX5_spans) 113 (by decide) dX5_spans_66, wp_iconst (y := zX5_spans) (nI 0) ki_0 dX5_spans_113, wp_ireti (y := zX5_spans) rfl dX5_spans_114, g2]
        exact RT_mk R2 hI_
def a_reach (s : Fo) (c n what : Int32) : Int32 := match ceO s.1 c with
  | none => -1
  | some a => if what < 0 ∨ nI 1 < what then -1 else if nI (sd s.1 a) = n then (if what = 0 then nI 0 else -1) else match fd (swp s.1 a n) 144 0 with
    | some w => if what = 0 then nI 1 else nI w
    | none => match fd (twP s.1 a n) 144 0 with
      | some w => if what = 0 then nI 2 else nI w
      | none => -1
theorem x_reach (X : XSh sh x f p q) (G : GoodX I) (R : RepF s μ f) (hI_ : I s.1) (c n what : Int32) : cl sh zX5_reach [.ref x, .int c, .int n, .int what] μ (RT I f (a_reach s c n what, s)) := by
  obtain ⟨F, P, W, d1, d2⟩ := X.2
  have S := F.2.1
  have Soc := S.oc
  obtain ⟨B, L⟩ := G.1.1 _ hI_
  obtain ⟨H, O⟩ := G.2.2.1 _ hI_
  show wp sh zX5_reach 0 [.ref x, .int c, .int n, .int what, .null] [] μ _
  unfold a_reach
  cases ec : ceO s.1 c with
  | none =>
    have Ec : ∀ Q', cl sh zX2_hasCell [.ref (f + 1), .int c] μ Q' = Q' (some (.int (nI 0))) μ := fun Q' => c_hasCellN S R.1 ec
    simp (disch := first | omega | assumption) only [mm_op_some, true_and, and_true, mm_rc_some, mm_rc_none, nI_xor, tw_xor, pk_mul, nI_add, mm_in_t, nI_clamp, ok0, ok1, ok2, ok3, ok4, n1_0, n0_0, n0_zz, n1_zz, bI_eq0, bI_ne0, bI_zz, nI_le_, nI_lt_, nI_eq_, nI_lt0, nI_ge0, nI_gt0, nI_le0, nI_eq0, m1_lt0, m1_ge0, if_true, if_false, not_true, not_false_eq_true, Classical.not_not, true_or, or_true, false_or, n1_1, k10, Bool.true_eq_false, Bool.false_eq_true, Nat.le_refl, and_self, and_false, false_and, or_self, or_false, hf_lt, ce_lt, hf_cl, ce_cl, i_irr, i_rfl, wp_al0 (y := zX5_reach) dX5_reach_0, wp_getf (y := zX5_reach) kF5_10 dX5_reach_1, wp_getf (y := zX5_reach) kF5_46 dX5_reach_4, wp_il1 (y := zX5_reach) dX5_reach_7, wp_cv1 (y := zX5_reach) kM5_50 (by decide) dX5_reach_8, (show yo zX2_hasCell = 2 from rfl), wp_if_eq (y := zX5_reach) 23 (by decide) dX5_reach_11, wp_iconst (y := zX5_reach) ((-1)) ki_m1 dX5_reach_23, wp_ireti (y := zX5_reach) rfl dX5_reach_24, X.oc, X.g0, X.g1, X.g2, F.oc, F.g0, F.g1, F.g2, F.g3, F.g4, F.g5, F.g6, F.g7, F.g8, F.g9, F.g10, Soc, Ec]
    exact RT_mk R hI_
  | some a =>
    obtain ⟨rfl, ha⟩ := ceO_some ec
    have Ec : ∀ Q', cl sh zX2_hasCell [.ref (f + 1), .int (nI a.val)] μ Q' = Q' (some (.int (nI 1))) μ := fun Q' => c_hasCellS S R.1 B ha
    dsimp only
    have bs := B a
    by_cases h1 : what < 0
    · rw [if_pos (Or.inl h1)]
      simp (disch := first | omega | assumption) only [mm_op_some, true_and, and_true, mm_rc_some, mm_rc_none, ok0, ok1, ok2, ok3, ok4, n1_0, n0_0, if_true, if_false, wp_al0 (y := zX5_reach) dX5_reach_0, wp_getf (y := zX5_reach) kF5_10 dX5_reach_1, wp_getf (y := zX5_reach) kF5_46 dX5_reach_4, wp_il1 (y := zX5_reach) dX5_reach_7, wp_cv1 (y := zX5_reach) kM5_50 (by decide) dX5_reach_8, (show yo zX2_hasCell = 2 from rfl), wp_if_eq (y := zX5_reach) 23 (by decide) dX5_reach_11, wp_il3 (y := zX5_reach) dX5_reach_14, wp_if_lt (y := zX5_reach) 23 (by decide) dX5_reach_15, wp_iconst (y := zX5_reach) ((-1)) ki_m1 dX5_reach_23, wp_ireti (y := zX5_reach) rfl dX5_reach_24, X.oc, X.g0, X.g1, X.g2, F.oc, F.g0, F.g1, F.g2, F.g3, F.g4, F.g5, F.g6, F.g7, F.g8, F.g9, F.g10, Soc, Ec, h1]
      exact RT_mk R hI_
    by_cases h2 : nI 1 < what
    · rw [if_pos (Or.inr h2)]
      have h2' : (what ≤ nI 1) = False := i_nle h2
      simp (disch := first | omega | assumption) only [mm_op_some, true_and, and_true, mm_rc_some, mm_rc_none, ok0, ok1, ok2, ok3, ok4, n1_0, n0_0, if_true, if_false, wp_al0 (y := zX5_reach) dX5_reach_0, wp_getf (y := zX5_reach) kF5_10 dX5_reach_1, wp_getf (y := zX5_reach) kF5_46 dX5_reach_4, wp_il1 (y := zX5_reach) dX5_reach_7, wp_cv1 (y := zX5_reach) kM5_50 (by decide) dX5_reach_8, (show yo zX2_hasCell = 2 from rfl), wp_if_eq (y := zX5_reach) 23 (by decide) dX5_reach_11, wp_il3 (y := zX5_reach) dX5_reach_14, wp_if_lt (y := zX5_reach) 23 (by decide) dX5_reach_15, wp_il3 (y := zX5_reach) dX5_reach_18, wp_iconst (y := zX5_reach) (nI 1) ki_1 dX5_reach_19, wp_icmp_le (y := zX5_reach) 25 (by decide) dX5_reach_20, wp_iconst (y := zX5_reach) ((-1)) ki_m1 dX5_reach_23, wp_ireti (y := zX5_reach) rfl dX5_reach_24, X.oc, X.g0, X.g1, X.g2, F.oc, F.g0, F.g1, F.g2, F.g3, F.g4, F.g5, F.g6, F.g7, F.g8, F.g9, F.g10, Soc, Ec, h1, h2']
      exact RT_mk R hI_
    rw [if_neg (fun t => t.elim h1 h2)]
    have h2' : (what ≤ nI 1) = True := i_le h2
    have rs := R.1.2.2.2.1 a
    by_cases h3 : nI (sd s.1 a) = n
    · rw [if_pos h3]
      have h3' := eq_true h3
      by_cases hw : what = 0
      · rw [if_pos hw]
        have hw' := eq_true hw
        simp (disch := first | omega | assumption) only [mm_op_some, true_and, and_true, mm_rc_some, mm_rc_none, ok0, ok1, ok2, ok3, ok4, n1_0, n0_0, if_true, if_false, wp_al0 (y := zX5_reach) dX5_reach_0, wp_getf (y := zX5_reach) kF5_10 dX5_reach_1, wp_getf (y := zX5_reach) kF5_46 dX5_reach_4, wp_il1 (y := zX5_reach) dX5_reach_7, wp_cv1 (y := zX5_reach) kM5_50 (by decide) dX5_reach_8, (show yo zX2_hasCell = 2 from rfl), wp_if_eq (y := zX5_reach) 23 (by decide) dX5_reach_11, wp_il3 (y := zX5_reach) dX5_reach_14, wp_if_lt (y := zX5_reach) 23 (by decide) dX5_reach_15, wp_il3 (y := zX5_reach) dX5_reach_18, wp_iconst (y := zX5_reach) (nI 1) ki_1 dX5_reach_19, wp_icmp_le (y := zX5_reach) 25 (by decide) dX5_reach_20, wp_al0 (y := zX5_reach) dX5_reach_25, wp_getf (y := zX5_reach) kF5_10 dX5_reach_26, wp_getf (y := zX5_reach) kF5_46 dX5_reach_29, wp_getf (y := zX5_reach) kF5_127 dX5_reach_32, wp_il1 (y := zX5_reach) dX5_reach_35, wp_iald (y := zX5_reach) dX5_reach_36, wp_il2 (y := zX5_reach) dX5_reach_37, wp_icmp_ne (y := zX5_reach) 51 (by decide) dX5_reach_38, wp_il3 (y := zX5_reach) dX5_reach_41, wp_if_ne (y := zX5_reach) 49 (by decide) dX5_reach_42, wp_iconst (y := zX5_reach) (nI 0) ki_0 dX5_reach_45, wp_goto (y := zX5_reach) 50 (by decide) dX5_reach_46, wp_ireti (y := zX5_reach) rfl dX5_reach_50, X.oc, X.g0, X.g1, X.g2, F.oc, F.g0, F.g1, F.g2, F.g3, F.g4, F.g5, F.g6, F.g7, F.g8, F.g9, F.g10, S.oc, S.g0, S.g1, S.g2, S.g3, S.g4, S.g5, S.g6, S.g7, S.a1, S.a2, S.a3, S.a4, S.a5, S.a6, S.a7, S.a8, Ec, h1, h2', rs, h3', ce_lt, ce_cl, not_true, hw']
        exact RT_mk R hI_
      · rw [if_neg hw]
        simp (disch := first | omega | assumption) only [mm_op_some, true_and, and_true, mm_rc_some, mm_rc_none, ok0, ok1, ok2, ok3, ok4, n1_0, n0_0, if_true, if_false, wp_al0 (y := zX5_reach) dX5_reach_0, wp_getf (y := zX5_reach) kF5_10 dX5_reach_1, wp_getf (y := zX5_reach) kF5_46 dX5_reach_4, wp_il1 (y := zX5_reach) dX5_reach_7, wp_cv1 (y := zX5_reach) kM5_50 (by decide) dX5_reach_8, (show yo zX2_hasCell = 2 from rfl), wp_if_eq (y := zX5_reach) 23 (by decide) dX5_reach_11, wp_il3 (y := zX5_reach) dX5_reach_14, wp_if_lt (y := zX5_reach) 23 (by decide) dX5_reach_15, wp_il3 (y := zX5_reach) dX5_reach_18, wp_iconst (y := zX5_reach) (nI 1) ki_1 dX5_reach_19, wp_icmp_le (y := zX5_reach) 25 (by decide) dX5_reach_20, wp_al0 (y := zX5_reach) dX5_reach_25, wp_getf (y := zX5_reach) kF5_10 dX5_reach_26, wp_getf (y := zX5_reach) kF5_46 dX5_reach_29, wp_getf (y := zX5_reach) kF5_127 dX5_reach_32, wp_il1 (y := zX5_reach) dX5_reach_35, wp_iald (y := zX5_reach) dX5_reach_36, wp_il2 (y := zX5_reach) dX5_reach_37, wp_icmp_ne (y := zX5_reach) 51 (by decide) dX5_reach_38, wp_il3 (y := zX5_reach) dX5_reach_41, wp_if_ne (y := zX5_reach) 49 (by decide) dX5_reach_42, wp_iconst (y := zX5_reach) ((-1)) ki_m1 dX5_reach_49, wp_ireti (y := zX5_reach) rfl dX5_reach_50, X.oc, X.g0, X.g1, X.g2, F.oc, F.g0, F.g1, F.g2, F.g3, F.g4, F.g5, F.g6, F.g7, F.g8, F.g9, F.g10, S.oc, S.g0, S.g1, S.g2, S.g3, S.g4, S.g5, S.g6, S.g7, S.a1, S.a2, S.a3, S.a4, S.a5, S.a6, S.a7, S.a8, Ec, h1, h2', rs, h3', ce_lt, ce_cl, not_true, not_false_eq_true, hw]
        exact RT_mk R hI_
    rw [if_neg h3]
    have E3 : ∀ Q', cl sh zX3_oneSwapTo [.ref p, .ref f, .int (nI a.val), .int n] μ Q' = Q' (some (.int (fo (fd (swp s.1 a n) 144 0)))) μ := fun Q' => c_oneSwapTo F G.1 R hI_ a n
    cases e1 : fd (swp s.1 a n) 144 0 with
    | some w =>
      rw [e1] at E3
      have wb := (fd_some e1).2.2.1
      have n0 : (nI w < 0) = False := nI_lt0 (by omega)
      replace E3 : ∀ Q', cl sh zX3_oneSwapTo [.ref p, .ref f, .int (nI a.val), .int n] μ Q' = Q' (some (.int (nI w))) μ := E3
      dsimp only
      by_cases hw : what = 0
      · rw [if_pos hw]
        have hw' := eq_true hw
        simp (disch := first | omega | assumption) only [mm_op_some, true_and, and_true, mm_rc_some, mm_rc_none, ok0, ok1, ok2, ok3, ok4, n1_0, n0_0, if_true, if_false, wp_al0 (y := zX5_reach) dX5_reach_0, wp_getf (y := zX5_reach) kF5_10 dX5_reach_1, wp_getf (y := zX5_reach) kF5_46 dX5_reach_4, wp_il1 (y := zX5_reach) dX5_reach_7, wp_cv1 (y := zX5_reach) kM5_50 (by decide) dX5_reach_8, (show yo zX2_hasCell = 2 from rfl), wp_if_eq (y := zX5_reach) 23 (by decide) dX5_reach_11, wp_il3 (y := zX5_reach) dX5_reach_14, wp_if_lt (y := zX5_reach) 23 (by decide) dX5_reach_15, wp_il3 (y := zX5_reach) dX5_reach_18, wp_iconst (y := zX5_reach) (nI 1) ki_1 dX5_reach_19, wp_icmp_le (y := zX5_reach) 25 (by decide) dX5_reach_20, wp_al0 (y := zX5_reach) dX5_reach_25, wp_getf (y := zX5_reach) kF5_10 dX5_reach_26, wp_getf (y := zX5_reach) kF5_46 dX5_reach_29, wp_getf (y := zX5_reach) kF5_127 dX5_reach_32, wp_il1 (y := zX5_reach) dX5_reach_35, wp_iald (y := zX5_reach) dX5_reach_36, wp_il2 (y := zX5_reach) dX5_reach_37, wp_icmp_ne (y := zX5_reach) 51 (by decide) dX5_reach_38, wp_al0 (y := zX5_reach) dX5_reach_51, wp_getf (y := zX5_reach) kF5_19 dX5_reach_52, wp_al0 (y := zX5_reach) dX5_reach_55, wp_getf (y := zX5_reach) kF5_10 dX5_reach_56, wp_il1 (y := zX5_reach) dX5_reach_59, wp_il2 (y := zX5_reach) dX5_reach_60, wp_cv_rii (y := zX5_reach) kM5_263 (by decide) dX5_reach_61, (show yo zX3_oneSwapTo = 3 from rfl), wp_is4 (y := zX5_reach) dX5_reach_64, wp_il4 (y := zX5_reach) dX5_reach_66, wp_if_lt (y := zX5_reach) 82 (by decide) dX5_reach_68, wp_il3 (y := zX5_reach) dX5_reach_71, wp_if_ne (y := zX5_reach) 79 (by decide) dX5_reach_72, wp_iconst (y := zX5_reach) (nI 1) ki_1 dX5_reach_75, wp_goto (y := zX5_reach) 81 (by decide) dX5_reach_76, wp_ireti (y := zX5_reach) rfl dX5_reach_81, X.oc, X.g0, X.g1, X.g2, F.oc, F.g0, F.g1, F.g2, F.g3, F.g4, F.g5, F.g6, F.g7, F.g8, F.g9, F.g10, S.oc, S.g0, S.g1, S.g2, S.g3, S.g4, S.g5, S.g6, S.g7, S.a1, S.a2, S.a3, S.a4, S.a5, S.a6, S.a7, S.a8, Ec, h1, h2', rs, h3, ce_lt, ce_cl, not_true, not_false_eq_true, hw', P.oc, E3, n0]
        exact RT_mk R hI_
      · rw [if_neg hw]
        simp (disch := first | omega | assumption) only [mm_op_some, true_and, and_true, mm_rc_some, mm_rc_none, ok0, ok1, ok2, ok3, ok4, n1_0, n0_0, if_true, if_false, wp_al0 (y := zX5_reach) dX5_reach_0, wp_getf (y := zX5_reach) kF5_10 dX5_reach_1, wp_getf (y := zX5_reach) kF5_46 dX5_reach_4, wp_il1 (y := zX5_reach) dX5_reach_7, wp_cv1 (y := zX5_reach) kM5_50 (by decide) dX5_reach_8, (show yo zX2_hasCell = 2 from rfl), wp_if_eq (y := zX5_reach) 23 (by decide) dX5_reach_11, wp_il3 (y := zX5_reach) dX5_reach_14, wp_if_lt (y := zX5_reach) 23 (by decide) dX5_reach_15, wp_il3 (y := zX5_reach) dX5_reach_18, wp_iconst (y := zX5_reach) (nI 1) ki_1 dX5_reach_19, wp_icmp_le (y := zX5_reach) 25 (by decide) dX5_reach_20, wp_al0 (y := zX5_reach) dX5_reach_25, wp_getf (y := zX5_reach) kF5_10 dX5_reach_26, wp_getf (y := zX5_reach) kF5_46 dX5_reach_29, wp_getf (y := zX5_reach) kF5_127 dX5_reach_32, wp_il1 (y := zX5_reach) dX5_reach_35, wp_iald (y := zX5_reach) dX5_reach_36, wp_il2 (y := zX5_reach) dX5_reach_37, wp_icmp_ne (y := zX5_reach) 51 (by decide) dX5_reach_38, wp_al0 (y := zX5_reach) dX5_reach_51, wp_getf (y := zX5_reach) kF5_19 dX5_reach_52, wp_al0 (y := zX5_reach) dX5_reach_55, wp_getf (y := zX5_reach) kF5_10 dX5_reach_56, wp_il1 (y := zX5_reach) dX5_reach_59, wp_il2 (y := zX5_reach) dX5_reach_60, wp_cv_rii (y := zX5_reach) kM5_263 (by decide) dX5_reach_61, (show yo zX3_oneSwapTo = 3 from rfl), wp_is4 (y := zX5_reach) dX5_reach_64, wp_il4 (y := zX5_reach) dX5_reach_66, wp_if_lt (y := zX5_reach) 82 (by decide) dX5_reach_68, wp_il3 (y := zX5_reach) dX5_reach_71, wp_if_ne (y := zX5_reach) 79 (by decide) dX5_reach_72, wp_il4 (y := zX5_reach) dX5_reach_79, wp_ireti (y := zX5_reach) rfl dX5_reach_81, X.oc, X.g0, X.g1, X.g2, F.oc, F.g0, F.g1, F.g2, F.g3, F.g4, F.g5, F.g6, F.g7, F.g8, F.g9, F.g10, S.oc, S.g0, S.g1, S.g2, S.g3, S.g4, S.g5, S.g6, S.g7, S.a1, S.a2, S.a3, S.a4, S.a5, S.a6, S.a7, S.a8, Ec, h1, h2', rs, h3, ce_lt, ce_cl, not_true, not_false_eq_true, hw, P.oc, E3, n0]
        exact RT_mk R hI_
    | none =>
      rw [e1] at E3
      replace E3 : ∀ Q', cl sh zX3_oneSwapTo [.ref p, .ref f, .int (nI a.val), .int n] μ Q' = Q' (some (.int (-1))) μ := E3
      dsimp only
      simp (disch := first | omega | assumption) only [mm_op_some, true_and, and_true, mm_rc_some, mm_rc_none, ok0, ok1, ok2, ok3, ok4, n1_0, n0_0, if_true, if_false, wp_al0 (y := zX5_reach) dX5_reach_0, wp_getf (y := zX5_reach) kF5_10 dX5_reach_1, wp_getf (y := zX5_reach) kF5_46 dX5_reach_4, wp_il1 (y := zX5_reach) dX5_reach_7, wp_cv1 (y := zX5_reach) kM5_50 (by decide) dX5_reach_8, (show yo zX2_hasCell = 2 from rfl), wp_if_eq (y := zX5_reach) 23 (by decide) dX5_reach_11, wp_il3 (y := zX5_reach) dX5_reach_14, wp_if_lt (y := zX5_reach) 23 (by decide) dX5_reach_15, wp_il3 (y := zX5_reach) dX5_reach_18, wp_iconst (y := zX5_reach) (nI 1) ki_1 dX5_reach_19, wp_icmp_le (y := zX5_reach) 25 (by decide) dX5_reach_20, wp_al0 (y := zX5_reach) dX5_reach_25, wp_getf (y := zX5_reach) kF5_10 dX5_reach_26, wp_getf (y := zX5_reach) kF5_46 dX5_reach_29, wp_getf (y := zX5_reach) kF5_127 dX5_reach_32, wp_il1 (y := zX5_reach) dX5_reach_35, wp_iald (y := zX5_reach) dX5_reach_36, wp_il2 (y := zX5_reach) dX5_reach_37, wp_icmp_ne (y := zX5_reach) 51 (by decide) dX5_reach_38, wp_al0 (y := zX5_reach) dX5_reach_51, wp_getf (y := zX5_reach) kF5_19 dX5_reach_52, wp_al0 (y := zX5_reach) dX5_reach_55, wp_getf (y := zX5_reach) kF5_10 dX5_reach_56, wp_il1 (y := zX5_reach) dX5_reach_59, wp_il2 (y := zX5_reach) dX5_reach_60, wp_cv_rii (y := zX5_reach) kM5_263 (by decide) dX5_reach_61, (show yo zX3_oneSwapTo = 3 from rfl), wp_is4 (y := zX5_reach) dX5_reach_64, wp_il4 (y := zX5_reach) dX5_reach_66, wp_if_lt (y := zX5_reach) 82 (by decide) dX5_reach_68, wp_al0 (y := zX5_reach) dX5_reach_82, wp_getf (y := zX5_reach) kF5_19 dX5_reach_83, wp_al0 (y := zX5_reach) dX5_reach_86, wp_getf (y := zX5_reach) kF5_10 dX5_reach_87, wp_il1 (y := zX5_reach) dX5_reach_90, wp_il2 (y := zX5_reach) dX5_reach_91, wp_cv_rii (y := zX5_reach) kM5_267 (by decide) dX5_reach_92, (show yo zX3_twoSwapsTo = 3 from rfl), X.oc, X.g0, X.g1, X.g2, F.oc, F.g0, F.g1, F.g2, F.g3, F.g4, F.g5, F.g6, F.g7, F.g8, F.g9, F.g10, S.oc, S.g0, S.g1, S.g2, S.g3, S.g4, S.g5, S.g6, S.g7, S.a1, S.a2, S.a3, S.a4, S.a5, S.a6, S.a7, S.a8, Ec, h1, h2', rs, h3, ce_lt, ce_cl, not_true, not_false_eq_true, P.oc, E3, m1_lt0]
      refine cl_mono (c_twoSwapsTo P F G.1 G.2.1 R hI_ d1 a n) ?_
      rintro r μ1 ⟨rfl, F1⟩
      have R2 := R.frP F1 d1
      cases e2 : fd (twP s.1 a n) 144 0 with
      | some w =>
        have wb := (fd_some e2).2.2.1
        have n0 : (nI w < 0) = False := nI_lt0 (by omega)
        have fo' : fo (some w) = nI w := rfl
        dsimp only
        by_cases hw : what = 0
        · rw [if_pos hw]
          have hw' := eq_true hw
          simp (disch := first | omega | assumption) only [mm_op_some, true_and, and_true, mm_rc_some, mm_rc_none, ok0, ok1, ok2, ok3, ok4, n1_0, n0_0, if_true, if_false, fo', wp_is4 (y := zX5_reach) dX5_reach_95, wp_il4 (y := zX5_reach) dX5_reach_97, wp_if_lt (y := zX5_reach) 113 (by decide) dX5_reach_99, wp_il3 (y := zX5_reach) dX5_reach_102, wp_if_ne (y := zX5_reach) 110 (by decide) dX5_reach_103, wp_iconst (y := zX5_reach) (nI 2) ki_2 dX5_reach_106, wp_goto (y := zX5_reach) 112 (by decide) dX5_reach_107, wp_ireti (y := zX5_reach) rfl dX5_reach_112, not_true, hw', n0]
          exact RT_mk R2 hI_
        · rw [if_neg hw]
          simp (disch := first | omega | assumption) only [mm_op_some, true_and, and_true, mm_rc_some, mm_rc_none, ok0, ok1, ok2, ok3, ok4, n1_0, n0_0, if_true, if_false, fo', wp_is4 (y := zX5_reach) dX5_reach_95, wp_il4 (y := zX5_reach) dX5_reach_97, wp_if_lt (y := zX5_reach) 113 (by decide) dX5_reach_99, wp_il3 (y := zX5_reach) dX5_reach_102, wp_if_ne (y := zX5_reach) 110 (by decide) dX5_reach_103, wp_il4 (y := zX5_reach) dX5_reach_110, wp_ireti (y := zX5_reach) rfl dX5_reach_112, not_false_eq_true, hw, n0]
          exact RT_mk R2 hI_
      | none =>
        have fo' : fo none = -1 := rfl
        dsimp only
        simp (disch := first | omega | assumption) only [mm_op_some, true_and, and_true, mm_rc_some, mm_rc_none, ok0, ok1, ok2, ok3, ok4, n1_0, n0_0, if_true, if_false, fo', m1_lt0, wp_is4 (y := zX5_reach) dX5_reach_95, wp_il4 (y := zX5_reach) dX5_reach_97, wp_if_lt (y := zX5_reach) 113 (by decide) dX5_reach_99, wp_iconst (y := zX5_reach) ((-1)) ki_m1 dX5_reach_113, wp_ireti (y := zX5_reach) rfl dX5_reach_114]
        exact RT_mk R2 hI_
def a_alike (s : Fo) : Int32 := fo1 (fd (fun i => alk (goK (i + 1) s) s) 50 0)
theorem x_alike (X : XSh sh x f p q) (G : GoodX I) (R : RepF s μ f) (hI_ : I s.1) : cl sh zX5_alike [.ref x] μ (RT I f (a_alike s, s)) := by
  obtain ⟨F, P, W, d1, d2⟩ := X.2
  have S := F.2.1
  have Soc := S.oc
  obtain ⟨B, L⟩ := G.1.1 _ hI_
  obtain ⟨H, O⟩ := G.2.2.1 _ hI_
  show wp sh zX5_alike 0 [.ref x] [] μ _
  simp (disch := first | omega | assumption) only [mm_op_some, true_and, and_true, mm_rc_some, mm_rc_none, ok0, ok1, ok2, ok3, ok4, n1_0, n0_0, if_true, if_false, wp_al0 (y := zX5_alike) dX5_alike_0, wp_getf (y := zX5_alike) kF5_19 dX5_alike_1, wp_al0 (y := zX5_alike) dX5_alike_4, wp_getf (y := zX5_alike) kF5_10 dX5_alike_5, wp_cv_r (y := zX5_alike) kM5_270 (by decide) dX5_alike_8, (show yo zX3_stepsToAlike = 3 from rfl), X.oc, X.g0, X.g1, X.g2, P.oc]
  refine cl_mono (c_stepsToAlike P F G.1 R hI_ d1) ?_
  rintro r μ1 ⟨rfl, F1⟩
  simp (disch := first | omega | assumption) only [mm_rc_some, wp_ireti (y := zX5_alike) rfl dX5_alike_11]
  exact RT_mk (R.frP F1 d1) hI_
def a_until (s : Fo) (n : Int32) : Int32 := fo (fd (fewP s n) 100 0)
theorem x_until (X : XSh sh x f p q) (G : GoodX I) (R : RepF s μ f) (hI_ : I s.1) (n : Int32) : cl sh zX5_until [.ref x, .int n] μ (RT I f (a_until s n, s)) := by
  obtain ⟨F, P, W, d1, d2⟩ := X.2
  have S := F.2.1
  have Soc := S.oc
  obtain ⟨B, L⟩ := G.1.1 _ hI_
  obtain ⟨H, O⟩ := G.2.2.1 _ hI_
  show wp sh zX5_until 0 [.ref x, .int n] [] μ _
  simp (disch := first | omega | assumption) only [mm_op_some, true_and, and_true, mm_rc_some, mm_rc_none, ok0, ok1, ok2, ok3, ok4, n1_0, n0_0, if_true, if_false, wp_al0 (y := zX5_until) dX5_until_0, wp_getf (y := zX5_until) kF5_19 dX5_until_1, wp_al0 (y := zX5_until) dX5_until_4, wp_getf (y := zX5_until) kF5_10 dX5_until_5, wp_il1 (y := zX5_until) dX5_until_8, wp_cv_ri (y := zX5_until) kM5_274 (by decide) dX5_until_9, (show yo zX3_stepsToFew = 3 from rfl), X.oc, X.g0, X.g1, X.g2, P.oc]
  refine cl_mono (c_stepsToFew P F G.1 R hI_ d1 n) ?_
  rintro r μ1 ⟨rfl, F1⟩
  simp (disch := first | omega | assumption) only [mm_rc_some, wp_ireti (y := zX5_until) rfl dX5_until_12]
  exact RT_mk (R.frP F1 d1) hI_
def a_gone (s : Fo) (c : Int32) : Int32 := match ceO s.1 c with
  | none => -1
  | some a => fo1 (fd (goneP s a) 50 0)
theorem x_gone (X : XSh sh x f p q) (G : GoodX I) (R : RepF s μ f) (hI_ : I s.1) (c : Int32) : cl sh zX5_gone [.ref x, .int c] μ (RT I f (a_gone s c, s)) := by
  obtain ⟨F, P, W, d1, d2⟩ := X.2
  have S := F.2.1
  have Soc := S.oc
  obtain ⟨B, L⟩ := G.1.1 _ hI_
  obtain ⟨H, O⟩ := G.2.2.1 _ hI_
  show wp sh zX5_gone 0 [.ref x, .int c] [] μ _
  unfold a_gone
  cases ec : ceO s.1 c with
  | none =>
    have Ec : ∀ Q', cl sh zX2_hasCell [.ref (f + 1), .int c] μ Q' = Q' (some (.int (nI 0))) μ := fun Q' => c_hasCellN S R.1 ec
    simp (disch := first | omega | assumption) only [mm_op_some, true_and, and_true, mm_rc_some, mm_rc_none, nI_xor, tw_xor, pk_mul, nI_add, mm_in_t, nI_clamp, ok0, ok1, ok2, ok3, ok4, n1_0, n0_0, n0_zz, n1_zz, bI_eq0, bI_ne0, bI_zz, nI_le_, nI_lt_, nI_eq_, nI_lt0, nI_ge0, nI_gt0, nI_le0, nI_eq0, m1_lt0, m1_ge0, if_true, if_false, not_true, not_false_eq_true, Classical.not_not, true_or, or_true, false_or, n1_1, k10, Bool.true_eq_false, Bool.false_eq_true, Nat.le_refl, and_self, and_false, false_and, or_self, or_false, hf_lt, ce_lt, hf_cl, ce_cl, i_irr, i_rfl, wp_al0 (y := zX5_gone) dX5_gone_0, wp_getf (y := zX5_gone) kF5_10 dX5_gone_1, wp_getf (y := zX5_gone) kF5_46 dX5_gone_4, wp_il1 (y := zX5_gone) dX5_gone_7, wp_cv1 (y := zX5_gone) kM5_50 (by decide) dX5_gone_8, (show yo zX2_hasCell = 2 from rfl), wp_if_eq (y := zX5_gone) 29 (by decide) dX5_gone_11, wp_iconst (y := zX5_gone) ((-1)) ki_m1 dX5_gone_29, wp_ireti (y := zX5_gone) rfl dX5_gone_30, X.oc, X.g0, X.g1, X.g2, F.oc, F.g0, F.g1, F.g2, F.g3, F.g4, F.g5, F.g6, F.g7, F.g8, F.g9, F.g10, Soc, Ec]
    exact RT_mk R hI_
  | some a =>
    obtain ⟨rfl, ha⟩ := ceO_some ec
    have Ec : ∀ Q', cl sh zX2_hasCell [.ref (f + 1), .int (nI a.val)] μ Q' = Q' (some (.int (nI 1))) μ := fun Q' => c_hasCellS S R.1 B ha
    dsimp only
    simp (disch := first | omega | assumption) only [mm_op_some, true_and, and_true, mm_rc_some, mm_rc_none, ok0, ok1, ok2, ok3, ok4, n1_0, n0_0, if_true, if_false, wp_al0 (y := zX5_gone) dX5_gone_0, wp_getf (y := zX5_gone) kF5_10 dX5_gone_1, wp_getf (y := zX5_gone) kF5_46 dX5_gone_4, wp_il1 (y := zX5_gone) dX5_gone_7, wp_cv1 (y := zX5_gone) kM5_50 (by decide) dX5_gone_8, (show yo zX2_hasCell = 2 from rfl), wp_if_eq (y := zX5_gone) 29 (by decide) dX5_gone_11, wp_al0 (y := zX5_gone) dX5_gone_14, wp_getf (y := zX5_gone) kF5_19 dX5_gone_15, wp_al0 (y := zX5_gone) dX5_gone_18, wp_getf (y := zX5_gone) kF5_10 dX5_gone_19, wp_il1 (y := zX5_gone) dX5_gone_22, wp_cv_ri (y := zX5_gone) kM5_298 (by decide) dX5_gone_23, (show yo zX3_stepsToGone = 3 from rfl), X.oc, X.g0, X.g1, X.g2, F.oc, F.g0, F.g1, F.g2, F.g3, F.g4, F.g5, F.g6, F.g7, F.g8, F.g9, F.g10, Soc, Ec, P.oc]
    refine cl_mono (c_stepsToGone P F G.1 R hI_ d1 a) ?_
    rintro r μ1 ⟨rfl, F1⟩
    simp (disch := first | omega | assumption) only [mm_rc_some, wp_goto (y := zX5_gone) 30 (by decide) dX5_gone_26, wp_ireti (y := zX5_gone) rfl dX5_gone_30]
    exact RT_mk (R.frP F1 d1) hI_
def a_first (s : Fo) (what : Int32) : Int32 := if what < 0 ∨ nI 1 < what then -1 else fo1 (fd (firstP s what) 50 0)
theorem x_first (X : XSh sh x f p q) (G : GoodX I) (R : RepF s μ f) (hI_ : I s.1) (what : Int32) : cl sh zX5_first [.ref x, .int what] μ (RT I f (a_first s what, s)) := by
  obtain ⟨F, P, W, d1, d2⟩ := X.2
  have S := F.2.1
  have Soc := S.oc
  obtain ⟨B, L⟩ := G.1.1 _ hI_
  obtain ⟨H, O⟩ := G.2.2.1 _ hI_
  show wp sh zX5_first 0 [.ref x, .int what] [] μ _
  unfold a_first
  by_cases h1 : what < 0
  · rw [if_pos (Or.inl h1)]
    simp (disch := first | omega | assumption) only [wp_il1 (y := zX5_first) dX5_first_0, wp_if_lt (y := zX5_first) 9 (by decide) dX5_first_1, wp_iconst (y := zX5_first) ((-1)) ki_m1 dX5_first_9, wp_goto (y := zX5_first) 25 (by decide) dX5_first_10, wp_ireti (y := zX5_first) rfl dX5_first_25, h1, if_true]
    exact RT_mk R hI_
  by_cases h2 : nI 1 < what
  · rw [if_pos (Or.inr h2)]
    have h2' : (what ≤ nI 1) = False := i_nle h2
    simp (disch := first | omega | assumption) only [wp_il1 (y := zX5_first) dX5_first_0, wp_if_lt (y := zX5_first) 9 (by decide) dX5_first_1, wp_il1 (y := zX5_first) dX5_first_4, wp_iconst (y := zX5_first) (nI 1) ki_1 dX5_first_5, wp_icmp_le (y := zX5_first) 13 (by decide) dX5_first_6, wp_iconst (y := zX5_first) ((-1)) ki_m1 dX5_first_9, wp_goto (y := zX5_first) 25 (by decide) dX5_first_10, wp_ireti (y := zX5_first) rfl dX5_first_25, h1, h2', if_true, if_false]
    exact RT_mk R hI_
  rw [if_neg (fun t => t.elim h1 h2)]
  have h2' : (what ≤ nI 1) = True := i_le h2
  simp (disch := first | omega | assumption) only [mm_op_some, true_and, and_true, mm_rc_some, mm_rc_none, ok0, ok1, ok2, ok3, ok4, n1_0, n0_0, if_true, if_false, P.oc, wp_il1 (y := zX5_first) dX5_first_0, wp_if_lt (y := zX5_first) 9 (by decide) dX5_first_1, wp_il1 (y := zX5_first) dX5_first_4, wp_iconst (y := zX5_first) (nI 1) ki_1 dX5_first_5, wp_icmp_le (y := zX5_first) 13 (by decide) dX5_first_6, wp_al0 (y := zX5_first) dX5_first_13, wp_getf (y := zX5_first) kF5_19 dX5_first_14, wp_al0 (y := zX5_first) dX5_first_17, wp_getf (y := zX5_first) kF5_10 dX5_first_18, wp_il1 (y := zX5_first) dX5_first_21, wp_cv_ri (y := zX5_first) kM5_301 (by decide) dX5_first_22, (show yo zX3_stepsToFirst = 3 from rfl), h1, h2', X.oc, X.g0, X.g1, X.g2]
  refine cl_mono (c_stepsToFirst P F G.1 R hI_ d1 what) ?_
  rintro r μ1 ⟨rfl, F1⟩
  simp (disch := first | omega | assumption) only [mm_rc_some, wp_ireti (y := zX5_first) rfl dX5_first_25]
  exact RT_mk (R.frP F1 d1) hI_
def a_log (s : Fo) (i what : Int32) : Int32 := lgR s.2.1 i what
theorem x_log (X : XSh sh x f p q) (G : GoodX I) (R : RepF s μ f) (hI_ : I s.1) (i what : Int32) : cl sh zX5_log [.ref x, .int i, .int what] μ (RT I f (a_log s i what, s)) := by
  obtain ⟨F, P, W, d1, d2⟩ := X.2
  have S := F.2.1
  have Soc := S.oc
  obtain ⟨B, L⟩ := G.1.1 _ hI_
  obtain ⟨H, O⟩ := G.2.2.1 _ hI_
  show wp sh zX5_log 0 [.ref x, .int i, .int what] [] μ _
  have E1 : ∀ Q', cl sh zX0_read [.ref (f + 10), .int i, .int what] μ Q' = Q' (some (.int (lgR s.2.1 i what))) μ := fun Q' => c_diRead F.2.2.1 R.2.1 i what
  have Doc := F.2.2.1.oc
  simp (disch := first | omega | assumption) only [mm_op_some, true_and, and_true, mm_rc_some, mm_rc_none, ok0, ok1, ok2, ok3, ok4, n1_0, n0_0, if_true, if_false, wp_al0 (y := zX5_log) dX5_log_0, wp_getf (y := zX5_log) kF5_10 dX5_log_1, wp_getf (y := zX5_log) kF5_304 dX5_log_4, wp_il1 (y := zX5_log) dX5_log_7, wp_il2 (y := zX5_log) dX5_log_8, wp_cv2 (y := zX5_log) kM5_308 (by decide) dX5_log_9, (show yo zX0_read = 0 from rfl), wp_ireti (y := zX5_log) rfl dX5_log_12, X.oc, X.g0, X.g1, X.g2, F.oc, F.g0, F.g1, F.g2, F.g3, F.g4, F.g5, F.g6, F.g7, F.g8, F.g9, F.g10, E1, Doc]
  exact RT_mk R hI_
end X5G
