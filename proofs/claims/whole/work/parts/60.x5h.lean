section X5H
variable {sh : mm_Sh} {x f p q b g : Nat} {μ : mm_U} {M : Ms} {s : Fo} {I : Ms → Prop} {Q : Option Value → mm_U → Prop}
theorem c_swapsToRest2 (P : PaSh sh p) (F : FoSh sh g) (G : GoodI I) (R : RepF s μ g) (hI_ : I s.1) (hd : p + 15 < g ∨ g + 14 < p) : cl sh zX3_swapsToRest [.ref p, .ref g] μ (fun r μ' => r = some (.int (nI (caF 1000000 0 s).1)) ∧ (RepF (caF 1000000 0 s).2 μ' (p + 1) ∧ I (caF 1000000 0 s).2.1) ∧ FrP μ μ' p) := by
  have Foc := P.2.oc
  show wp sh zX3_swapsToRest 0 [.ref p, .ref g] [] μ _
  simp (disch := first | omega | assumption) only [mm_op_some, true_and, and_true, mm_rc_some, mm_rc_none, ok0, ok1, ok2, ok3, ok4, n1_0, n0_0, if_true, if_false, wp_al0 (y := zX3_swapsToRest) dX3_swapsToRest_0, wp_getf (y := zX3_swapsToRest) kF3_12 dX3_swapsToRest_1, wp_al1 (y := zX3_swapsToRest) dX3_swapsToRest_4, wp_cv_r (y := zX3_swapsToRest) kM3_18 (by decide) dX3_swapsToRest_5, (show yo zX1_copyOf = 1 from rfl), P.oc, P.g0, Foc]
  refine cl_mono (c_copyFoam P.2 F R (by omega)) ?_
  rintro r μ1 ⟨rfl, R1, F1⟩
  simp (disch := first | omega | assumption) only [mm_op_some, true_and, and_true, mm_rc_some, mm_rc_none, ok0, ok1, ok2, ok3, ok4, n1_0, n0_0, if_true, if_false, wp_al0 (y := zX3_swapsToRest) dX3_swapsToRest_8, wp_getf (y := zX3_swapsToRest) kF3_12 dX3_swapsToRest_9, wp_cv0 (y := zX3_swapsToRest) kM3_91 (by decide) dX3_swapsToRest_12, (show yo zX1_calm = 1 from rfl), P.oc, P.g0, Foc]
  refine cl_mono (c_calm P.2 G R1 hI_) ?_
  rintro r μ2 ⟨rfl, R2, F2⟩
  simp (disch := first | omega | assumption) only [mm_op_some, true_and, and_true, mm_rc_some, mm_rc_none, ok0, ok1, ok2, ok3, ok4, n1_0, n0_0, if_true, if_false, wp_ireti (y := zX3_swapsToRest) rfl dX3_swapsToRest_15]
  exact ⟨R2, (FrF.p F1).trans (FrF.p F2)⟩
def a_resting (s : Fo) (what : Int32) : Int32 := if what < 0 ∨ nI 1 < what then -1 else if what = 0 then nI (caF 1000000 0 s).1 else stn (caF 1000000 0 s).2.1
theorem x_resting (X : XSh sh x f p q) (G : GoodX I) (R : RepF s μ f) (hI_ : I s.1) (what : Int32) : cl sh zX5_resting [.ref x, .int what] μ (RT I f (a_resting s what, s)) := by
  obtain ⟨F, P, W, d1, d2⟩ := X.2
  have S := F.2.1
  have Soc := S.oc
  obtain ⟨B, L⟩ := G.1.1 _ hI_
  obtain ⟨H, O⟩ := G.2.2.1 _ hI_
  show wp sh zX5_resting 0 [.ref x, .int what, .null] [] μ _
  unfold a_resting
  by_cases h1 : what < 0
  · rw [if_pos (Or.inl h1)]
    simp (disch := first | omega | assumption) only [wp_il1 (y := zX5_resting) dX5_resting_0, wp_if_lt (y := zX5_resting) 9 (by decide) dX5_resting_1, wp_iconst (y := zX5_resting) ((-1)) ki_m1 dX5_resting_9, wp_ireti (y := zX5_resting) rfl dX5_resting_10, h1, if_true]
    exact RT_mk R hI_
  by_cases h2 : nI 1 < what
  · rw [if_pos (Or.inr h2)]
    have h2' : (what ≤ nI 1) = False := i_nle h2
    simp (disch := first | omega | assumption) only [wp_il1 (y := zX5_resting) dX5_resting_0, wp_if_lt (y := zX5_resting) 9 (by decide) dX5_resting_1, wp_il1 (y := zX5_resting) dX5_resting_4, wp_iconst (y := zX5_resting) (nI 1) ki_1 dX5_resting_5, wp_icmp_le (y := zX5_resting) 11 (by decide) dX5_resting_6, wp_iconst (y := zX5_resting) ((-1)) ki_m1 dX5_resting_9, wp_ireti (y := zX5_resting) rfl dX5_resting_10, h1, h2', if_true, if_false]
    exact RT_mk R hI_
  rw [if_neg (fun t => t.elim h1 h2)]
  have h2' : (what ≤ nI 1) = True := i_le h2
  simp (disch := first | omega | assumption) only [mm_op_some, true_and, and_true, mm_rc_some, mm_rc_none, ok0, ok1, ok2, ok3, ok4, n1_0, n0_0, if_true, if_false, P.oc, wp_il1 (y := zX5_resting) dX5_resting_0, wp_if_lt (y := zX5_resting) 9 (by decide) dX5_resting_1, wp_il1 (y := zX5_resting) dX5_resting_4, wp_iconst (y := zX5_resting) (nI 1) ki_1 dX5_resting_5, wp_icmp_le (y := zX5_resting) 11 (by decide) dX5_resting_6, wp_al0 (y := zX5_resting) dX5_resting_11, wp_getf (y := zX5_resting) kF5_19 dX5_resting_12, wp_al0 (y := zX5_resting) dX5_resting_15, wp_getf (y := zX5_resting) kF5_10 dX5_resting_16, wp_cv_r (y := zX5_resting) kM5_285 (by decide) dX5_resting_19, (show yo zX3_swapsToRest = 3 from rfl), h1, h2', X.oc, X.g0, X.g1, X.g2]
  refine cl_mono (c_swapsToRest2 P F G.1 R hI_ d1) ?_
  rintro r μ1 ⟨rfl, ⟨R3, I3⟩, F1⟩
  have R2 := R.frP F1 d1
  by_cases hw : what = 0
  · rw [if_pos hw]
    have hw' := eq_true hw
    simp (disch := first | omega | assumption) only [mm_op_some, true_and, and_true, mm_rc_some, mm_rc_none, ok0, ok1, ok2, ok3, ok4, n1_0, n0_0, if_true, if_false, wp_is2 (y := zX5_resting) dX5_resting_22, wp_il1 (y := zX5_resting) dX5_resting_23, wp_if_ne (y := zX5_resting) 31 (by decide) dX5_resting_24, wp_il2 (y := zX5_resting) dX5_resting_27, wp_goto (y := zX5_resting) 44 (by decide) dX5_resting_28, wp_ireti (y := zX5_resting) rfl dX5_resting_44, hw', not_true]
    exact RT_mk R2 hI_
  · rw [if_neg hw]
    have S3 := P.2.2.1
    have So3 := S3.oc
    have E1 : ∀ Q', cl sh zX2_strain [.ref (p + 1 + 1)] μ1 Q' = Q' (some (.int (stn (caF 1000000 0 s).2.1))) μ1 := fun Q' => c_strain S3 R3.1 (G.1.1 _ I3).1
    have Fp0 := P.2.g0
    simp (disch := first | omega | assumption) only [mm_op_some, true_and, and_true, mm_rc_some, mm_rc_none, ok0, ok1, ok2, ok3, ok4, n1_0, n0_0, if_true, if_false, wp_is2 (y := zX5_resting) dX5_resting_22, wp_il1 (y := zX5_resting) dX5_resting_23, wp_if_ne (y := zX5_resting) 31 (by decide) dX5_resting_24, wp_al0 (y := zX5_resting) dX5_resting_31, wp_getf (y := zX5_resting) kF5_19 dX5_resting_32, wp_getf (y := zX5_resting) kF5_288 dX5_resting_35, wp_getf (y := zX5_resting) kF5_46 dX5_resting_38, wp_cv0 (y := zX5_resting) kM5_229 (by decide) dX5_resting_41, (show yo zX2_strain = 2 from rfl), wp_ireti (y := zX5_resting) rfl dX5_resting_44, hw, not_false_eq_true, X.oc, X.g0, X.g1, X.g2, P.g0, Fp0, So3, E1]
    exact RT_mk R2 hI_
theorem bsS_any {s : Fo} {n : Nat} {h : Int32} {seed many : Nat} (v : Int32) (hm : 1 ≤ many) : it (bsS s n h seed) many 0 (-1, v) = it (bsS s n h seed) many 0 (-1, 0) := by
  obtain ⟨k, rfl⟩ : ∃ k, many = k + 1 := ⟨many - 1, by omega⟩
  show it (bsS s n h seed) k 1 (bsS s n h seed 0 (-1, v)) = it (bsS s n h seed) k 1 (bsS s n h seed 0 (-1, 0))
  have e : ∀ v, bsS s n h seed 0 (-1, v) = (nI (seed + 0), stn (caF 1000000 0 (jlF h n (seed + 0) s).2.2).2.1) := fun v => by
    unfold bsS
    exact if_pos (show (-1 : Int32) < 0 by decide)
  rw [e, e]
def a_rested (s : Fo) (seed many n h what : Int32) : Int32 := if shk seed n h = true then (if many < nI 1 ∨ nI 10 < many ∨ what < 0 ∨ nI 1 < what then -1 else if nI 999999 - (many - nI 1) < seed then -1 else if what = 0 then (it (bsS s n.toNatClampNeg h seed.toNatClampNeg) many.toNatClampNeg 0 (-1, 0)).2 else (it (bsS s n.toNatClampNeg h seed.toNatClampNeg) many.toNatClampNeg 0 (-1, 0)).1) else -1
theorem x_rested (X : XSh sh x f p q) (G : GoodX I) (R : RepF s μ f) (hI_ : I s.1) (seed many n h what : Int32) : cl sh zX5_rested [.ref x, .int seed, .int many, .int n, .int h, .int what] μ (RT I f (a_rested s seed many n h what, s)) := by
  obtain ⟨F, P, W, d1, d2⟩ := X.2
  have S := F.2.1
  have Soc := S.oc
  obtain ⟨B, L⟩ := G.1.1 _ hI_
  obtain ⟨H, O⟩ := G.2.2.1 _ hI_
  show wp sh zX5_rested 0 [.ref x, .int seed, .int many, .int n, .int h, .int what, .null] [] μ _
  have E1 : ∀ Q', cl sh zX5_isShake [.int seed, .int n, .int h] μ Q' = Q' (some (.int (bI (shk seed n h)))) μ := fun Q' => x_isShake seed n h
  unfold a_rested
  cases e : shk seed n h with
  | false =>
    rw [e] at E1
    simp (disch := first | omega | assumption) only [mm_op_some, true_and, and_true, mm_rc_some, mm_rc_none, ok0, ok1, ok2, ok3, ok4, n1_0, n0_0, if_true, if_false, wp_il1 (y := zX5_rested) dX5_rested_0, wp_il3 (y := zX5_rested) dX5_rested_1, wp_il4 (y := zX5_rested) dX5_rested_2, wp_cs3 (y := zX5_rested) kM5_96 (by decide) dX5_rested_4, wp_if_eq (y := zX5_rested) 32 (by decide) dX5_rested_7, wp_iconst (y := zX5_rested) ((-1)) ki_m1 dX5_rested_32, wp_ireti (y := zX5_rested) rfl dX5_rested_33, E1, bI_f, Bool.false_eq_true]
    exact RT_mk R hI_
  | true =>
    rw [e] at E1
    rw [if_pos rfl]
    by_cases h1 : many < nI 1
    · rw [if_pos (Or.inl h1)]
      simp (disch := first | omega | assumption) only [mm_op_some, true_and, and_true, mm_rc_some, mm_rc_none, ok0, ok1, ok2, ok3, ok4, n1_0, n0_0, if_true, if_false, wp_il1 (y := zX5_rested) dX5_rested_0, wp_il3 (y := zX5_rested) dX5_rested_1, wp_il4 (y := zX5_rested) dX5_rested_2, wp_cs3 (y := zX5_rested) kM5_96 (by decide) dX5_rested_4, wp_if_eq (y := zX5_rested) 32 (by decide) dX5_rested_7, wp_il2 (y := zX5_rested) dX5_rested_10, wp_iconst (y := zX5_rested) (nI 1) ki_1 dX5_rested_11, wp_icmp_lt (y := zX5_rested) 32 (by decide) dX5_rested_12, wp_iconst (y := zX5_rested) ((-1)) ki_m1 dX5_rested_32, wp_ireti (y := zX5_rested) rfl dX5_rested_33, E1, bI_t, h1]
      exact RT_mk R hI_
    by_cases h2 : nI 10 < many
    · rw [if_pos (Or.inr (Or.inl h2))]
      simp (disch := first | omega | assumption) only [mm_op_some, true_and, and_true, mm_rc_some, mm_rc_none, ok0, ok1, ok2, ok3, ok4, n1_0, n0_0, if_true, if_false, wp_il1 (y := zX5_rested) dX5_rested_0, wp_il3 (y := zX5_rested) dX5_rested_1, wp_il4 (y := zX5_rested) dX5_rested_2, wp_cs3 (y := zX5_rested) kM5_96 (by decide) dX5_rested_4, wp_if_eq (y := zX5_rested) 32 (by decide) dX5_rested_7, wp_il2 (y := zX5_rested) dX5_rested_10, wp_iconst (y := zX5_rested) (nI 1) ki_1 dX5_rested_11, wp_icmp_lt (y := zX5_rested) 32 (by decide) dX5_rested_12, wp_il2 (y := zX5_rested) dX5_rested_15, wp_bipush (y := zX5_rested) (nI 10) kb_10 dX5_rested_16, wp_icmp_gt (y := zX5_rested) 32 (by decide) dX5_rested_18, wp_iconst (y := zX5_rested) ((-1)) ki_m1 dX5_rested_32, wp_ireti (y := zX5_rested) rfl dX5_rested_33, E1, bI_t, h1, h2]
      exact RT_mk R hI_
    by_cases h3 : what < 0
    · rw [if_pos (Or.inr (Or.inr (Or.inl h3)))]
      simp (disch := first | omega | assumption) only [mm_op_some, true_and, and_true, mm_rc_some, mm_rc_none, ok0, ok1, ok2, ok3, ok4, n1_0, n0_0, if_true, if_false, wp_il1 (y := zX5_rested) dX5_rested_0, wp_il3 (y := zX5_rested) dX5_rested_1, wp_il4 (y := zX5_rested) dX5_rested_2, wp_cs3 (y := zX5_rested) kM5_96 (by decide) dX5_rested_4, wp_if_eq (y := zX5_rested) 32 (by decide) dX5_rested_7, wp_il2 (y := zX5_rested) dX5_rested_10, wp_iconst (y := zX5_rested) (nI 1) ki_1 dX5_rested_11, wp_icmp_lt (y := zX5_rested) 32 (by decide) dX5_rested_12, wp_il2 (y := zX5_rested) dX5_rested_15, wp_bipush (y := zX5_rested) (nI 10) kb_10 dX5_rested_16, wp_icmp_gt (y := zX5_rested) 32 (by decide) dX5_rested_18, wp_il5 (y := zX5_rested) dX5_rested_21, wp_if_lt (y := zX5_rested) 32 (by decide) dX5_rested_23, wp_iconst (y := zX5_rested) ((-1)) ki_m1 dX5_rested_32, wp_ireti (y := zX5_rested) rfl dX5_rested_33, E1, bI_t, h1, h2, h3]
      exact RT_mk R hI_
    by_cases h4 : nI 1 < what
    · rw [if_pos (Or.inr (Or.inr (Or.inr h4)))]
      have h4' : (what ≤ nI 1) = False := i_nle h4
      simp (disch := first | omega | assumption) only [mm_op_some, true_and, and_true, mm_rc_some, mm_rc_none, ok0, ok1, ok2, ok3, ok4, n1_0, n0_0, if_true, if_false, wp_il1 (y := zX5_rested) dX5_rested_0, wp_il3 (y := zX5_rested) dX5_rested_1, wp_il4 (y := zX5_rested) dX5_rested_2, wp_cs3 (y := zX5_rested) kM5_96 (by decide) dX5_rested_4, wp_if_eq (y := zX5_rested) 32 (by decide) dX5_rested_7, wp_il2 (y := zX5_rested) dX5_rested_10, wp_iconst (y := zX5_rested) (nI 1) ki_1 dX5_rested_11, wp_icmp_lt (y := zX5_rested) 32 (by decide) dX5_rested_12, wp_il2 (y := zX5_rested) dX5_rested_15, wp_bipush (y := zX5_rested) (nI 10) kb_10 dX5_rested_16, wp_icmp_gt (y := zX5_rested) 32 (by decide) dX5_rested_18, wp_il5 (y := zX5_rested) dX5_rested_21, wp_if_lt (y := zX5_rested) 32 (by decide) dX5_rested_23, wp_il5 (y := zX5_rested) dX5_rested_26, wp_iconst (y := zX5_rested) (nI 1) ki_1 dX5_rested_28, wp_icmp_le (y := zX5_rested) 34 (by decide) dX5_rested_29, wp_iconst (y := zX5_rested) ((-1)) ki_m1 dX5_rested_32, wp_ireti (y := zX5_rested) rfl dX5_rested_33, E1, bI_t, h1, h2, h3, h4']
      exact RT_mk R hI_
    have h4' : (what ≤ nI 1) = True := i_le h4
    rw [if_neg (by
      intro t
      rcases t with t | t | t | t
      · exact h1 t
      · exact h2 t
      · exact h3 t
      · exact h4 t)]
    by_cases h5 : nI 999999 - (many - nI 1) < seed
    · rw [if_pos h5]
      have h5' : (seed ≤ nI 999999 - (many - nI 1)) = False := i_nle h5
      simp (disch := first | omega | assumption) only [mm_op_some, true_and, and_true, mm_rc_some, mm_rc_none, ok0, ok1, ok2, ok3, ok4, n1_0, n0_0, if_true, if_false, wp_il1 (y := zX5_rested) dX5_rested_0, wp_il3 (y := zX5_rested) dX5_rested_1, wp_il4 (y := zX5_rested) dX5_rested_2, wp_cs3 (y := zX5_rested) kM5_96 (by decide) dX5_rested_4, wp_if_eq (y := zX5_rested) 32 (by decide) dX5_rested_7, wp_il2 (y := zX5_rested) dX5_rested_10, wp_iconst (y := zX5_rested) (nI 1) ki_1 dX5_rested_11, wp_icmp_lt (y := zX5_rested) 32 (by decide) dX5_rested_12, wp_il2 (y := zX5_rested) dX5_rested_15, wp_bipush (y := zX5_rested) (nI 10) kb_10 dX5_rested_16, wp_icmp_gt (y := zX5_rested) 32 (by decide) dX5_rested_18, wp_il5 (y := zX5_rested) dX5_rested_21, wp_if_lt (y := zX5_rested) 32 (by decide) dX5_rested_23, wp_il5 (y := zX5_rested) dX5_rested_26, wp_iconst (y := zX5_rested) (nI 1) ki_1 dX5_rested_28, wp_icmp_le (y := zX5_rested) 34 (by decide) dX5_rested_29, wp_il1 (y := zX5_rested) dX5_rested_34, wp_ldcw (y := zX5_rested) kC5_277 dX5_rested_35, wp_il2 (y := zX5_rested) dX5_rested_38, wp_iconst (y := zX5_rested) (nI 1) ki_1 dX5_rested_39, wp_isub (y := zX5_rested) dX5_rested_40, wp_isub (y := zX5_rested) dX5_rested_41, wp_icmp_le (y := zX5_rested) 47 (by decide) dX5_rested_42, wp_iconst (y := zX5_rested) ((-1)) ki_m1 dX5_rested_45, wp_ireti (y := zX5_rested) rfl dX5_rested_46, E1, bI_t, h1, h2, h3, h4', km5, h5']
      exact RT_mk R hI_
    rw [if_neg h5]
    have h5' : (seed ≤ nI 999999 - (many - nI 1)) = True := i_le h5
    simp (disch := first | omega | assumption) only [mm_op_some, true_and, and_true, mm_rc_some, mm_rc_none, ok0, ok1, ok2, ok3, ok4, n1_0, n0_0, if_true, if_false, wp_il1 (y := zX5_rested) dX5_rested_0, wp_il3 (y := zX5_rested) dX5_rested_1, wp_il4 (y := zX5_rested) dX5_rested_2, wp_cs3 (y := zX5_rested) kM5_96 (by decide) dX5_rested_4, wp_if_eq (y := zX5_rested) 32 (by decide) dX5_rested_7, wp_il2 (y := zX5_rested) dX5_rested_10, wp_iconst (y := zX5_rested) (nI 1) ki_1 dX5_rested_11, wp_icmp_lt (y := zX5_rested) 32 (by decide) dX5_rested_12, wp_il2 (y := zX5_rested) dX5_rested_15, wp_bipush (y := zX5_rested) (nI 10) kb_10 dX5_rested_16, wp_icmp_gt (y := zX5_rested) 32 (by decide) dX5_rested_18, wp_il5 (y := zX5_rested) dX5_rested_21, wp_if_lt (y := zX5_rested) 32 (by decide) dX5_rested_23, wp_il5 (y := zX5_rested) dX5_rested_26, wp_iconst (y := zX5_rested) (nI 1) ki_1 dX5_rested_28, wp_icmp_le (y := zX5_rested) 34 (by decide) dX5_rested_29, wp_il1 (y := zX5_rested) dX5_rested_34, wp_ldcw (y := zX5_rested) kC5_277 dX5_rested_35, wp_il2 (y := zX5_rested) dX5_rested_38, wp_iconst (y := zX5_rested) (nI 1) ki_1 dX5_rested_39, wp_isub (y := zX5_rested) dX5_rested_40, wp_isub (y := zX5_rested) dX5_rested_41, wp_icmp_le (y := zX5_rested) 47 (by decide) dX5_rested_42, wp_iconst (y := zX5_rested) ((-1)) ki_m1 dX5_rested_45, wp_ireti (y := zX5_rested) rfl dX5_rested_46, wp_al0 (y := zX5_rested) dX5_rested_47, wp_getf (y := zX5_rested) kF5_19 dX5_rested_48, wp_al0 (y := zX5_rested) dX5_rested_51, wp_getf (y := zX5_rested) kF5_10 dX5_rested_52, wp_il1 (y := zX5_rested) dX5_rested_55, wp_il2 (y := zX5_rested) dX5_rested_56, wp_il3 (y := zX5_rested) dX5_rested_57, wp_il4 (y := zX5_rested) dX5_rested_58, wp_cv_riiii (y := zX5_rested) kM5_278 (by decide) dX5_rested_60, (show yo zX3_bestSeed = 3 from rfl), E1, bI_t, h1, h2, h3, h4', km5, h5', X.oc, X.g0, X.g1, X.g2, P.oc]
    obtain ⟨a, b, c, rfl, a2, rfl, b1, b2, rfl, c2⟩ := shk_of e
    obtain ⟨m, rfl, m1, m2⟩ := rng (by decide) (by decide) h1 h2
    rw [nI_clamp (by omega), nI_clamp (by omega), nI_clamp (by omega)]
    refine cl_mono (c_bestSeed P F G.1 R hI_ d1 a m b (nI c) (by omega) (by omega)) ?_
    rintro r μ1 ⟨rfl, k1, F1⟩
    have R2 := R.frP F1 d1
    rw [bsS_any _ m1] at k1 ⊢
    generalize it (bsS s b (nI c) a) m 0 (-1, 0) = g at k1 ⊢
    by_cases hw : what = 0
    · rw [if_pos hw]
      have hw' := eq_true hw
      simp (disch := first | omega | assumption) only [mm_op_some, true_and, and_true, mm_rc_some, mm_rc_none, ok0, ok1, ok2, ok3, ok4, n1_0, n0_0, if_true, if_false, wp_is6 (y := zX5_rested) dX5_rested_63, wp_il5 (y := zX5_rested) dX5_rested_65, wp_if_ne (y := zX5_rested) 80 (by decide) dX5_rested_67, wp_al0 (y := zX5_rested) dX5_rested_70, wp_getf (y := zX5_rested) kF5_19 dX5_rested_71, wp_getf (y := zX5_rested) kF5_282 dX5_rested_74, wp_goto (y := zX5_rested) 82 (by decide) dX5_rested_77, wp_ireti (y := zX5_rested) rfl dX5_rested_82, hw', not_true, X.oc, X.g0, X.g1, X.g2, P.g1, k1]
      exact RT_mk R2 hI_
    · rw [if_neg hw]
      simp (disch := first | omega | assumption) only [mm_op_some, true_and, and_true, mm_rc_some, mm_rc_none, ok0, ok1, ok2, ok3, ok4, n1_0, n0_0, if_true, if_false, wp_is6 (y := zX5_rested) dX5_rested_63, wp_il5 (y := zX5_rested) dX5_rested_65, wp_if_ne (y := zX5_rested) 80 (by decide) dX5_rested_67, wp_il6 (y := zX5_rested) dX5_rested_80, wp_ireti (y := zX5_rested) rfl dX5_rested_82, hw, not_false_eq_true]
      exact RT_mk R2 hI_
def a_later (s : Fo) (n what : Int32) : Int32 := if n < 0 ∨ nI 50 < n ∨ what < 0 ∨ nI 4 < what then -2147483648 else if what = nI 0 then sC (goK n.toNatClampNeg s).1 (fun _ => nI 1) else if what = nI 1 then stn (goK n.toNatClampNeg s).1 else if what = nI 2 then (goK n.toNatClampNeg s).2.2.2 7 - s.2.2.2 7 else if what = nI 3 then (goK n.toNatClampNeg s).2.2.2 8 - s.2.2.2 8 else it (fun i a => if 0 < sd (goK n.toNatClampNeg s).1 (cI i) then imin a (ar (goK n.toNatClampNeg s).1 (cI i)) else a) 48 0 2147483647
theorem x_later (X : XSh sh x f p q) (G : GoodX I) (R : RepF s μ f) (hI_ : I s.1) (n what : Int32) : cl sh zX5_later [.ref x, .int n, .int what] μ (RT I f (a_later s n what, s)) := by
  obtain ⟨F, P, W, d1, d2⟩ := X.2
  have S := F.2.1
  have Soc := S.oc
  obtain ⟨B, L⟩ := G.1.1 _ hI_
  obtain ⟨H, O⟩ := G.2.2.1 _ hI_
  show wp sh zX5_later 0 [.ref x, .int n, .int what] [] μ _
  unfold a_later
  have bad : ∀ QQ : Option Value → mm_U → Prop, QQ (some (.int (-2147483648))) μ → wp sh zX5_later 19 [.ref x, .int n, .int what] [] μ QQ := by
    intro QQ h
    simp (disch := first | omega | assumption) only [wp_ldc (y := zX5_later) kC5_141 dX5_later_19, wp_ireti (y := zX5_later) rfl dX5_later_21]
    exact h
  by_cases h1 : n < 0
  · rw [if_pos (Or.inl h1)]
    simp (disch := first | omega | assumption) only [wp_il1 (y := zX5_later) dX5_later_0, wp_if_lt (y := zX5_later) 19 (by decide) dX5_later_1, h1, if_true]
    exact bad _ (RT_mk R hI_)
  by_cases h2 : nI 50 < n
  · rw [if_pos (Or.inr (Or.inl h2))]
    simp (disch := first | omega | assumption) only [wp_il1 (y := zX5_later) dX5_later_0, wp_if_lt (y := zX5_later) 19 (by decide) dX5_later_1, wp_il1 (y := zX5_later) dX5_later_4, wp_bipush (y := zX5_later) (nI 50) kb_50 dX5_later_5, wp_icmp_gt (y := zX5_later) 19 (by decide) dX5_later_7, h1, h2, if_true, if_false]
    exact bad _ (RT_mk R hI_)
  by_cases h3 : what < 0
  · rw [if_pos (Or.inr (Or.inr (Or.inl h3)))]
    simp (disch := first | omega | assumption) only [wp_il1 (y := zX5_later) dX5_later_0, wp_if_lt (y := zX5_later) 19 (by decide) dX5_later_1, wp_il1 (y := zX5_later) dX5_later_4, wp_bipush (y := zX5_later) (nI 50) kb_50 dX5_later_5, wp_icmp_gt (y := zX5_later) 19 (by decide) dX5_later_7, wp_il2 (y := zX5_later) dX5_later_10, wp_if_lt (y := zX5_later) 19 (by decide) dX5_later_11, h1, h2, h3, if_true, if_false]
    exact bad _ (RT_mk R hI_)
  by_cases h4 : nI 4 < what
  · rw [if_pos (Or.inr (Or.inr (Or.inr h4)))]
    have h4' : (what ≤ nI 4) = False := i_nle h4
    simp (disch := first | omega | assumption) only [wp_il1 (y := zX5_later) dX5_later_0, wp_if_lt (y := zX5_later) 19 (by decide) dX5_later_1, wp_il1 (y := zX5_later) dX5_later_4, wp_bipush (y := zX5_later) (nI 50) kb_50 dX5_later_5, wp_icmp_gt (y := zX5_later) 19 (by decide) dX5_later_7, wp_il2 (y := zX5_later) dX5_later_10, wp_if_lt (y := zX5_later) 19 (by decide) dX5_later_11, wp_il2 (y := zX5_later) dX5_later_14, wp_iconst (y := zX5_later) (nI 4) ki_4 dX5_later_15, wp_icmp_le (y := zX5_later) 22 (by decide) dX5_later_16, h1, h2, h3, h4', if_true, if_false]
    exact bad _ (RT_mk R hI_)
  rw [if_neg (by
    intro t
    rcases t with t | t | t | t
    · exact h1 t
    · exact h2 t
    · exact h3 t
    · exact h4 t)]
  have h4' : (what ≤ nI 4) = True := i_le h4
  obtain ⟨m, rfl, _, m2⟩ := rng (x := n) (a := 0) (by decide) (by decide) (by rw [nI_0]; exact h1) h2
  rw [nI_clamp (by omega)]
  have pre : ∀ QQ, wp sh zX5_later 0 [.ref x, .int (nI m), .int what] [] μ QQ = cl sh zX3_goOnFrom [.ref p, .ref f, .int (nI m)] μ (fun r μ1 => wp sh zX5_later 34 [.ref x, .int (nI m), .int what] (mm_rc r []) μ1 QQ) := by
    intro QQ
    simp (disch := first | omega | assumption) only [mm_op_some, true_and, and_true, mm_rc_some, mm_rc_none, ok0, ok1, ok2, ok3, ok4, n1_0, n0_0, if_true, if_false, wp_il1 (y := zX5_later) dX5_later_0, wp_if_lt (y := zX5_later) 19 (by decide) dX5_later_1, wp_il1 (y := zX5_later) dX5_later_4, wp_bipush (y := zX5_later) (nI 50) kb_50 dX5_later_5, wp_icmp_gt (y := zX5_later) 19 (by decide) dX5_later_7, wp_il2 (y := zX5_later) dX5_later_10, wp_if_lt (y := zX5_later) 19 (by decide) dX5_later_11, wp_il2 (y := zX5_later) dX5_later_14, wp_iconst (y := zX5_later) (nI 4) ki_4 dX5_later_15, wp_icmp_le (y := zX5_later) 22 (by decide) dX5_later_16, wp_al0 (y := zX5_later) dX5_later_22, wp_getf (y := zX5_later) kF5_19 dX5_later_23, wp_al0 (y := zX5_later) dX5_later_26, wp_getf (y := zX5_later) kF5_10 dX5_later_27, wp_il1 (y := zX5_later) dX5_later_30, wp_cv_ri (y := zX5_later) kM5_291 (by decide) dX5_later_31, (show yo zX3_goOnFrom = 3 from rfl), h1, h2, h3, h4', X.oc, X.g0, X.g1, X.g2, P.oc]
  rw [pre]
  refine cl_mono (c_goOnFrom P F G.1 R hI_ d1 m (by omega)) ?_
  rintro r μ1 ⟨rfl, ⟨R3, I3⟩, F1⟩
  have R2 := R.frP F1 d1
  have S3 := P.2.2.1
  have So3 := S3.oc
  have Fp0 := P.2.g0
  have Fp7 := P.2.g7
  have Fp8 := P.2.g8
  have p7 := R3.2.2.2 7 (by omega) (by omega)
  have p8 := R3.2.2.2 8 (by omega) (by omega)
  have q7 := R2.2.2.2 7 (by omega) (by omega)
  have q8 := R2.2.2.2 8 (by omega) (by omega)
  generalize goK m s = t at R3 I3 p7 p8 ⊢
  have B3 := (G.1.1 _ I3).1
  have E1 : ∀ Q', cl sh zX2_howManyCells [.ref (p + 1 + 1)] μ1 Q' = Q' (some (.int (sC t.1 (fun _ => nI 1)))) μ1 := fun Q' => c_howManyCells S3 R3.1 B3
  have E2 : ∀ Q', cl sh zX2_strain [.ref (p + 1 + 1)] μ1 Q' = Q' (some (.int (stn t.1))) μ1 := fun Q' => c_strain S3 R3.1 B3
  have E3 : ∀ Q', cl sh zX2_leastArea [.ref (p + 1 + 1)] μ1 Q' = Q' (some (.int (it (fun i a => if 0 < sd t.1 (cI i) then imin a (ar t.1 (cI i)) else a) 48 0 2147483647))) μ1 := fun Q' => c_leastArea S3 R3.1 B3
  have pre2 : ∀ QQ, wp sh zX5_later 34 [.ref x, .int (nI m), .int what] (mm_rc none []) μ1 QQ = wp sh zX5_later 35 [.ref x, .int (nI m), .int what] [.int what] μ1 QQ := by
    intro QQ
    simp (disch := first | omega | assumption) only [mm_rc_none, wp_il2 (y := zX5_later) dX5_later_34]
  rw [pre2]
  by_cases w0 : what = nI 0
  · subst w0
    rw [if_pos rfl, wp_tsIn (y := zX5_later) 64 dX5_later_35 (by decide) rfl (by decide)]
    simp (disch := first | omega | assumption) only [mm_op_some, true_and, and_true, mm_rc_some, mm_rc_none, ok0, ok1, ok2, ok3, ok4, n1_0, n0_0, if_true, if_false, wp_al0 (y := zX5_later) dX5_later_64, wp_getf (y := zX5_later) kF5_19 dX5_later_65, wp_getf (y := zX5_later) kF5_288 dX5_later_68, wp_getf (y := zX5_later) kF5_46 dX5_later_71, wp_cv0 (y := zX5_later) kM5_295 (by decide) dX5_later_74, (show yo zX2_howManyCells = 2 from rfl), wp_ireti (y := zX5_later) rfl dX5_later_77, X.oc, X.g0, X.g1, X.g2, F.oc, F.g0, F.g1, F.g2, F.g3, F.g4, F.g5, F.g6, F.g7, F.g8, F.g9, F.g10, P.g0, Fp0, Fp7, Fp8, So3, E1]
    exact RT_mk R2 hI_
  · rw [if_neg w0]
    by_cases w1 : what = nI 1
    · subst w1
      rw [if_pos rfl, wp_tsIn (y := zX5_later) 78 dX5_later_35 (by decide) rfl (by decide)]
      simp (disch := first | omega | assumption) only [mm_op_some, true_and, and_true, mm_rc_some, mm_rc_none, ok0, ok1, ok2, ok3, ok4, n1_0, n0_0, if_true, if_false, wp_al0 (y := zX5_later) dX5_later_78, wp_getf (y := zX5_later) kF5_19 dX5_later_79, wp_getf (y := zX5_later) kF5_288 dX5_later_82, wp_getf (y := zX5_later) kF5_46 dX5_later_85, wp_cv0 (y := zX5_later) kM5_229 (by decide) dX5_later_88, (show yo zX2_strain = 2 from rfl), wp_ireti (y := zX5_later) rfl dX5_later_91, X.oc, X.g0, X.g1, X.g2, F.oc, F.g0, F.g1, F.g2, F.g3, F.g4, F.g5, F.g6, F.g7, F.g8, F.g9, F.g10, P.g0, Fp0, Fp7, Fp8, So3, E2]
      exact RT_mk R2 hI_
    · rw [if_neg w1]
      by_cases w2 : what = nI 2
      · subst w2
        rw [if_pos rfl, wp_tsIn (y := zX5_later) 92 dX5_later_35 (by decide) rfl (by decide)]
        simp (disch := first | omega | assumption) only [mm_op_some, true_and, and_true, mm_rc_some, mm_rc_none, ok0, ok1, ok2, ok3, ok4, n1_0, n0_0, if_true, if_false, wp_al0 (y := zX5_later) dX5_later_92, wp_getf (y := zX5_later) kF5_19 dX5_later_93, wp_getf (y := zX5_later) kF5_288 dX5_later_96, wp_getf (y := zX5_later) kF5_103 dX5_later_99, wp_al0 (y := zX5_later) dX5_later_102, wp_getf (y := zX5_later) kF5_10 dX5_later_103, wp_getf (y := zX5_later) kF5_103 dX5_later_106, wp_isub (y := zX5_later) dX5_later_109, wp_ireti (y := zX5_later) rfl dX5_later_110, X.oc, X.g0, X.g1, X.g2, F.oc, F.g0, F.g1, F.g2, F.g3, F.g4, F.g5, F.g6, F.g7, F.g8, F.g9, F.g10, P.g0, Fp0, Fp7, Fp8, So3, p7, q7]
        exact RT_mk R2 hI_
      · rw [if_neg w2]
        by_cases w3 : what = nI 3
        · subst w3
          rw [if_pos rfl, wp_tsIn (y := zX5_later) 111 dX5_later_35 (by decide) rfl (by decide)]
          simp (disch := first | omega | assumption) only [mm_op_some, true_and, and_true, mm_rc_some, mm_rc_none, ok0, ok1, ok2, ok3, ok4, n1_0, n0_0, if_true, if_false, wp_al0 (y := zX5_later) dX5_later_111, wp_getf (y := zX5_later) kF5_19 dX5_later_112, wp_getf (y := zX5_later) kF5_288 dX5_later_115, wp_getf (y := zX5_later) kF5_106 dX5_later_118, wp_al0 (y := zX5_later) dX5_later_121, wp_getf (y := zX5_later) kF5_10 dX5_later_122, wp_getf (y := zX5_later) kF5_106 dX5_later_125, wp_isub (y := zX5_later) dX5_later_128, wp_ireti (y := zX5_later) rfl dX5_later_129, X.oc, X.g0, X.g1, X.g2, F.oc, F.g0, F.g1, F.g2, F.g3, F.g4, F.g5, F.g6, F.g7, F.g8, F.g9, F.g10, P.g0, Fp0, Fp7, Fp8, So3, p8, q8]
          exact RT_mk R2 hI_
        · rw [if_neg w3]
          rw [wp_tsOut (y := zX5_later) 130 dX5_later_35 (by decide) (by
              have a0 := int_ne w0
              rw [show (nI 0).toInt = 0 from rfl] at a0
              have a1 := int_ne w1
              rw [show (nI 1).toInt = 1 from rfl] at a1
              have a2 := int_ne w2
              rw [show (nI 2).toInt = 2 from rfl] at a2
              have a3 := int_ne w3
              rw [show (nI 3).toInt = 3 from rfl] at a3
              omega)]
          simp (disch := first | omega | assumption) only [mm_op_some, true_and, and_true, mm_rc_some, mm_rc_none, ok0, ok1, ok2, ok3, ok4, n1_0, n0_0, if_true, if_false, wp_al0 (y := zX5_later) dX5_later_130, wp_getf (y := zX5_later) kF5_19 dX5_later_131, wp_getf (y := zX5_later) kF5_288 dX5_later_134, wp_getf (y := zX5_later) kF5_46 dX5_later_137, wp_cv0 (y := zX5_later) kM5_241 (by decide) dX5_later_140, (show yo zX2_leastArea = 2 from rfl), wp_ireti (y := zX5_later) rfl dX5_later_143, X.oc, X.g0, X.g1, X.g2, F.oc, F.g0, F.g1, F.g2, F.g3, F.g4, F.g5, F.g6, F.g7, F.g8, F.g9, F.g10, P.g0, Fp0, Fp7, Fp8, So3, E3]
          exact RT_mk R2 hI_
def a_count (s : Fo) (what : Int32) : Int32 := if what = nI 0 then sC s.1 (fun _ => nI 1) else if what = nI 1 then sW s.1 (fun _ => nI 1) else if what = nI 2 then sW s.1 (fun _ => nI 1) / nI 3 * nI 2 else if what = nI 3 then s.2.2.2 6 else if what = nI 4 then s.2.2.2 7 else if what = nI 5 then s.2.2.2 8 else if what = nI 6 then s.2.2.2 9 else if what = nI 7 then s.2.2.2 3 else if what = nI 8 then s.2.2.2 4 else if what = nI 9 then s.2.2.2 5 else if what = nI 10 then nI s.2.1.length else if what = nI 11 then s.2.2.1 0 else if what = nI 12 then s.2.2.1 1 else if what = nI 13 then s.2.2.1 2 else if what = nI 14 then s.2.2.1 3 else if what = nI 15 then s.2.2.2 10 else -1
theorem x_count (X : XSh sh x f p q) (G : GoodX I) (R : RepF s μ f) (hI_ : I s.1) (what : Int32) : cl sh zX5_count [.ref x, .int what] μ (RT I f (a_count s what, s)) := by
  obtain ⟨F, P, W, d1, d2⟩ := X.2
  have S := F.2.1
  have Soc := S.oc
  obtain ⟨B, L⟩ := G.1.1 _ hI_
  obtain ⟨H, O⟩ := G.2.2.1 _ hI_
  show wp sh zX5_count 0 [.ref x, .int what] [] μ _
  unfold a_count
  have D := F.2.2.1
  have qd := R.2.1.2.1
  have k3 : ¬ nI 3 = 0 := by decide
  have q3 := R.2.2.2 3 (by omega) (by omega)
  have q4 := R.2.2.2 4 (by omega) (by omega)
  have q5 := R.2.2.2 5 (by omega) (by omega)
  have q6 := R.2.2.2 6 (by omega) (by omega)
  have q7 := R.2.2.2 7 (by omega) (by omega)
  have q8 := R.2.2.2 8 (by omega) (by omega)
  have q9 := R.2.2.2 9 (by omega) (by omega)
  have q10 := R.2.2.2 10 (by omega) (by omega)
  have r0 := R.2.2.1 0 (by omega)
  have i0 : (mm_in (nI 0) 4 = true) = True := mm_in_t (by decide) (by decide)
  have z0 : (nI 0).toNatClampNeg = 0 := rfl
  have r1 := R.2.2.1 1 (by omega)
  have i1 : (mm_in (nI 1) 4 = true) = True := mm_in_t (by decide) (by decide)
  have z1 : (nI 1).toNatClampNeg = 1 := rfl
  have r2 := R.2.2.1 2 (by omega)
  have i2 : (mm_in (nI 2) 4 = true) = True := mm_in_t (by decide) (by decide)
  have z2 : (nI 2).toNatClampNeg = 2 := rfl
  have r3 := R.2.2.1 3 (by omega)
  have i3 : (mm_in (nI 3) 4 = true) = True := mm_in_t (by decide) (by decide)
  have z3 : (nI 3).toNatClampNeg = 3 := rfl
  have E1 : ∀ Q', cl sh zX2_howManyCells [.ref (f + 1)] μ Q' = Q' (some (.int (sC s.1 (fun _ => nI 1)))) μ := fun Q' => c_howManyCells S R.1 B
  have E2 : ∀ Q', cl sh zX2_howManyWalls [.ref (f + 1)] μ Q' = Q' (some (.int (sW s.1 (fun _ => nI 1)))) μ := fun Q' => c_howManyWalls S R.1
  have pre : ∀ QQ, wp sh zX5_count 0 [.ref x, .int what] [] μ QQ = wp sh zX5_count 1 [.ref x, .int what] [.int what] μ QQ := by
    intro QQ
    simp (disch := first | omega | assumption) only [wp_il1 (y := zX5_count) dX5_count_0]
  rw [pre]
  by_cases w0 : what = nI 0
  · subst w0
    rw [if_pos rfl, wp_tsIn (y := zX5_count) 80 dX5_count_1 (by decide) rfl (by decide)]
    simp (disch := first | omega | assumption) only [mm_op_some, true_and, and_true, mm_rc_some, mm_rc_none, ok0, ok1, ok2, ok3, ok4, n1_0, n0_0, if_true, if_false, wp_al0 (y := zX5_count) dX5_count_80, wp_getf (y := zX5_count) kF5_10 dX5_count_81, wp_getf (y := zX5_count) kF5_46 dX5_count_84, wp_cv0 (y := zX5_count) kM5_295 (by decide) dX5_count_87, (show yo zX2_howManyCells = 2 from rfl), wp_ireti (y := zX5_count) rfl dX5_count_90, X.oc, X.g0, X.g1, X.g2, F.oc, F.g0, F.g1, F.g2, F.g3, F.g4, F.g5, F.g6, F.g7, F.g8, F.g9, F.g10, Soc, E1]
    exact RT_mk R hI_
  · rw [if_neg w0]
    by_cases w1 : what = nI 1
    · subst w1
      rw [if_pos rfl, wp_tsIn (y := zX5_count) 91 dX5_count_1 (by decide) rfl (by decide)]
      simp (disch := first | omega | assumption) only [mm_op_some, true_and, and_true, mm_rc_some, mm_rc_none, ok0, ok1, ok2, ok3, ok4, n1_0, n0_0, if_true, if_false, wp_al0 (y := zX5_count) dX5_count_91, wp_getf (y := zX5_count) kF5_10 dX5_count_92, wp_getf (y := zX5_count) kF5_46 dX5_count_95, wp_cv0 (y := zX5_count) kM5_313 (by decide) dX5_count_98, (show yo zX2_howManyWalls = 2 from rfl), wp_ireti (y := zX5_count) rfl dX5_count_101, X.oc, X.g0, X.g1, X.g2, F.oc, F.g0, F.g1, F.g2, F.g3, F.g4, F.g5, F.g6, F.g7, F.g8, F.g9, F.g10, Soc, E2]
      exact RT_mk R hI_
    · rw [if_neg w1]
      by_cases w2 : what = nI 2
      · subst w2
        rw [if_pos rfl, wp_tsIn (y := zX5_count) 102 dX5_count_1 (by decide) rfl (by decide)]
        simp (disch := first | omega | assumption) only [mm_op_some, true_and, and_true, mm_rc_some, mm_rc_none, ok0, ok1, ok2, ok3, ok4, n1_0, n0_0, if_true, if_false, wp_al0 (y := zX5_count) dX5_count_102, wp_getf (y := zX5_count) kF5_10 dX5_count_103, wp_getf (y := zX5_count) kF5_46 dX5_count_106, wp_cv0 (y := zX5_count) kM5_313 (by decide) dX5_count_109, (show yo zX2_howManyWalls = 2 from rfl), wp_iconst (y := zX5_count) (nI 3) ki_3 dX5_count_112, wp_idiv' (y := zX5_count) dX5_count_113, wp_iconst (y := zX5_count) (nI 2) ki_2 dX5_count_114, wp_imul (y := zX5_count) dX5_count_115, wp_ireti (y := zX5_count) rfl dX5_count_116, X.oc, X.g0, X.g1, X.g2, F.oc, F.g0, F.g1, F.g2, F.g3, F.g4, F.g5, F.g6, F.g7, F.g8, F.g9, F.g10, Soc, E2]
        exact RT_mk R hI_
      · rw [if_neg w2]
        by_cases w3 : what = nI 3
        · subst w3
          rw [if_pos rfl, wp_tsIn (y := zX5_count) 117 dX5_count_1 (by decide) rfl (by decide)]
          simp (disch := first | omega | assumption) only [mm_op_some, true_and, and_true, mm_rc_some, mm_rc_none, ok0, ok1, ok2, ok3, ok4, n1_0, n0_0, if_true, if_false, wp_al0 (y := zX5_count) dX5_count_117, wp_getf (y := zX5_count) kF5_10 dX5_count_118, wp_getf (y := zX5_count) kF5_316 dX5_count_121, wp_ireti (y := zX5_count) rfl dX5_count_124, X.oc, X.g0, X.g1, X.g2, F.oc, F.g0, F.g1, F.g2, F.g3, F.g4, F.g5, F.g6, F.g7, F.g8, F.g9, F.g10, Soc, q6]
          exact RT_mk R hI_
        · rw [if_neg w3]
          by_cases w4 : what = nI 4
          · subst w4
            rw [if_pos rfl, wp_tsIn (y := zX5_count) 125 dX5_count_1 (by decide) rfl (by decide)]
            simp (disch := first | omega | assumption) only [mm_op_some, true_and, and_true, mm_rc_some, mm_rc_none, ok0, ok1, ok2, ok3, ok4, n1_0, n0_0, if_true, if_false, wp_al0 (y := zX5_count) dX5_count_125, wp_getf (y := zX5_count) kF5_10 dX5_count_126, wp_getf (y := zX5_count) kF5_103 dX5_count_129, wp_ireti (y := zX5_count) rfl dX5_count_132, X.oc, X.g0, X.g1, X.g2, F.oc, F.g0, F.g1, F.g2, F.g3, F.g4, F.g5, F.g6, F.g7, F.g8, F.g9, F.g10, Soc, q7]
            exact RT_mk R hI_
          · rw [if_neg w4]
            by_cases w5 : what = nI 5
            · subst w5
              rw [if_pos rfl, wp_tsIn (y := zX5_count) 133 dX5_count_1 (by decide) rfl (by decide)]
              simp (disch := first | omega | assumption) only [mm_op_some, true_and, and_true, mm_rc_some, mm_rc_none, ok0, ok1, ok2, ok3, ok4, n1_0, n0_0, if_true, if_false, wp_al0 (y := zX5_count) dX5_count_133, wp_getf (y := zX5_count) kF5_10 dX5_count_134, wp_getf (y := zX5_count) kF5_106 dX5_count_137, wp_ireti (y := zX5_count) rfl dX5_count_140, X.oc, X.g0, X.g1, X.g2, F.oc, F.g0, F.g1, F.g2, F.g3, F.g4, F.g5, F.g6, F.g7, F.g8, F.g9, F.g10, Soc, q8]
              exact RT_mk R hI_
            · rw [if_neg w5]
              by_cases w6 : what = nI 6
              · subst w6
                rw [if_pos rfl, wp_tsIn (y := zX5_count) 141 dX5_count_1 (by decide) rfl (by decide)]
                simp (disch := first | omega | assumption) only [mm_op_some, true_and, and_true, mm_rc_some, mm_rc_none, ok0, ok1, ok2, ok3, ok4, n1_0, n0_0, if_true, if_false, wp_al0 (y := zX5_count) dX5_count_141, wp_getf (y := zX5_count) kF5_10 dX5_count_142, wp_getf (y := zX5_count) kF5_319 dX5_count_145, wp_ireti (y := zX5_count) rfl dX5_count_148, X.oc, X.g0, X.g1, X.g2, F.oc, F.g0, F.g1, F.g2, F.g3, F.g4, F.g5, F.g6, F.g7, F.g8, F.g9, F.g10, Soc, q9]
                exact RT_mk R hI_
              · rw [if_neg w6]
                by_cases w7 : what = nI 7
                · subst w7
                  rw [if_pos rfl, wp_tsIn (y := zX5_count) 149 dX5_count_1 (by decide) rfl (by decide)]
                  simp (disch := first | omega | assumption) only [mm_op_some, true_and, and_true, mm_rc_some, mm_rc_none, ok0, ok1, ok2, ok3, ok4, n1_0, n0_0, if_true, if_false, wp_al0 (y := zX5_count) dX5_count_149, wp_getf (y := zX5_count) kF5_10 dX5_count_150, wp_getf (y := zX5_count) kF5_322 dX5_count_153, wp_ireti (y := zX5_count) rfl dX5_count_156, X.oc, X.g0, X.g1, X.g2, F.oc, F.g0, F.g1, F.g2, F.g3, F.g4, F.g5, F.g6, F.g7, F.g8, F.g9, F.g10, Soc, q3]
                  exact RT_mk R hI_
                · rw [if_neg w7]
                  by_cases w8 : what = nI 8
                  · subst w8
                    rw [if_pos rfl, wp_tsIn (y := zX5_count) 157 dX5_count_1 (by decide) rfl (by decide)]
                    simp (disch := first | omega | assumption) only [mm_op_some, true_and, and_true, mm_rc_some, mm_rc_none, ok0, ok1, ok2, ok3, ok4, n1_0, n0_0, if_true, if_false, wp_al0 (y := zX5_count) dX5_count_157, wp_getf (y := zX5_count) kF5_10 dX5_count_158, wp_getf (y := zX5_count) kF5_325 dX5_count_161, wp_ireti (y := zX5_count) rfl dX5_count_164, X.oc, X.g0, X.g1, X.g2, F.oc, F.g0, F.g1, F.g2, F.g3, F.g4, F.g5, F.g6, F.g7, F.g8, F.g9, F.g10, Soc, q4]
                    exact RT_mk R hI_
                  · rw [if_neg w8]
                    by_cases w9 : what = nI 9
                    · subst w9
                      rw [if_pos rfl, wp_tsIn (y := zX5_count) 165 dX5_count_1 (by decide) rfl (by decide)]
                      simp (disch := first | omega | assumption) only [mm_op_some, true_and, and_true, mm_rc_some, mm_rc_none, ok0, ok1, ok2, ok3, ok4, n1_0, n0_0, if_true, if_false, wp_al0 (y := zX5_count) dX5_count_165, wp_getf (y := zX5_count) kF5_10 dX5_count_166, wp_getf (y := zX5_count) kF5_42 dX5_count_169, wp_ireti (y := zX5_count) rfl dX5_count_172, X.oc, X.g0, X.g1, X.g2, F.oc, F.g0, F.g1, F.g2, F.g3, F.g4, F.g5, F.g6, F.g7, F.g8, F.g9, F.g10, Soc, q5]
                      exact RT_mk R hI_
                    · rw [if_neg w9]
                      by_cases w10 : what = nI 10
                      · subst w10
                        rw [if_pos rfl, wp_tsIn (y := zX5_count) 173 dX5_count_1 (by decide) rfl (by decide)]
                        simp (disch := first | omega | assumption) only [mm_op_some, true_and, and_true, mm_rc_some, mm_rc_none, ok0, ok1, ok2, ok3, ok4, n1_0, n0_0, if_true, if_false, wp_al0 (y := zX5_count) dX5_count_173, wp_getf (y := zX5_count) kF5_10 dX5_count_174, wp_getf (y := zX5_count) kF5_304 dX5_count_177, wp_getf (y := zX5_count) kF5_328 dX5_count_180, wp_ireti (y := zX5_count) rfl dX5_count_183, X.oc, X.g0, X.g1, X.g2, F.oc, F.g0, F.g1, F.g2, F.g3, F.g4, F.g5, F.g6, F.g7, F.g8, F.g9, F.g10, Soc, D.g3, qd]
                        exact RT_mk R hI_
                      · rw [if_neg w10]
                        by_cases w11 : what = nI 11
                        · subst w11
                          rw [if_pos rfl, wp_tsIn (y := zX5_count) 184 dX5_count_1 (by decide) rfl (by decide)]
                          simp (disch := first | omega | assumption) only [mm_op_some, true_and, and_true, mm_rc_some, mm_rc_none, ok0, ok1, ok2, ok3, ok4, n1_0, n0_0, if_true, if_false, wp_al0 (y := zX5_count) dX5_count_184, wp_getf (y := zX5_count) kF5_10 dX5_count_185, wp_getf (y := zX5_count) kF5_331 dX5_count_188, wp_iconst (y := zX5_count) (nI 0) ki_0 dX5_count_191, wp_iald (y := zX5_count) dX5_count_192, wp_ireti (y := zX5_count) rfl dX5_count_193, X.oc, X.g0, X.g1, X.g2, F.oc, F.g0, F.g1, F.g2, F.g3, F.g4, F.g5, F.g6, F.g7, F.g8, F.g9, F.g10, Soc, F.a14, i0, z0, r0]
                          exact RT_mk R hI_
                        · rw [if_neg w11]
                          by_cases w12 : what = nI 12
                          · subst w12
                            rw [if_pos rfl, wp_tsIn (y := zX5_count) 194 dX5_count_1 (by decide) rfl (by decide)]
                            simp (disch := first | omega | assumption) only [mm_op_some, true_and, and_true, mm_rc_some, mm_rc_none, ok0, ok1, ok2, ok3, ok4, n1_0, n0_0, if_true, if_false, wp_al0 (y := zX5_count) dX5_count_194, wp_getf (y := zX5_count) kF5_10 dX5_count_195, wp_getf (y := zX5_count) kF5_331 dX5_count_198, wp_iconst (y := zX5_count) (nI 1) ki_1 dX5_count_201, wp_iald (y := zX5_count) dX5_count_202, wp_ireti (y := zX5_count) rfl dX5_count_203, X.oc, X.g0, X.g1, X.g2, F.oc, F.g0, F.g1, F.g2, F.g3, F.g4, F.g5, F.g6, F.g7, F.g8, F.g9, F.g10, Soc, F.a14, i1, z1, r1]
                            exact RT_mk R hI_
                          · rw [if_neg w12]
                            by_cases w13 : what = nI 13
                            · subst w13
                              rw [if_pos rfl, wp_tsIn (y := zX5_count) 204 dX5_count_1 (by decide) rfl (by decide)]
                              simp (disch := first | omega | assumption) only [mm_op_some, true_and, and_true, mm_rc_some, mm_rc_none, ok0, ok1, ok2, ok3, ok4, n1_0, n0_0, if_true, if_false, wp_al0 (y := zX5_count) dX5_count_204, wp_getf (y := zX5_count) kF5_10 dX5_count_205, wp_getf (y := zX5_count) kF5_331 dX5_count_208, wp_iconst (y := zX5_count) (nI 2) ki_2 dX5_count_211, wp_iald (y := zX5_count) dX5_count_212, wp_ireti (y := zX5_count) rfl dX5_count_213, X.oc, X.g0, X.g1, X.g2, F.oc, F.g0, F.g1, F.g2, F.g3, F.g4, F.g5, F.g6, F.g7, F.g8, F.g9, F.g10, Soc, F.a14, i2, z2, r2]
                              exact RT_mk R hI_
                            · rw [if_neg w13]
                              by_cases w14 : what = nI 14
                              · subst w14
                                rw [if_pos rfl, wp_tsIn (y := zX5_count) 214 dX5_count_1 (by decide) rfl (by decide)]
                                simp (disch := first | omega | assumption) only [mm_op_some, true_and, and_true, mm_rc_some, mm_rc_none, ok0, ok1, ok2, ok3, ok4, n1_0, n0_0, if_true, if_false, wp_al0 (y := zX5_count) dX5_count_214, wp_getf (y := zX5_count) kF5_10 dX5_count_215, wp_getf (y := zX5_count) kF5_331 dX5_count_218, wp_iconst (y := zX5_count) (nI 3) ki_3 dX5_count_221, wp_iald (y := zX5_count) dX5_count_222, wp_ireti (y := zX5_count) rfl dX5_count_223, X.oc, X.g0, X.g1, X.g2, F.oc, F.g0, F.g1, F.g2, F.g3, F.g4, F.g5, F.g6, F.g7, F.g8, F.g9, F.g10, Soc, F.a14, i3, z3, r3]
                                exact RT_mk R hI_
                              · rw [if_neg w14]
                                by_cases w15 : what = nI 15
                                · subst w15
                                  rw [if_pos rfl, wp_tsIn (y := zX5_count) 224 dX5_count_1 (by decide) rfl (by decide)]
                                  simp (disch := first | omega | assumption) only [mm_op_some, true_and, and_true, mm_rc_some, mm_rc_none, ok0, ok1, ok2, ok3, ok4, n1_0, n0_0, if_true, if_false, wp_al0 (y := zX5_count) dX5_count_224, wp_getf (y := zX5_count) kF5_10 dX5_count_225, wp_getf (y := zX5_count) kF5_334 dX5_count_228, wp_ireti (y := zX5_count) rfl dX5_count_231, X.oc, X.g0, X.g1, X.g2, F.oc, F.g0, F.g1, F.g2, F.g3, F.g4, F.g5, F.g6, F.g7, F.g8, F.g9, F.g10, Soc, q10]
                                  exact RT_mk R hI_
                                · rw [if_neg w15]
                                  rw [wp_tsOut (y := zX5_count) 232 dX5_count_1 (by decide) (by
                                      have a0 := int_ne w0
                                      rw [show (nI 0).toInt = 0 from rfl] at a0
                                      have a1 := int_ne w1
                                      rw [show (nI 1).toInt = 1 from rfl] at a1
                                      have a2 := int_ne w2
                                      rw [show (nI 2).toInt = 2 from rfl] at a2
                                      have a3 := int_ne w3
                                      rw [show (nI 3).toInt = 3 from rfl] at a3
                                      have a4 := int_ne w4
                                      rw [show (nI 4).toInt = 4 from rfl] at a4
                                      have a5 := int_ne w5
                                      rw [show (nI 5).toInt = 5 from rfl] at a5
                                      have a6 := int_ne w6
                                      rw [show (nI 6).toInt = 6 from rfl] at a6
                                      have a7 := int_ne w7
                                      rw [show (nI 7).toInt = 7 from rfl] at a7
                                      have a8 := int_ne w8
                                      rw [show (nI 8).toInt = 8 from rfl] at a8
                                      have a9 := int_ne w9
                                      rw [show (nI 9).toInt = 9 from rfl] at a9
                                      have a10 := int_ne w10
                                      rw [show (nI 10).toInt = 10 from rfl] at a10
                                      have a11 := int_ne w11
                                      rw [show (nI 11).toInt = 11 from rfl] at a11
                                      have a12 := int_ne w12
                                      rw [show (nI 12).toInt = 12 from rfl] at a12
                                      have a13 := int_ne w13
                                      rw [show (nI 13).toInt = 13 from rfl] at a13
                                      have a14 := int_ne w14
                                      rw [show (nI 14).toInt = 14 from rfl] at a14
                                      have a15 := int_ne w15
                                      rw [show (nI 15).toInt = 15 from rfl] at a15
                                      omega)]
                                  simp (disch := first | omega | assumption) only [mm_op_some, true_and, and_true, mm_rc_some, mm_rc_none, ok0, ok1, ok2, ok3, ok4, n1_0, n0_0, if_true, if_false, wp_iconst (y := zX5_count) ((-1)) ki_m1 dX5_count_232, wp_ireti (y := zX5_count) rfl dX5_count_233, X.oc, X.g0, X.g1, X.g2, F.oc, F.g0, F.g1, F.g2, F.g3, F.g4, F.g5, F.g6, F.g7, F.g8, F.g9, F.g10, Soc, E1]
                                  exact RT_mk R hI_
end X5H
