section X5F
variable {sh : mm_Sh} {x f p q b : Nat} {μ : mm_U} {M : Ms} {s : Fo} {I : Ms → Prop} {Q : Option Value → mm_U → Prop}
theorem nr_of1 {y : Int32} (h1 : ¬ y < -1) (h2 : ¬ nI 1 < y) : nr y = true := by
  refine decide_eq_true ⟨?_, ?_⟩
  · rw [Int32.lt_iff_toInt_lt] at h1 ⊢
    have e1 : (-1 : Int32).toInt = -1 := by decide
    have e2 : (-2 : Int32).toInt = -2 := by decide
    rw [e1] at h1
    rw [e2]
    omega
  · rw [Int32.lt_iff_toInt_lt] at h2 ⊢
    have e1 : (nI 1).toInt = 1 := by decide
    have e2 : (nI 2).toInt = 2 := by decide
    rw [e1] at h2
    rw [e2]
    omega
def a_around (s : Fo) (c y z : Int32) : Int32 := match ceO s.1 c with
  | none => -1
  | some a => if y < -1 ∨ nI 1 < y ∨ z < -1 ∨ nI 1 < z then -1 else fo ((srF s.1 (nI 0) a).1 (p3 a y z))
theorem x_around (X : XSh sh x f p q) (G : GoodX I) (R : RepF s μ f) (hI_ : I s.1) (c y z : Int32) : cl sh zX5_around [.ref x, .int c, .int y, .int z] μ (RT I f (a_around s c y z, s)) := by
  obtain ⟨F, P, W, d1, d2⟩ := X.2
  have S := F.2.1
  have Soc := S.oc
  obtain ⟨B, L⟩ := G.1.1 _ hI_
  obtain ⟨H, O⟩ := G.2.2.1 _ hI_
  show wp sh zX5_around 0 [.ref x, .int c, .int y, .int z] [] μ _
  unfold a_around
  cases ec : ceO s.1 c with
  | none =>
    have Ec : ∀ Q', cl sh zX2_hasCell [.ref (f + 1), .int c] μ Q' = Q' (some (.int (nI 0))) μ := fun Q' => c_hasCellN S R.1 ec
    simp (disch := first | omega | assumption) only [mm_op_some, true_and, and_true, mm_rc_some, mm_rc_none, nI_xor, tw_xor, pk_mul, nI_add, mm_in_t, nI_clamp, ok0, ok1, ok2, ok3, ok4, n1_0, n0_0, n0_zz, n1_zz, bI_eq0, bI_ne0, bI_zz, nI_le_, nI_lt_, nI_eq_, nI_lt0, nI_ge0, nI_gt0, nI_le0, nI_eq0, m1_lt0, m1_ge0, if_true, if_false, not_true, not_false_eq_true, Classical.not_not, true_or, or_true, false_or, n1_1, k10, Bool.true_eq_false, Bool.false_eq_true, Nat.le_refl, and_self, and_false, false_and, or_self, or_false, hf_lt, ce_lt, hf_cl, ce_cl, i_irr, i_rfl, wp_al0 (y := zX5_around) dX5_around_0, wp_getf (y := zX5_around) kF5_10 dX5_around_1, wp_getf (y := zX5_around) kF5_46 dX5_around_4, wp_il1 (y := zX5_around) dX5_around_7, wp_cv1 (y := zX5_around) kM5_50 (by decide) dX5_around_8, (show yo zX2_hasCell = 2 from rfl), wp_if_eq (y := zX5_around) 34 (by decide) dX5_around_11, wp_iconst (y := zX5_around) ((-1)) ki_m1 dX5_around_34, wp_ireti (y := zX5_around) rfl dX5_around_35, X.oc, X.g0, X.g1, X.g2, F.oc, F.g0, F.g1, F.g2, F.g3, F.g4, F.g5, F.g6, F.g7, F.g8, F.g9, F.g10, Soc, Ec]
    exact RT_mk R hI_
  | some a =>
    obtain ⟨rfl, ha⟩ := ceO_some ec
    have Ec : ∀ Q', cl sh zX2_hasCell [.ref (f + 1), .int (nI a.val)] μ Q' = Q' (some (.int (nI 1))) μ := fun Q' => c_hasCellS S R.1 B ha
    dsimp only
    by_cases h1 : y < -1
    · rw [if_pos (Or.inl h1)]
      simp (disch := first | omega | assumption) only [mm_op_some, true_and, and_true, mm_rc_some, ok0, ok1, ok2, n1_0, if_true, if_false, wp_al0 (y := zX5_around) dX5_around_0, wp_getf (y := zX5_around) kF5_10 dX5_around_1, wp_getf (y := zX5_around) kF5_46 dX5_around_4, wp_il1 (y := zX5_around) dX5_around_7, wp_cv1 (y := zX5_around) kM5_50 (by decide) dX5_around_8, (show yo zX2_hasCell = 2 from rfl), wp_if_eq (y := zX5_around) 34 (by decide) dX5_around_11, wp_il2 (y := zX5_around) dX5_around_14, wp_iconst (y := zX5_around) ((-1)) ki_m1 dX5_around_15, wp_icmp_lt (y := zX5_around) 34 (by decide) dX5_around_16, wp_iconst (y := zX5_around) ((-1)) ki_m1 dX5_around_34, wp_ireti (y := zX5_around) rfl dX5_around_35, X.oc, X.g0, X.g1, X.g2, F.oc, F.g0, F.g1, F.g2, F.g3, F.g4, F.g5, F.g6, F.g7, F.g8, F.g9, F.g10, Soc, Ec, h1]
      exact RT_mk R hI_
    by_cases h2 : nI 1 < y
    · rw [if_pos (Or.inr (Or.inl h2))]
      simp (disch := first | omega | assumption) only [mm_op_some, true_and, and_true, mm_rc_some, ok0, ok1, ok2, n1_0, if_true, if_false, wp_al0 (y := zX5_around) dX5_around_0, wp_getf (y := zX5_around) kF5_10 dX5_around_1, wp_getf (y := zX5_around) kF5_46 dX5_around_4, wp_il1 (y := zX5_around) dX5_around_7, wp_cv1 (y := zX5_around) kM5_50 (by decide) dX5_around_8, (show yo zX2_hasCell = 2 from rfl), wp_if_eq (y := zX5_around) 34 (by decide) dX5_around_11, wp_il2 (y := zX5_around) dX5_around_14, wp_iconst (y := zX5_around) ((-1)) ki_m1 dX5_around_15, wp_icmp_lt (y := zX5_around) 34 (by decide) dX5_around_16, wp_il2 (y := zX5_around) dX5_around_19, wp_iconst (y := zX5_around) (nI 1) ki_1 dX5_around_20, wp_icmp_gt (y := zX5_around) 34 (by decide) dX5_around_21, wp_iconst (y := zX5_around) ((-1)) ki_m1 dX5_around_34, wp_ireti (y := zX5_around) rfl dX5_around_35, X.oc, X.g0, X.g1, X.g2, F.oc, F.g0, F.g1, F.g2, F.g3, F.g4, F.g5, F.g6, F.g7, F.g8, F.g9, F.g10, Soc, Ec, h1, h2]
      exact RT_mk R hI_
    by_cases h3 : z < -1
    · rw [if_pos (Or.inr (Or.inr (Or.inl h3)))]
      simp (disch := first | omega | assumption) only [mm_op_some, true_and, and_true, mm_rc_some, ok0, ok1, ok2, n1_0, if_true, if_false, wp_al0 (y := zX5_around) dX5_around_0, wp_getf (y := zX5_around) kF5_10 dX5_around_1, wp_getf (y := zX5_around) kF5_46 dX5_around_4, wp_il1 (y := zX5_around) dX5_around_7, wp_cv1 (y := zX5_around) kM5_50 (by decide) dX5_around_8, (show yo zX2_hasCell = 2 from rfl), wp_if_eq (y := zX5_around) 34 (by decide) dX5_around_11, wp_il2 (y := zX5_around) dX5_around_14, wp_iconst (y := zX5_around) ((-1)) ki_m1 dX5_around_15, wp_icmp_lt (y := zX5_around) 34 (by decide) dX5_around_16, wp_il2 (y := zX5_around) dX5_around_19, wp_iconst (y := zX5_around) (nI 1) ki_1 dX5_around_20, wp_icmp_gt (y := zX5_around) 34 (by decide) dX5_around_21, wp_il3 (y := zX5_around) dX5_around_24, wp_iconst (y := zX5_around) ((-1)) ki_m1 dX5_around_25, wp_icmp_lt (y := zX5_around) 34 (by decide) dX5_around_26, wp_iconst (y := zX5_around) ((-1)) ki_m1 dX5_around_34, wp_ireti (y := zX5_around) rfl dX5_around_35, X.oc, X.g0, X.g1, X.g2, F.oc, F.g0, F.g1, F.g2, F.g3, F.g4, F.g5, F.g6, F.g7, F.g8, F.g9, F.g10, Soc, Ec, h1, h2, h3]
      exact RT_mk R hI_
    by_cases h4 : nI 1 < z
    · rw [if_pos (Or.inr (Or.inr (Or.inr h4)))]
      have h4' : (z ≤ nI 1) = False := i_nle h4
      simp (disch := first | omega | assumption) only [mm_op_some, true_and, and_true, mm_rc_some, ok0, ok1, ok2, n1_0, if_true, if_false, wp_al0 (y := zX5_around) dX5_around_0, wp_getf (y := zX5_around) kF5_10 dX5_around_1, wp_getf (y := zX5_around) kF5_46 dX5_around_4, wp_il1 (y := zX5_around) dX5_around_7, wp_cv1 (y := zX5_around) kM5_50 (by decide) dX5_around_8, (show yo zX2_hasCell = 2 from rfl), wp_if_eq (y := zX5_around) 34 (by decide) dX5_around_11, wp_il2 (y := zX5_around) dX5_around_14, wp_iconst (y := zX5_around) ((-1)) ki_m1 dX5_around_15, wp_icmp_lt (y := zX5_around) 34 (by decide) dX5_around_16, wp_il2 (y := zX5_around) dX5_around_19, wp_iconst (y := zX5_around) (nI 1) ki_1 dX5_around_20, wp_icmp_gt (y := zX5_around) 34 (by decide) dX5_around_21, wp_il3 (y := zX5_around) dX5_around_24, wp_iconst (y := zX5_around) ((-1)) ki_m1 dX5_around_25, wp_icmp_lt (y := zX5_around) 34 (by decide) dX5_around_26, wp_il3 (y := zX5_around) dX5_around_29, wp_iconst (y := zX5_around) (nI 1) ki_1 dX5_around_30, wp_icmp_le (y := zX5_around) 36 (by decide) dX5_around_31, wp_iconst (y := zX5_around) ((-1)) ki_m1 dX5_around_34, wp_ireti (y := zX5_around) rfl dX5_around_35, X.oc, X.g0, X.g1, X.g2, F.oc, F.g0, F.g1, F.g2, F.g3, F.g4, F.g5, F.g6, F.g7, F.g8, F.g9, F.g10, Soc, Ec, h1, h2, h3, h4']
      exact RT_mk R hI_
    rw [if_neg (by
      intro t
      rcases t with t | t | t | t
      · exact h1 t
      · exact h2 t
      · exact h3 t
      · exact h4 t)]
    have h4' : (z ≤ nI 1) = True := i_le h4
    simp (disch := first | omega | assumption) only [mm_op_some, true_and, and_true, mm_rc_some, ok0, ok1, ok2, ok3, n1_0, if_true, if_false, wp_al0 (y := zX5_around) dX5_around_0, wp_getf (y := zX5_around) kF5_10 dX5_around_1, wp_getf (y := zX5_around) kF5_46 dX5_around_4, wp_il1 (y := zX5_around) dX5_around_7, wp_cv1 (y := zX5_around) kM5_50 (by decide) dX5_around_8, (show yo zX2_hasCell = 2 from rfl), wp_if_eq (y := zX5_around) 34 (by decide) dX5_around_11, wp_il2 (y := zX5_around) dX5_around_14, wp_iconst (y := zX5_around) ((-1)) ki_m1 dX5_around_15, wp_icmp_lt (y := zX5_around) 34 (by decide) dX5_around_16, wp_il2 (y := zX5_around) dX5_around_19, wp_iconst (y := zX5_around) (nI 1) ki_1 dX5_around_20, wp_icmp_gt (y := zX5_around) 34 (by decide) dX5_around_21, wp_il3 (y := zX5_around) dX5_around_24, wp_iconst (y := zX5_around) ((-1)) ki_m1 dX5_around_25, wp_icmp_lt (y := zX5_around) 34 (by decide) dX5_around_26, wp_il3 (y := zX5_around) dX5_around_29, wp_iconst (y := zX5_around) (nI 1) ki_1 dX5_around_30, wp_icmp_le (y := zX5_around) 36 (by decide) dX5_around_31, wp_al0 (y := zX5_around) dX5_around_36, wp_getf (y := zX5_around) kF5_26 dX5_around_37, wp_al0 (y := zX5_around) dX5_around_40, wp_getf (y := zX5_around) kF5_10 dX5_around_41, wp_getf (y := zX5_around) kF5_46 dX5_around_44, wp_il1 (y := zX5_around) dX5_around_47, wp_iconst (y := zX5_around) (nI 0) ki_0 dX5_around_48, wp_cv_rii (y := zX5_around) kM5_201 (by decide) dX5_around_49, (show yo zX4_spreadRound = 4 from rfl), X.oc, X.g0, X.g1, X.g2, F.oc, F.g0, F.g1, F.g2, F.g3, F.g4, F.g5, F.g6, F.g7, F.g8, F.g9, F.g10, Soc, Ec, h1, h2, h3, h4', W.oc]
    refine cl_mono (c_spreadRound W S R.1 B L H O (by omega) (nI 0) a ha) ?_
    rintro r μ1 ⟨rfl, R1, F1⟩
    have rd := R1.1 (p3 a y z)
    have E3 : ∀ Q', cl sh zX4_spot [.int (nI a.val), .int y, .int z] μ1 Q' = Q' (some (.int (nI (p3 a y z).val))) μ1 := fun Q' => by rw [c_spot, (p3_val (nr_of1 h1 h2) (nr_of1 h3 h4)).1]
    simp (disch := first | omega | assumption) only [mm_op_some, true_and, and_true, mm_rc_some, mm_rc_none, ok0, ok1, ok2, ok3, wp_al0 (y := zX5_around) dX5_around_52, wp_getf (y := zX5_around) kF5_26 dX5_around_53, wp_getf (y := zX5_around) kF5_205 dX5_around_56, wp_il1 (y := zX5_around) dX5_around_59, wp_il2 (y := zX5_around) dX5_around_60, wp_il3 (y := zX5_around) dX5_around_61, wp_cs3 (y := zX5_around) kM5_208 (by decide) dX5_around_62, wp_iald (y := zX5_around) dX5_around_65, wp_ireti (y := zX5_around) rfl dX5_around_66, X.oc, X.g0, X.g1, X.g2, W.oc, W.g0, W.g1, W.g2, W.g3, W.g4, W.p4, W.a1, W.a2, W.a3, W.a4, E3, p3_lt, p3_cl, rd]
    exact RT_mk (R.cg (fun t h1 h2 => F1 t (by omega))) hI_
def a_rounds (s : Fo) (c what : Int32) : Int32 := match waO s.1 c with
  | none => -2147483648
  | some w => if what = nI 0 then rx s.1 (buA s.1 w) else if what = nI 1 then ry s.1 (buA s.1 w) else -2147483648
theorem x_rounds (X : XSh sh x f p q) (G : GoodX I) (R : RepF s μ f) (hI_ : I s.1) (c what : Int32) : cl sh zX5_rounds [.ref x, .int c, .int what] μ (RT I f (a_rounds s c what, s)) := by
  obtain ⟨F, P, W, d1, d2⟩ := X.2
  have S := F.2.1
  have Soc := S.oc
  obtain ⟨B, L⟩ := G.1.1 _ hI_
  obtain ⟨H, O⟩ := G.2.2.1 _ hI_
  show wp sh zX5_rounds 0 [.ref x, .int c, .int what, .null, .null] [] μ _
  unfold a_rounds
  cases e : waO s.1 c with
  | none =>
    have E1 : ∀ Q', cl sh zX2_hasWall [.ref (f + 1), .int c] μ Q' = Q' (some (.int (nI 0))) μ := fun Q' => c_hasWallN S R.1 e
    simp (disch := first | omega | assumption) only [mm_op_some, true_and, and_true, mm_rc_some, mm_rc_none, nI_xor, tw_xor, pk_mul, nI_add, mm_in_t, nI_clamp, ok0, ok1, ok2, ok3, ok4, n1_0, n0_0, n0_zz, n1_zz, bI_eq0, bI_ne0, bI_zz, nI_le_, nI_lt_, nI_eq_, nI_lt0, nI_ge0, nI_gt0, nI_le0, nI_eq0, m1_lt0, m1_ge0, if_true, if_false, not_true, not_false_eq_true, Classical.not_not, true_or, or_true, false_or, n1_1, k10, Bool.true_eq_false, Bool.false_eq_true, Nat.le_refl, and_self, and_false, false_and, or_self, or_false, hf_lt, ce_lt, hf_cl, ce_cl, i_irr, i_rfl, wp_al0 (y := zX5_rounds) dX5_rounds_0, wp_getf (y := zX5_rounds) kF5_10 dX5_rounds_1, wp_getf (y := zX5_rounds) kF5_46 dX5_rounds_4, wp_il1 (y := zX5_rounds) dX5_rounds_7, wp_cv1 (y := zX5_rounds) kM5_60 (by decide) dX5_rounds_8, (show yo zX2_hasWall = 2 from rfl), wp_if_ne (y := zX5_rounds) 17 (by decide) dX5_rounds_11, wp_ldc (y := zX5_rounds) kC5_141 dX5_rounds_14, wp_ireti (y := zX5_rounds) rfl dX5_rounds_16, X.oc, X.g0, X.g1, X.g2, F.oc, F.g0, F.g1, F.g2, F.g3, F.g4, F.g5, F.g6, F.g7, F.g8, F.g9, F.g10, Soc, E1]
    exact RT_mk R hI_
  | some k =>
    obtain ⟨rfl, hc⟩ := waO_some e
    have kb := k.isLt
    have E1 : ∀ Q', cl sh zX2_hasWall [.ref (f + 1), .int (nI k.val)] μ Q' = Q' (some (.int (nI 1))) μ := fun Q' => c_hasWallS S R.1 hc
    have l0 : lv s.1 (wl (h0 k)) = true := by rw [wl_h0]; exact hc
    have l1 : lv s.1 (wl (h1 k)) = true := by rw [wl_h1]; exact hc
    have o0 : μ (f + 1 + 1) (2 * k.val) = nI (ow s.1 (h0 k)).val := (R.1.1 _ l0).1
    have o1 : μ (f + 1 + 1) (2 * k.val + 1) = nI (ow s.1 (h1 k)).val := (R.1.1 _ l1).1
    have b0 := (ow s.1 (h0 k)).isLt
    have b1 := (ow s.1 (h1 k)).isLt
    have lb : lv s.1 (wl (buA s.1 k)) = true := by unfold buA; split <;> assumption
    have rx_ := R.1.rxv _ lb
    have ry_ := R.1.ryv _ lb
    have pre : ∀ QQ, wp sh zX5_rounds 0 [.ref x, .int (nI k.val), .int what, .null, .null] [] μ QQ = wp sh zX5_rounds 60 [.ref x, .int (nI k.val), .int what, .ref (f + 1), .int (nI (buA s.1 k).val)] [.int what] μ QQ := by
      intro QQ
      unfold buA
      by_cases h : (ow s.1 (h0 k)).val < (ow s.1 (h1 k)).val
      · have h' : ((ow s.1 (h1 k)).val ≤ (ow s.1 (h0 k)).val) = False := eq_false (by omega)
        rw [if_pos h]
        simp (disch := first | omega | assumption) only [mm_op_some, true_and, and_true, mm_rc_some, mm_rc_none, nI_xor, tw_xor, pk_mul, nI_add, mm_in_t, nI_clamp, ok0, ok1, ok2, ok3, ok4, n1_0, n0_0, n0_zz, n1_zz, bI_eq0, bI_ne0, bI_zz, nI_le_, nI_lt_, nI_eq_, nI_lt0, nI_ge0, nI_gt0, nI_le0, nI_eq0, m1_lt0, m1_ge0, if_true, if_false, not_true, not_false_eq_true, Classical.not_not, true_or, or_true, false_or, n1_1, k10, Bool.true_eq_false, Bool.false_eq_true, Nat.le_refl, and_self, and_false, false_and, or_self, or_false, hf_lt, ce_lt, hf_cl, ce_cl, i_irr, i_rfl, wp_al0 (y := zX5_rounds) dX5_rounds_0, wp_getf (y := zX5_rounds) kF5_10 dX5_rounds_1, wp_getf (y := zX5_rounds) kF5_46 dX5_rounds_4, wp_il1 (y := zX5_rounds) dX5_rounds_7, wp_cv1 (y := zX5_rounds) kM5_60 (by decide) dX5_rounds_8, (show yo zX2_hasWall = 2 from rfl), wp_if_ne (y := zX5_rounds) 17 (by decide) dX5_rounds_11, wp_al0 (y := zX5_rounds) dX5_rounds_17, wp_getf (y := zX5_rounds) kF5_10 dX5_rounds_18, wp_getf (y := zX5_rounds) kF5_46 dX5_rounds_21, wp_as3 (y := zX5_rounds) dX5_rounds_24, wp_al3 (y := zX5_rounds) dX5_rounds_25, wp_getf (y := zX5_rounds) kF5_148 dX5_rounds_26, wp_iconst (y := zX5_rounds) (nI 2) ki_2 dX5_rounds_29, wp_il1 (y := zX5_rounds) dX5_rounds_30, wp_imul (y := zX5_rounds) dX5_rounds_31, wp_iald (y := zX5_rounds) dX5_rounds_32, wp_al3 (y := zX5_rounds) dX5_rounds_33, wp_getf (y := zX5_rounds) kF5_148 dX5_rounds_34, wp_iconst (y := zX5_rounds) (nI 2) ki_2 dX5_rounds_37, wp_il1 (y := zX5_rounds) dX5_rounds_38, wp_imul (y := zX5_rounds) dX5_rounds_39, wp_iconst (y := zX5_rounds) (nI 1) ki_1 dX5_rounds_40, wp_iadd (y := zX5_rounds) dX5_rounds_41, wp_iald (y := zX5_rounds) dX5_rounds_42, wp_icmp_ge (y := zX5_rounds) 52 (by decide) dX5_rounds_43, wp_iconst (y := zX5_rounds) (nI 2) ki_2 dX5_rounds_46, wp_il1 (y := zX5_rounds) dX5_rounds_47, wp_imul (y := zX5_rounds) dX5_rounds_48, wp_goto (y := zX5_rounds) 57 (by decide) dX5_rounds_49, wp_is4 (y := zX5_rounds) dX5_rounds_57, wp_il2 (y := zX5_rounds) dX5_rounds_59, X.oc, X.g0, X.g1, X.g2, F.oc, F.g0, F.g1, F.g2, F.g3, F.g4, F.g5, F.g6, F.g7, F.g8, F.g9, F.g10, S.oc, S.g0, S.g1, S.g2, S.g3, S.g4, S.g5, S.g6, S.g7, S.a1, S.a2, S.a3, S.a4, S.a5, S.a6, S.a7, S.a8, E1, o0, o1, h', h0_val]
      · have h' : ((ow s.1 (h1 k)).val ≤ (ow s.1 (h0 k)).val) = True := eq_true (by omega)
        rw [if_neg h]
        simp (disch := first | omega | assumption) only [mm_op_some, true_and, and_true, mm_rc_some, mm_rc_none, nI_xor, tw_xor, pk_mul, nI_add, mm_in_t, nI_clamp, ok0, ok1, ok2, ok3, ok4, n1_0, n0_0, n0_zz, n1_zz, bI_eq0, bI_ne0, bI_zz, nI_le_, nI_lt_, nI_eq_, nI_lt0, nI_ge0, nI_gt0, nI_le0, nI_eq0, m1_lt0, m1_ge0, if_true, if_false, not_true, not_false_eq_true, Classical.not_not, true_or, or_true, false_or, n1_1, k10, Bool.true_eq_false, Bool.false_eq_true, Nat.le_refl, and_self, and_false, false_and, or_self, or_false, hf_lt, ce_lt, hf_cl, ce_cl, i_irr, i_rfl, wp_al0 (y := zX5_rounds) dX5_rounds_0, wp_getf (y := zX5_rounds) kF5_10 dX5_rounds_1, wp_getf (y := zX5_rounds) kF5_46 dX5_rounds_4, wp_il1 (y := zX5_rounds) dX5_rounds_7, wp_cv1 (y := zX5_rounds) kM5_60 (by decide) dX5_rounds_8, (show yo zX2_hasWall = 2 from rfl), wp_if_ne (y := zX5_rounds) 17 (by decide) dX5_rounds_11, wp_al0 (y := zX5_rounds) dX5_rounds_17, wp_getf (y := zX5_rounds) kF5_10 dX5_rounds_18, wp_getf (y := zX5_rounds) kF5_46 dX5_rounds_21, wp_as3 (y := zX5_rounds) dX5_rounds_24, wp_al3 (y := zX5_rounds) dX5_rounds_25, wp_getf (y := zX5_rounds) kF5_148 dX5_rounds_26, wp_iconst (y := zX5_rounds) (nI 2) ki_2 dX5_rounds_29, wp_il1 (y := zX5_rounds) dX5_rounds_30, wp_imul (y := zX5_rounds) dX5_rounds_31, wp_iald (y := zX5_rounds) dX5_rounds_32, wp_al3 (y := zX5_rounds) dX5_rounds_33, wp_getf (y := zX5_rounds) kF5_148 dX5_rounds_34, wp_iconst (y := zX5_rounds) (nI 2) ki_2 dX5_rounds_37, wp_il1 (y := zX5_rounds) dX5_rounds_38, wp_imul (y := zX5_rounds) dX5_rounds_39, wp_iconst (y := zX5_rounds) (nI 1) ki_1 dX5_rounds_40, wp_iadd (y := zX5_rounds) dX5_rounds_41, wp_iald (y := zX5_rounds) dX5_rounds_42, wp_icmp_ge (y := zX5_rounds) 52 (by decide) dX5_rounds_43, wp_iconst (y := zX5_rounds) (nI 2) ki_2 dX5_rounds_52, wp_il1 (y := zX5_rounds) dX5_rounds_53, wp_imul (y := zX5_rounds) dX5_rounds_54, wp_iconst (y := zX5_rounds) (nI 1) ki_1 dX5_rounds_55, wp_iadd (y := zX5_rounds) dX5_rounds_56, wp_is4 (y := zX5_rounds) dX5_rounds_57, wp_il2 (y := zX5_rounds) dX5_rounds_59, X.oc, X.g0, X.g1, X.g2, F.oc, F.g0, F.g1, F.g2, F.g3, F.g4, F.g5, F.g6, F.g7, F.g8, F.g9, F.g10, S.oc, S.g0, S.g1, S.g2, S.g3, S.g4, S.g5, S.g6, S.g7, S.a1, S.a2, S.a3, S.a4, S.a5, S.a6, S.a7, S.a8, E1, o0, o1, h', h1_val]
    rw [pre]
    dsimp only
    by_cases w0 : what = nI 0
    · subst w0
      rw [if_pos rfl, wp_ls (y := zX5_rounds) 88 dX5_rounds_60 (by decide) rfl (by decide)]
      simp (disch := first | omega | assumption) only [mm_op_some, true_and, and_true, mm_rc_some, mm_rc_none, nI_xor, tw_xor, pk_mul, nI_add, mm_in_t, nI_clamp, ok0, ok1, ok2, ok3, ok4, n1_0, n0_0, n0_zz, n1_zz, bI_eq0, bI_ne0, bI_zz, nI_le_, nI_lt_, nI_eq_, nI_lt0, nI_ge0, nI_gt0, nI_le0, nI_eq0, m1_lt0, m1_ge0, if_true, if_false, not_true, not_false_eq_true, Classical.not_not, true_or, or_true, false_or, n1_1, k10, Bool.true_eq_false, Bool.false_eq_true, Nat.le_refl, and_self, and_false, false_and, or_self, or_false, hf_lt, ce_lt, hf_cl, ce_cl, i_irr, i_rfl, wp_al3 (y := zX5_rounds) dX5_rounds_88, wp_getf (y := zX5_rounds) kF5_211 dX5_rounds_89, wp_il4 (y := zX5_rounds) dX5_rounds_92, wp_iald (y := zX5_rounds) dX5_rounds_94, wp_ireti (y := zX5_rounds) rfl dX5_rounds_95, X.oc, X.g0, X.g1, X.g2, F.oc, F.g0, F.g1, F.g2, F.g3, F.g4, F.g5, F.g6, F.g7, F.g8, F.g9, F.g10, S.oc, S.g0, S.g1, S.g2, S.g3, S.g4, S.g5, S.g6, S.g7, S.a1, S.a2, S.a3, S.a4, S.a5, S.a6, S.a7, S.a8, rx_]
      exact RT_mk R hI_
    · rw [if_neg w0]
      by_cases w1 : what = nI 1
      · subst w1
        rw [if_pos rfl, wp_ls (y := zX5_rounds) 96 dX5_rounds_60 (by decide) rfl (by decide)]
        simp (disch := first | omega | assumption) only [mm_op_some, true_and, and_true, mm_rc_some, mm_rc_none, nI_xor, tw_xor, pk_mul, nI_add, mm_in_t, nI_clamp, ok0, ok1, ok2, ok3, ok4, n1_0, n0_0, n0_zz, n1_zz, bI_eq0, bI_ne0, bI_zz, nI_le_, nI_lt_, nI_eq_, nI_lt0, nI_ge0, nI_gt0, nI_le0, nI_eq0, m1_lt0, m1_ge0, if_true, if_false, not_true, not_false_eq_true, Classical.not_not, true_or, or_true, false_or, n1_1, k10, Bool.true_eq_false, Bool.false_eq_true, Nat.le_refl, and_self, and_false, false_and, or_self, or_false, hf_lt, ce_lt, hf_cl, ce_cl, i_irr, i_rfl, wp_al3 (y := zX5_rounds) dX5_rounds_96, wp_getf (y := zX5_rounds) kF5_214 dX5_rounds_97, wp_il4 (y := zX5_rounds) dX5_rounds_100, wp_iald (y := zX5_rounds) dX5_rounds_102, wp_ireti (y := zX5_rounds) rfl dX5_rounds_103, X.oc, X.g0, X.g1, X.g2, F.oc, F.g0, F.g1, F.g2, F.g3, F.g4, F.g5, F.g6, F.g7, F.g8, F.g9, F.g10, S.oc, S.g0, S.g1, S.g2, S.g3, S.g4, S.g5, S.g6, S.g7, S.a1, S.a2, S.a3, S.a4, S.a5, S.a6, S.a7, S.a8, ry_]
        exact RT_mk R hI_
      · rw [if_neg w1]
        rw [wp_ls (y := zX5_rounds) 104 dX5_rounds_60 (by decide) (ls2 _ _ _ w0 w1) (by decide)]
        simp (disch := first | omega | assumption) only [mm_op_some, true_and, and_true, mm_rc_some, mm_rc_none, nI_xor, tw_xor, pk_mul, nI_add, mm_in_t, nI_clamp, ok0, ok1, ok2, ok3, ok4, n1_0, n0_0, n0_zz, n1_zz, bI_eq0, bI_ne0, bI_zz, nI_le_, nI_lt_, nI_eq_, nI_lt0, nI_ge0, nI_gt0, nI_le0, nI_eq0, m1_lt0, m1_ge0, if_true, if_false, not_true, not_false_eq_true, Classical.not_not, true_or, or_true, false_or, n1_1, k10, Bool.true_eq_false, Bool.false_eq_true, Nat.le_refl, and_self, and_false, false_and, or_self, or_false, hf_lt, ce_lt, hf_cl, ce_cl, i_irr, i_rfl, wp_ldc (y := zX5_rounds) kC5_141 dX5_rounds_104, wp_ireti (y := zX5_rounds) rfl dX5_rounds_106, X.oc, X.g0, X.g1, X.g2, F.oc, F.g0, F.g1, F.g2, F.g3, F.g4, F.g5, F.g6, F.g7, F.g8, F.g9, F.g10, S.oc, S.g0, S.g1, S.g2, S.g3, S.g4, S.g5, S.g6, S.g7, S.a1, S.a2, S.a3, S.a4, S.a5, S.a6, S.a7, S.a8]
        exact RT_mk R hI_
def a_pieces (s : Fo) (n what : Int32) : Int32 := if n < 0 ∨ what < 0 ∨ nI 2 < what then -1 else if what = nI 0 then (it (gpS s.1 n) 48 0 (fun _ => none, nI 0, nI 0, -1)).2.1 else if what = nI 1 then (it (gpS s.1 n) 48 0 (fun _ => none, nI 0, nI 0, -1)).2.2.1 else (it (gpS s.1 n) 48 0 (fun _ => none, nI 0, nI 0, -1)).2.2.2
theorem x_pieces (X : XSh sh x f p q) (G : GoodX I) (R : RepF s μ f) (hI_ : I s.1) (n what : Int32) : cl sh zX5_pieces [.ref x, .int n, .int what] μ (RT I f (a_pieces s n what, s)) := by
  obtain ⟨F, P, W, d1, d2⟩ := X.2
  have S := F.2.1
  have Soc := S.oc
  obtain ⟨B, L⟩ := G.1.1 _ hI_
  obtain ⟨H, O⟩ := G.2.2.1 _ hI_
  show wp sh zX5_pieces 0 [.ref x, .int n, .int what] [] μ _
  unfold a_pieces
  by_cases h1 : n < 0
  · rw [if_pos (Or.inl h1)]
    simp (disch := first | omega | assumption) only [wp_il1 (y := zX5_pieces) dX5_pieces_0, wp_if_lt (y := zX5_pieces) 13 (by decide) dX5_pieces_1, wp_iconst (y := zX5_pieces) ((-1)) ki_m1 dX5_pieces_13, wp_ireti (y := zX5_pieces) rfl dX5_pieces_14, h1, if_true]
    exact RT_mk R hI_
  by_cases h2 : what < 0
  · rw [if_pos (Or.inr (Or.inl h2))]
    simp (disch := first | omega | assumption) only [wp_il1 (y := zX5_pieces) dX5_pieces_0, wp_if_lt (y := zX5_pieces) 13 (by decide) dX5_pieces_1, wp_il2 (y := zX5_pieces) dX5_pieces_4, wp_if_lt (y := zX5_pieces) 13 (by decide) dX5_pieces_5, wp_iconst (y := zX5_pieces) ((-1)) ki_m1 dX5_pieces_13, wp_ireti (y := zX5_pieces) rfl dX5_pieces_14, h1, h2, if_true, if_false]
    exact RT_mk R hI_
  by_cases h3 : nI 2 < what
  · rw [if_pos (Or.inr (Or.inr h3))]
    have h3' : (what ≤ nI 2) = False := i_nle h3
    simp (disch := first | omega | assumption) only [wp_il1 (y := zX5_pieces) dX5_pieces_0, wp_if_lt (y := zX5_pieces) 13 (by decide) dX5_pieces_1, wp_il2 (y := zX5_pieces) dX5_pieces_4, wp_if_lt (y := zX5_pieces) 13 (by decide) dX5_pieces_5, wp_il2 (y := zX5_pieces) dX5_pieces_8, wp_iconst (y := zX5_pieces) (nI 2) ki_2 dX5_pieces_9, wp_icmp_le (y := zX5_pieces) 15 (by decide) dX5_pieces_10, wp_iconst (y := zX5_pieces) ((-1)) ki_m1 dX5_pieces_13, wp_ireti (y := zX5_pieces) rfl dX5_pieces_14, h1, h2, h3', if_true, if_false]
    exact RT_mk R hI_
  rw [if_neg (by
    intro t
    rcases t with t | t | t
    · exact h1 t
    · exact h2 t
    · exact h3 t)]
  have h3' : (what ≤ nI 2) = True := i_le h3
  simp (disch := first | omega | assumption) only [mm_op_some, true_and, and_true, mm_rc_some, ok0, ok1, ok2, ok3, wp_il1 (y := zX5_pieces) dX5_pieces_0, wp_if_lt (y := zX5_pieces) 13 (by decide) dX5_pieces_1, wp_il2 (y := zX5_pieces) dX5_pieces_4, wp_if_lt (y := zX5_pieces) 13 (by decide) dX5_pieces_5, wp_il2 (y := zX5_pieces) dX5_pieces_8, wp_iconst (y := zX5_pieces) (nI 2) ki_2 dX5_pieces_9, wp_icmp_le (y := zX5_pieces) 15 (by decide) dX5_pieces_10, wp_al0 (y := zX5_pieces) dX5_pieces_15, wp_getf (y := zX5_pieces) kF5_26 dX5_pieces_16, wp_al0 (y := zX5_pieces) dX5_pieces_19, wp_getf (y := zX5_pieces) kF5_10 dX5_pieces_20, wp_getf (y := zX5_pieces) kF5_46 dX5_pieces_23, wp_il1 (y := zX5_pieces) dX5_pieces_26, wp_cv_ri (y := zX5_pieces) kM5_217 (by decide) dX5_pieces_27, (show yo zX4_gatherPieces = 4 from rfl), h1, h2, h3', if_true, if_false, X.oc, X.g0, X.g1, X.g2, F.oc, F.g0, F.g1, F.g2, F.g3, F.g4, F.g5, F.g6, F.g7, F.g8, F.g9, F.g10, Soc, W.oc]
  refine cl_mono (c_gatherPieces W S R.1 B L H O (by omega) n) ?_
  rintro r μ1 ⟨rfl, R1, F1⟩
  have R2 : RepF s μ1 f := R.cg (fun t h1 h2 => F1 t (by omega))
  obtain ⟨_, q5, q6, q7⟩ := R1
  generalize it (gpS s.1 n) 48 0 (fun _ => none, nI 0, nI 0, -1) = g at q5 q6 q7 ⊢
  simp (disch := first | omega | assumption) only [mm_rc_none, wp_il2 (y := zX5_pieces) dX5_pieces_30]
  by_cases w0 : what = nI 0
  · subst w0
    rw [if_pos rfl, wp_ls (y := zX5_pieces) 56 dX5_pieces_31 (by decide) rfl (by decide)]
    simp (disch := first | omega | assumption) only [mm_op_some, true_and, and_true, mm_rc_some, mm_rc_none, nI_xor, tw_xor, pk_mul, nI_add, mm_in_t, nI_clamp, ok0, ok1, ok2, ok3, ok4, n1_0, n0_0, n0_zz, n1_zz, bI_eq0, bI_ne0, bI_zz, nI_le_, nI_lt_, nI_eq_, nI_lt0, nI_ge0, nI_gt0, nI_le0, nI_eq0, m1_lt0, m1_ge0, if_true, if_false, not_true, not_false_eq_true, Classical.not_not, true_or, or_true, false_or, n1_1, k10, Bool.true_eq_false, Bool.false_eq_true, Nat.le_refl, and_self, and_false, false_and, or_self, or_false, hf_lt, ce_lt, hf_cl, ce_cl, i_irr, i_rfl, wp_al0 (y := zX5_pieces) dX5_pieces_56, wp_getf (y := zX5_pieces) kF5_26 dX5_pieces_57, wp_getf (y := zX5_pieces) kF5_220 dX5_pieces_60, wp_ireti (y := zX5_pieces) rfl dX5_pieces_63, X.oc, X.g0, X.g1, X.g2, W.g5, q5]
    exact RT_mk R2 hI_
  · rw [if_neg w0]
    by_cases w1 : what = nI 1
    · subst w1
      rw [if_pos rfl, wp_ls (y := zX5_pieces) 64 dX5_pieces_31 (by decide) rfl (by decide)]
      simp (disch := first | omega | assumption) only [mm_op_some, true_and, and_true, mm_rc_some, mm_rc_none, nI_xor, tw_xor, pk_mul, nI_add, mm_in_t, nI_clamp, ok0, ok1, ok2, ok3, ok4, n1_0, n0_0, n0_zz, n1_zz, bI_eq0, bI_ne0, bI_zz, nI_le_, nI_lt_, nI_eq_, nI_lt0, nI_ge0, nI_gt0, nI_le0, nI_eq0, m1_lt0, m1_ge0, if_true, if_false, not_true, not_false_eq_true, Classical.not_not, true_or, or_true, false_or, n1_1, k10, Bool.true_eq_false, Bool.false_eq_true, Nat.le_refl, and_self, and_false, false_and, or_self, or_false, hf_lt, ce_lt, hf_cl, ce_cl, i_irr, i_rfl, wp_al0 (y := zX5_pieces) dX5_pieces_64, wp_getf (y := zX5_pieces) kF5_26 dX5_pieces_65, wp_getf (y := zX5_pieces) kF5_223 dX5_pieces_68, wp_ireti (y := zX5_pieces) rfl dX5_pieces_71, X.oc, X.g0, X.g1, X.g2, W.g6, q6]
      exact RT_mk R2 hI_
    · rw [if_neg w1]
      rw [wp_ls (y := zX5_pieces) 72 dX5_pieces_31 (by decide) (ls2 _ _ _ w0 w1) (by decide)]
      simp (disch := first | omega | assumption) only [mm_op_some, true_and, and_true, mm_rc_some, mm_rc_none, nI_xor, tw_xor, pk_mul, nI_add, mm_in_t, nI_clamp, ok0, ok1, ok2, ok3, ok4, n1_0, n0_0, n0_zz, n1_zz, bI_eq0, bI_ne0, bI_zz, nI_le_, nI_lt_, nI_eq_, nI_lt0, nI_ge0, nI_gt0, nI_le0, nI_eq0, m1_lt0, m1_ge0, if_true, if_false, not_true, not_false_eq_true, Classical.not_not, true_or, or_true, false_or, n1_1, k10, Bool.true_eq_false, Bool.false_eq_true, Nat.le_refl, and_self, and_false, false_and, or_self, or_false, hf_lt, ce_lt, hf_cl, ce_cl, i_irr, i_rfl, wp_al0 (y := zX5_pieces) dX5_pieces_72, wp_getf (y := zX5_pieces) kF5_26 dX5_pieces_73, wp_getf (y := zX5_pieces) kF5_226 dX5_pieces_76, wp_ireti (y := zX5_pieces) rfl dX5_pieces_79, X.oc, X.g0, X.g1, X.g2, W.g7, q7]
      exact RT_mk R2 hI_
def a_all (s : Fo) (what : Int32) : Int32 := if what = nI 0 then stn s.1 else if what = nI 1 then sC s.1 (tn s.1) else if what = nI 2 then sC s.1 (ar s.1) else if what = nI 3 then it (fun i a => if 0 < sd s.1 (cI i) then imax a (ar s.1 (cI i)) else a) 48 0 (-2147483648) else if what = nI 4 then it (fun i a => if 0 < sd s.1 (cI i) then imin a (ar s.1 (cI i)) else a) 48 0 2147483647 else if what = nI 5 then sW s.1 (ln s.1) else if what = nI 6 then (if (es s.1).1 < 0 then nI 1 else nI 0) else if what = nI 7 then it (fun i a => if lv s.1 (wI i) = true then (if can s.1 (wI i) = true then a + nI 1 else a) else a) 144 0 (nI 0) else if what = nI 8 then it (fun i a => imax a (nI (sd s.1 (cI i)))) 48 0 (nI 0) else if what = nI 9 then it (fun i a => if 0 < sd s.1 (cI i) then imin a (nI (sd s.1 (cI i))) else a) 48 0 (nI 288) else -2147483648
theorem x_all (X : XSh sh x f p q) (G : GoodX I) (R : RepF s μ f) (hI_ : I s.1) (what : Int32) : cl sh zX5_all [.ref x, .int what] μ (RT I f (a_all s what, s)) := by
  obtain ⟨F, P, W, d1, d2⟩ := X.2
  have S := F.2.1
  have Soc := S.oc
  obtain ⟨B, L⟩ := G.1.1 _ hI_
  obtain ⟨H, O⟩ := G.2.2.1 _ hI_
  show wp sh zX5_all 0 [.ref x, .int what, .null] [] μ _
  unfold a_all
  have pre : ∀ QQ, wp sh zX5_all 0 [.ref x, .int what, .null] [] μ QQ = wp sh zX5_all 9 [.ref x, .int what, .ref (f + 1)] [.int what] μ QQ := by
    intro QQ
    simp (disch := first | omega | assumption) only [mm_op_some, wp_al0 (y := zX5_all) dX5_all_0, wp_getf (y := zX5_all) kF5_10 dX5_all_1, wp_getf (y := zX5_all) kF5_46 dX5_all_4, wp_as2 (y := zX5_all) dX5_all_7, wp_il1 (y := zX5_all) dX5_all_8, X.oc, X.g0, X.g1, X.g2, F.oc, F.g0, F.g1, F.g2, F.g3, F.g4, F.g5, F.g6, F.g7, F.g8, F.g9, F.g10]
  rw [pre]
  by_cases w0 : what = nI 0
  · subst w0
    rw [if_pos rfl, wp_tsIn (y := zX5_all) 64 dX5_all_9 (by decide) rfl (by decide)]
    have E1 := fun Q' => c_strain S R.1 B (Q := Q')
    simp (disch := first | omega | assumption) only [mm_op_some, true_and, and_true, mm_rc_some, ok0, ok1, ok2, Soc, wp_al2 (y := zX5_all) dX5_all_64, wp_cv0 (y := zX5_all) kM5_229 (by decide) dX5_all_65, (show yo zX2_strain = 2 from rfl), wp_ireti (y := zX5_all) rfl dX5_all_68, E1]
    exact RT_mk R hI_
  · rw [if_neg w0]
    by_cases w1 : what = nI 1
    · subst w1
      rw [if_pos rfl, wp_tsIn (y := zX5_all) 69 dX5_all_9 (by decide) rfl (by decide)]
      have E1 := fun Q' => c_turns S R.1 B (Q := Q')
      simp (disch := first | omega | assumption) only [mm_op_some, true_and, and_true, mm_rc_some, ok0, ok1, ok2, Soc, wp_al2 (y := zX5_all) dX5_all_69, wp_cv0 (y := zX5_all) kM5_232 (by decide) dX5_all_70, (show yo zX2_turns = 2 from rfl), wp_ireti (y := zX5_all) rfl dX5_all_73, E1]
      exact RT_mk R hI_
    · rw [if_neg w1]
      by_cases w2 : what = nI 2
      · subst w2
        rw [if_pos rfl, wp_tsIn (y := zX5_all) 74 dX5_all_9 (by decide) rfl (by decide)]
        have E1 := fun Q' => c_sumOfAreas S R.1 B (Q := Q')
        simp (disch := first | omega | assumption) only [mm_op_some, true_and, and_true, mm_rc_some, ok0, ok1, ok2, Soc, wp_al2 (y := zX5_all) dX5_all_74, wp_cv0 (y := zX5_all) kM5_235 (by decide) dX5_all_75, (show yo zX2_sumOfAreas = 2 from rfl), wp_ireti (y := zX5_all) rfl dX5_all_78, E1]
        exact RT_mk R hI_
      · rw [if_neg w2]
        by_cases w3 : what = nI 3
        · subst w3
          rw [if_pos rfl, wp_tsIn (y := zX5_all) 79 dX5_all_9 (by decide) rfl (by decide)]
          have E1 := fun Q' => c_greatestArea S R.1 B (Q := Q')
          simp (disch := first | omega | assumption) only [mm_op_some, true_and, and_true, mm_rc_some, ok0, ok1, ok2, Soc, wp_al2 (y := zX5_all) dX5_all_79, wp_cv0 (y := zX5_all) kM5_238 (by decide) dX5_all_80, (show yo zX2_greatestArea = 2 from rfl), wp_ireti (y := zX5_all) rfl dX5_all_83, E1]
          exact RT_mk R hI_
        · rw [if_neg w3]
          by_cases w4 : what = nI 4
          · subst w4
            rw [if_pos rfl, wp_tsIn (y := zX5_all) 84 dX5_all_9 (by decide) rfl (by decide)]
            have E1 := fun Q' => c_leastArea S R.1 B (Q := Q')
            simp (disch := first | omega | assumption) only [mm_op_some, true_and, and_true, mm_rc_some, ok0, ok1, ok2, Soc, wp_al2 (y := zX5_all) dX5_all_84, wp_cv0 (y := zX5_all) kM5_241 (by decide) dX5_all_85, (show yo zX2_leastArea = 2 from rfl), wp_ireti (y := zX5_all) rfl dX5_all_88, E1]
            exact RT_mk R hI_
          · rw [if_neg w4]
            by_cases w5 : what = nI 5
            · subst w5
              rw [if_pos rfl, wp_tsIn (y := zX5_all) 89 dX5_all_9 (by decide) rfl (by decide)]
              have E1 := fun Q' => c_sumOfLengths S R.1 (Q := Q')
              simp (disch := first | omega | assumption) only [mm_op_some, true_and, and_true, mm_rc_some, ok0, ok1, ok2, Soc, wp_al2 (y := zX5_all) dX5_all_89, wp_cv0 (y := zX5_all) kM5_244 (by decide) dX5_all_90, (show yo zX2_sumOfLengths = 2 from rfl), wp_ireti (y := zX5_all) rfl dX5_all_93, E1]
              exact RT_mk R hI_
            · rw [if_neg w5]
              by_cases w6 : what = nI 6
              · subst w6
                rw [if_pos rfl, wp_tsIn (y := zX5_all) 94 dX5_all_9 (by decide) rfl (by decide)]
                have E1 := fun Q' => c_easiestWall S R.1 B L (Q := Q')
                by_cases h : (es s.1).1 < 0
                · have h' : (0 ≤ (es s.1).1) = False := i_nle h
                  rw [if_pos h]
                  simp (disch := first | omega | assumption) only [mm_op_some, true_and, and_true, mm_rc_some, ok0, ok1, ok2, Soc, wp_al2 (y := zX5_all) dX5_all_94, wp_cv0 (y := zX5_all) kM5_247 (by decide) dX5_all_95, (show yo zX2_easiestWall = 2 from rfl), wp_if_ge (y := zX5_all) 105 (by decide) dX5_all_98, wp_iconst (y := zX5_all) (nI 1) ki_1 dX5_all_101, wp_goto (y := zX5_all) 106 (by decide) dX5_all_102, wp_iconst (y := zX5_all) (nI 0) ki_0 dX5_all_105, wp_ireti (y := zX5_all) rfl dX5_all_106, E1, h', if_false]
                  exact RT_mk R hI_
                · have h' : (0 ≤ (es s.1).1) = True := i_le h
                  rw [if_neg h]
                  simp (disch := first | omega | assumption) only [mm_op_some, true_and, and_true, mm_rc_some, ok0, ok1, ok2, Soc, wp_al2 (y := zX5_all) dX5_all_94, wp_cv0 (y := zX5_all) kM5_247 (by decide) dX5_all_95, (show yo zX2_easiestWall = 2 from rfl), wp_if_ge (y := zX5_all) 105 (by decide) dX5_all_98, wp_iconst (y := zX5_all) (nI 1) ki_1 dX5_all_101, wp_goto (y := zX5_all) 106 (by decide) dX5_all_102, wp_iconst (y := zX5_all) (nI 0) ki_0 dX5_all_105, wp_ireti (y := zX5_all) rfl dX5_all_106, E1, h', if_true]
                  exact RT_mk R hI_
              · rw [if_neg w6]
                by_cases w7 : what = nI 7
                · subst w7
                  rw [if_pos rfl, wp_tsIn (y := zX5_all) 107 dX5_all_9 (by decide) rfl (by decide)]
                  have E1 := fun Q' => c_flippable S R.1 B L (Q := Q')
                  simp (disch := first | omega | assumption) only [mm_op_some, true_and, and_true, mm_rc_some, ok0, ok1, ok2, Soc, wp_al2 (y := zX5_all) dX5_all_107, wp_cv0 (y := zX5_all) kM5_250 (by decide) dX5_all_108, (show yo zX2_flippable = 2 from rfl), wp_ireti (y := zX5_all) rfl dX5_all_111, E1]
                  exact RT_mk R hI_
                · rw [if_neg w7]
                  by_cases w8 : what = nI 8
                  · subst w8
                    rw [if_pos rfl, wp_tsIn (y := zX5_all) 112 dX5_all_9 (by decide) rfl (by decide)]
                    have E1 := fun Q' => c_mostSides S R.1 B (Q := Q')
                    simp (disch := first | omega | assumption) only [mm_op_some, true_and, and_true, mm_rc_some, ok0, ok1, ok2, Soc, wp_al2 (y := zX5_all) dX5_all_112, wp_cv0 (y := zX5_all) kM5_253 (by decide) dX5_all_113, (show yo zX2_mostSides = 2 from rfl), wp_ireti (y := zX5_all) rfl dX5_all_116, E1]
                    exact RT_mk R hI_
                  · rw [if_neg w8]
                    by_cases w9 : what = nI 9
                    · subst w9
                      rw [if_pos rfl, wp_tsIn (y := zX5_all) 117 dX5_all_9 (by decide) rfl (by decide)]
                      have E1 := fun Q' => c_fewestSides S R.1 B (Q := Q')
                      simp (disch := first | omega | assumption) only [mm_op_some, true_and, and_true, mm_rc_some, ok0, ok1, ok2, Soc, wp_al2 (y := zX5_all) dX5_all_117, wp_cv0 (y := zX5_all) kM5_256 (by decide) dX5_all_118, (show yo zX2_fewestSides = 2 from rfl), wp_ireti (y := zX5_all) rfl dX5_all_121, E1]
                      exact RT_mk R hI_
                    · rw [if_neg w9]
                      rw [wp_tsOut (y := zX5_all) 122 dX5_all_9 (by decide) (by
                          have a0 := int_ne w0
                          rw [show (nI 0).toInt = 0 from rfl] at a0
                          have a1 := int_ne w1
                          rw [show (nI 1).toInt = 1 from rfl] at a1
                          have a2 := int_ne w2
                          rw [show (nI 2).toInt = 2 from rfl] at a2
                          have a3 := int_ne w3
                          rw [show (nI 3).toInt = 3 from rfl] at a3
                          have a4 := int_ne w4
                          rw [show (nI 4).toInt = 4 from rfl] at a4
                          have a5 := int_ne w5
                          rw [show (nI 5).toInt = 5 from rfl] at a5
                          have a6 := int_ne w6
                          rw [show (nI 6).toInt = 6 from rfl] at a6
                          have a7 := int_ne w7
                          rw [show (nI 7).toInt = 7 from rfl] at a7
                          have a8 := int_ne w8
                          rw [show (nI 8).toInt = 8 from rfl] at a8
                          have a9 := int_ne w9
                          rw [show (nI 9).toInt = 9 from rfl] at a9
                          omega)]
                      simp (disch := first | omega | assumption) only [wp_ldc (y := zX5_all) kC5_141 dX5_all_122, wp_ireti (y := zX5_all) rfl dX5_all_124]
                      exact RT_mk R hI_
def a_easiest (s : Fo) : Int32 := (es s.1).1
theorem x_easiest (X : XSh sh x f p q) (G : GoodX I) (R : RepF s μ f) (hI_ : I s.1) : cl sh zX5_easiest [.ref x] μ (RT I f (a_easiest s, s)) := by
  obtain ⟨F, P, W, d1, d2⟩ := X.2
  have S := F.2.1
  have Soc := S.oc
  obtain ⟨B, L⟩ := G.1.1 _ hI_
  obtain ⟨H, O⟩ := G.2.2.1 _ hI_
  show wp sh zX5_easiest 0 [.ref x] [] μ _
  have E1 := fun Q' => c_easiestWall S R.1 B L (Q := Q')
  simp (disch := first | omega | assumption) only [mm_op_some, true_and, and_true, mm_rc_some, ok0, ok1, ok2, Soc, wp_al0 (y := zX5_easiest) dX5_easiest_0, wp_getf (y := zX5_easiest) kF5_10 dX5_easiest_1, wp_getf (y := zX5_easiest) kF5_46 dX5_easiest_4, wp_cv0 (y := zX5_easiest) kM5_247 (by decide) dX5_easiest_7, (show yo zX2_easiestWall = 2 from rfl), wp_ireti (y := zX5_easiest) rfl dX5_easiest_10, X.oc, X.g0, X.g1, X.g2, F.oc, F.g0, F.g1, F.g2, F.g3, F.g4, F.g5, F.g6, F.g7, F.g8, F.g9, F.g10, E1]
  exact RT_mk R hI_
def a_lowest (s : Fo) (n : Int32) : Int32 := if n < 0 ∨ nI 2 < n then -1 else lsF s.1 n
theorem x_lowest (X : XSh sh x f p q) (G : GoodX I) (R : RepF s μ f) (hI_ : I s.1) (n : Int32) : cl sh zX5_lowest [.ref x, .int n] μ (RT I f (a_lowest s n, s)) := by
  obtain ⟨F, P, W, d1, d2⟩ := X.2
  have S := F.2.1
  have Soc := S.oc
  obtain ⟨B, L⟩ := G.1.1 _ hI_
  obtain ⟨H, O⟩ := G.2.2.1 _ hI_
  show wp sh zX5_lowest 0 [.ref x, .int n] [] μ _
  unfold a_lowest
  by_cases h1 : n < 0
  · rw [if_pos (Or.inl h1)]
    simp (disch := first | omega | assumption) only [wp_il1 (y := zX5_lowest) dX5_lowest_0, wp_if_lt (y := zX5_lowest) 9 (by decide) dX5_lowest_1, wp_iconst (y := zX5_lowest) ((-1)) ki_m1 dX5_lowest_9, wp_goto (y := zX5_lowest) 25 (by decide) dX5_lowest_10, wp_ireti (y := zX5_lowest) rfl dX5_lowest_25, h1, if_true]
    exact RT_mk R hI_
  by_cases h2 : nI 2 < n
  · rw [if_pos (Or.inr h2)]
    have h2' : (n ≤ nI 2) = False := i_nle h2
    simp (disch := first | omega | assumption) only [wp_il1 (y := zX5_lowest) dX5_lowest_0, wp_if_lt (y := zX5_lowest) 9 (by decide) dX5_lowest_1, wp_il1 (y := zX5_lowest) dX5_lowest_4, wp_iconst (y := zX5_lowest) (nI 2) ki_2 dX5_lowest_5, wp_icmp_le (y := zX5_lowest) 13 (by decide) dX5_lowest_6, wp_iconst (y := zX5_lowest) ((-1)) ki_m1 dX5_lowest_9, wp_goto (y := zX5_lowest) 25 (by decide) dX5_lowest_10, wp_ireti (y := zX5_lowest) rfl dX5_lowest_25, h1, h2', if_true, if_false]
    exact RT_mk R hI_
  rw [if_neg (fun t => t.elim h1 h2)]
  have h2' : (n ≤ nI 2) = True := i_le h2
  simp (disch := first | omega | assumption) only [mm_op_some, true_and, and_true, mm_rc_some, ok0, ok1, ok2, ok3, P.oc, wp_il1 (y := zX5_lowest) dX5_lowest_0, wp_if_lt (y := zX5_lowest) 9 (by decide) dX5_lowest_1, wp_il1 (y := zX5_lowest) dX5_lowest_4, wp_iconst (y := zX5_lowest) (nI 2) ki_2 dX5_lowest_5, wp_icmp_le (y := zX5_lowest) 13 (by decide) dX5_lowest_6, wp_al0 (y := zX5_lowest) dX5_lowest_13, wp_getf (y := zX5_lowest) kF5_19 dX5_lowest_14, wp_al0 (y := zX5_lowest) dX5_lowest_17, wp_getf (y := zX5_lowest) kF5_10 dX5_lowest_18, wp_il1 (y := zX5_lowest) dX5_lowest_21, wp_cv_ri (y := zX5_lowest) kM5_259 (by decide) dX5_lowest_22, (show yo zX3_leastStrain = 3 from rfl), h1, h2', if_true, if_false, X.oc, X.g0, X.g1, X.g2]
  refine cl_mono (c_leastStrain P F G.1 G.2.1 R hI_ d1 n) ?_
  rintro r μ1 ⟨rfl, F1⟩
  simp (disch := first | omega | assumption) only [mm_rc_some, wp_ireti (y := zX5_lowest) rfl dX5_lowest_25]
  exact RT_mk (R.frP F1 d1) hI_
end X5F
