section X5B
variable {sh : mm_Sh} {x f p q b : Nat} {μ : mm_U} {M : Ms} {s : Fo} {I : Ms → Prop} {Q : Option Value → mm_U → Prop}
def a_swap (s : Fo) (c : Int32) : Int32 × Fo := match waO s.1 c with
  | none => (-2, fRf s 1)
  | some w => if can s.1 w = true then (nI 1000 + ease s.1 w, fEv s (flM s.1 w) 0 7 (nI w.val)) else (-3, fRf s 2)
theorem x_swap (X : XSh sh x f p q) (G : GoodX I) (R : RepF s μ f) (hI_ : I s.1) (c : Int32) : cl sh zX5_swap [.ref x, .int c] μ (RT I f (a_swap s c)) := by
  obtain ⟨F, P, W, d1, d2⟩ := X.2
  have S := F.2.1
  have Soc := S.oc
  obtain ⟨B, L⟩ := G.1.1 _ hI_
  show wp sh zX5_swap 0 [.ref x, .int c, .null] [] μ _
  unfold a_swap
  cases e : waO s.1 c with
  | none =>
    have E1 : ∀ Q', cl sh zX2_hasWall [.ref (f + 1), .int c] μ Q' = Q' (some (.int (nI 0))) μ := fun Q' => c_hasWallN S R.1 e
    simp (disch := first | omega | assumption) only [mm_op_some, true_and, and_true, mm_rc_some, mm_rc_none, nI_xor, tw_xor, pk_mul, nI_add, mm_in_t, nI_clamp, ok0, ok1, ok2, ok3, ok4, n1_0, n0_0, n0_zz, n1_zz, bI_eq0, bI_ne0, bI_zz, nI_le_, nI_lt_, nI_eq_, nI_lt0, nI_ge0, nI_gt0, nI_le0, nI_eq0, m1_lt0, m1_ge0, if_true, if_false, not_true, not_false_eq_true, Classical.not_not, true_or, or_true, false_or, n1_1, k10, Bool.true_eq_false, Bool.false_eq_true, Nat.le_refl, and_self, and_false, false_and, or_self, or_false, hf_lt, ce_lt, hf_cl, ce_cl, i_irr, i_rfl, wp_al0 (y := zX5_swap) dX5_swap_0, wp_getf (y := zX5_swap) kF5_10 dX5_swap_1, wp_getf (y := zX5_swap) kF5_46 dX5_swap_4, wp_il1 (y := zX5_swap) dX5_swap_7, wp_cv1 (y := zX5_swap) kM5_60 (by decide) dX5_swap_8, (show yo zX2_hasWall = 2 from rfl), wp_if_ne (y := zX5_swap) 24 (by decide) dX5_swap_11, wp_al0 (y := zX5_swap) dX5_swap_14, wp_getf (y := zX5_swap) kF5_10 dX5_swap_15, wp_bipush (y := zX5_swap) ((-2)) kb_m2 dX5_swap_18, wp_cv1 (y := zX5_swap) kM5_38 (by decide) dX5_swap_20, (show yo zX1_refuse = 1 from rfl), X.oc, X.g0, X.g1, X.g2, F.oc, F.g0, F.g1, F.g2, F.g3, F.g4, F.g5, F.g6, F.g7, F.g8, F.g9, F.g10, Soc, E1]
    refine cl_mono (c_ref2 F R) ?_
    rintro r μ1 ⟨rfl, R1⟩
    simp (disch := first | omega | assumption) only [mm_op_some, true_and, and_true, mm_rc_some, mm_rc_none, nI_xor, tw_xor, pk_mul, nI_add, mm_in_t, nI_clamp, ok0, ok1, ok2, ok3, ok4, n1_0, n0_0, n0_zz, n1_zz, bI_eq0, bI_ne0, bI_zz, nI_le_, nI_lt_, nI_eq_, nI_lt0, nI_ge0, nI_gt0, nI_le0, nI_eq0, m1_lt0, m1_ge0, if_true, if_false, not_true, not_false_eq_true, Classical.not_not, true_or, or_true, false_or, n1_1, k10, Bool.true_eq_false, Bool.false_eq_true, Nat.le_refl, and_self, and_false, false_and, or_self, or_false, hf_lt, ce_lt, hf_cl, ce_cl, i_irr, i_rfl, wp_ireti (y := zX5_swap) rfl dX5_swap_23]
    exact ⟨rfl, R1, hI_⟩
  | some k =>
    obtain ⟨rfl, hc⟩ := waO_some e
    have E1 : ∀ Q', cl sh zX2_hasWall [.ref (f + 1), .int (nI k.val)] μ Q' = Q' (some (.int (nI 1))) μ := fun Q' => c_hasWallS S R.1 hc
    have E2 : ∀ Q', cl sh zX2_canFlip [.ref (f + 1), .int (nI k.val)] μ Q' = Q' (some (.int (bI (can s.1 k)))) μ := fun Q' => c_canFlip S R.1 B L k hc
    have E3 : ∀ Q', cl sh zX2_easing [.ref (f + 1), .int (nI k.val)] μ Q' = Q' (some (.int (ease s.1 k))) μ := fun Q' => c_easing S R.1 L k hc
    dsimp only
    by_cases h1 : can s.1 k = true
    · obtain ⟨fo_, Ix⟩ := G.1.2.1 _ k hI_ hc h1
      rw [if_pos h1]
      simp (disch := first | omega | assumption) only [mm_op_some, true_and, and_true, mm_rc_some, mm_rc_none, nI_xor, tw_xor, pk_mul, nI_add, mm_in_t, nI_clamp, ok0, ok1, ok2, ok3, ok4, n1_0, n0_0, n0_zz, n1_zz, bI_eq0, bI_ne0, bI_zz, nI_le_, nI_lt_, nI_eq_, nI_lt0, nI_ge0, nI_gt0, nI_le0, nI_eq0, m1_lt0, m1_ge0, if_true, if_false, not_true, not_false_eq_true, Classical.not_not, true_or, or_true, false_or, n1_1, k10, Bool.true_eq_false, Bool.false_eq_true, Nat.le_refl, and_self, and_false, false_and, or_self, or_false, hf_lt, ce_lt, hf_cl, ce_cl, i_irr, i_rfl, wp_al0 (y := zX5_swap) dX5_swap_0, wp_getf (y := zX5_swap) kF5_10 dX5_swap_1, wp_getf (y := zX5_swap) kF5_46 dX5_swap_4, wp_il1 (y := zX5_swap) dX5_swap_7, wp_cv1 (y := zX5_swap) kM5_60 (by decide) dX5_swap_8, (show yo zX2_hasWall = 2 from rfl), wp_if_ne (y := zX5_swap) 24 (by decide) dX5_swap_11, wp_al0 (y := zX5_swap) dX5_swap_24, wp_getf (y := zX5_swap) kF5_10 dX5_swap_25, wp_getf (y := zX5_swap) kF5_46 dX5_swap_28, wp_il1 (y := zX5_swap) dX5_swap_31, wp_cv1 (y := zX5_swap) kM5_66 (by decide) dX5_swap_32, (show yo zX2_canFlip = 2 from rfl), wp_if_ne (y := zX5_swap) 48 (by decide) dX5_swap_35, wp_al0 (y := zX5_swap) dX5_swap_38, wp_getf (y := zX5_swap) kF5_10 dX5_swap_39, wp_bipush (y := zX5_swap) ((-3)) kb_m3 dX5_swap_42, wp_cv1 (y := zX5_swap) kM5_38 (by decide) dX5_swap_44, (show yo zX1_refuse = 1 from rfl), wp_ireti (y := zX5_swap) rfl dX5_swap_47, wp_al0 (y := zX5_swap) dX5_swap_48, wp_getf (y := zX5_swap) kF5_10 dX5_swap_49, wp_getf (y := zX5_swap) kF5_46 dX5_swap_52, wp_il1 (y := zX5_swap) dX5_swap_55, wp_cv1 (y := zX5_swap) kM5_69 (by decide) dX5_swap_56, (show yo zX2_easing = 2 from rfl), wp_is2 (y := zX5_swap) dX5_swap_59, wp_al0 (y := zX5_swap) dX5_swap_60, wp_getf (y := zX5_swap) kF5_10 dX5_swap_61, wp_il1 (y := zX5_swap) dX5_swap_64, wp_cv1 (y := zX5_swap) kM5_72 (by decide) dX5_swap_65, (show yo zX1_flipWall = 1 from rfl), X.oc, X.g0, X.g1, X.g2, F.oc, F.g0, F.g1, F.g2, F.g3, F.g4, F.g5, F.g6, F.g7, F.g8, F.g9, F.g10, Soc, E1, E2, E3, h1]
      refine cl_mono (c_flipWall F R B k fo_) ?_
      rintro r μ1 ⟨rfl, R1, _⟩
      simp (disch := first | omega | assumption) only [mm_op_some, true_and, and_true, mm_rc_some, mm_rc_none, nI_xor, tw_xor, pk_mul, nI_add, mm_in_t, nI_clamp, ok0, ok1, ok2, ok3, ok4, n1_0, n0_0, n0_zz, n1_zz, bI_eq0, bI_ne0, bI_zz, nI_le_, nI_lt_, nI_eq_, nI_lt0, nI_ge0, nI_gt0, nI_le0, nI_eq0, m1_lt0, m1_ge0, if_true, if_false, not_true, not_false_eq_true, Classical.not_not, true_or, or_true, false_or, n1_1, k10, Bool.true_eq_false, Bool.false_eq_true, Nat.le_refl, and_self, and_false, false_and, or_self, or_false, hf_lt, ce_lt, hf_cl, ce_cl, i_irr, i_rfl, wp_sipush (y := zX5_swap) (nI 1000) ks_1000 dX5_swap_68, wp_il2 (y := zX5_swap) dX5_swap_71, wp_iadd (y := zX5_swap) dX5_swap_72, wp_ireti (y := zX5_swap) rfl dX5_swap_73]
      exact ⟨rfl, R1, Ix⟩
    · have h2 : can s.1 k = false := Bool.eq_false_iff.mpr h1
      rw [if_neg h1]
      simp (disch := first | omega | assumption) only [mm_op_some, true_and, and_true, mm_rc_some, mm_rc_none, nI_xor, tw_xor, pk_mul, nI_add, mm_in_t, nI_clamp, ok0, ok1, ok2, ok3, ok4, n1_0, n0_0, n0_zz, n1_zz, bI_eq0, bI_ne0, bI_zz, nI_le_, nI_lt_, nI_eq_, nI_lt0, nI_ge0, nI_gt0, nI_le0, nI_eq0, m1_lt0, m1_ge0, if_true, if_false, not_true, not_false_eq_true, Classical.not_not, true_or, or_true, false_or, n1_1, k10, Bool.true_eq_false, Bool.false_eq_true, Nat.le_refl, and_self, and_false, false_and, or_self, or_false, hf_lt, ce_lt, hf_cl, ce_cl, i_irr, i_rfl, wp_al0 (y := zX5_swap) dX5_swap_0, wp_getf (y := zX5_swap) kF5_10 dX5_swap_1, wp_getf (y := zX5_swap) kF5_46 dX5_swap_4, wp_il1 (y := zX5_swap) dX5_swap_7, wp_cv1 (y := zX5_swap) kM5_60 (by decide) dX5_swap_8, (show yo zX2_hasWall = 2 from rfl), wp_if_ne (y := zX5_swap) 24 (by decide) dX5_swap_11, wp_al0 (y := zX5_swap) dX5_swap_24, wp_getf (y := zX5_swap) kF5_10 dX5_swap_25, wp_getf (y := zX5_swap) kF5_46 dX5_swap_28, wp_il1 (y := zX5_swap) dX5_swap_31, wp_cv1 (y := zX5_swap) kM5_66 (by decide) dX5_swap_32, (show yo zX2_canFlip = 2 from rfl), wp_if_ne (y := zX5_swap) 48 (by decide) dX5_swap_35, wp_al0 (y := zX5_swap) dX5_swap_38, wp_getf (y := zX5_swap) kF5_10 dX5_swap_39, wp_bipush (y := zX5_swap) ((-3)) kb_m3 dX5_swap_42, wp_cv1 (y := zX5_swap) kM5_38 (by decide) dX5_swap_44, (show yo zX1_refuse = 1 from rfl), X.oc, X.g0, X.g1, X.g2, F.oc, F.g0, F.g1, F.g2, F.g3, F.g4, F.g5, F.g6, F.g7, F.g8, F.g9, F.g10, Soc, E1, E2, h2]
      refine cl_mono (c_ref3 F R) ?_
      rintro r μ1 ⟨rfl, R1⟩
      simp (disch := first | omega | assumption) only [mm_op_some, true_and, and_true, mm_rc_some, mm_rc_none, nI_xor, tw_xor, pk_mul, nI_add, mm_in_t, nI_clamp, ok0, ok1, ok2, ok3, ok4, n1_0, n0_0, n0_zz, n1_zz, bI_eq0, bI_ne0, bI_zz, nI_le_, nI_lt_, nI_eq_, nI_lt0, nI_ge0, nI_gt0, nI_le0, nI_eq0, m1_lt0, m1_ge0, if_true, if_false, not_true, not_false_eq_true, Classical.not_not, true_or, or_true, false_or, n1_1, k10, Bool.true_eq_false, Bool.false_eq_true, Nat.le_refl, and_self, and_false, false_and, or_self, or_false, hf_lt, ce_lt, hf_cl, ce_cl, i_irr, i_rfl, wp_ireti (y := zX5_swap) rfl dX5_swap_47]
      exact ⟨rfl, R1, hI_⟩
def a_vanish (s : Fo) (c : Int32) : Int32 × Fo := match ceO s.1 c with
  | none => (-2, fRf s 1)
  | some k => if canS s.1 k (hI ((fH s.1 k).getD 0)) = true then (nI (vaH s.1 (vu s.1 k).1 (vu s.1 k).2.1 (vu s.1 k).2.2).val, fEv s (vaC s.1 k) 1 8 (nI k.val)) else (-3, fRf s 2)
theorem x_vanish (X : XSh sh x f p q) (G : GoodX I) (R : RepF s μ f) (hI_ : I s.1) (c : Int32) : cl sh zX5_vanish [.ref x, .int c] μ (RT I f (a_vanish s c)) := by
  obtain ⟨F, P, W, d1, d2⟩ := X.2
  have S := F.2.1
  have Soc := S.oc
  obtain ⟨B, L⟩ := G.1.1 _ hI_
  show wp sh zX5_vanish 0 [.ref x, .int c] [] μ _
  unfold a_vanish
  cases e : ceO s.1 c with
  | none =>
    have E1 : ∀ Q', cl sh zX2_hasCell [.ref (f + 1), .int c] μ Q' = Q' (some (.int (nI 0))) μ := fun Q' => c_hasCellN S R.1 e
    simp (disch := first | omega | assumption) only [mm_op_some, true_and, and_true, mm_rc_some, mm_rc_none, nI_xor, tw_xor, pk_mul, nI_add, mm_in_t, nI_clamp, ok0, ok1, ok2, ok3, ok4, n1_0, n0_0, n0_zz, n1_zz, bI_eq0, bI_ne0, bI_zz, nI_le_, nI_lt_, nI_eq_, nI_lt0, nI_ge0, nI_gt0, nI_le0, nI_eq0, m1_lt0, m1_ge0, if_true, if_false, not_true, not_false_eq_true, Classical.not_not, true_or, or_true, false_or, n1_1, k10, Bool.true_eq_false, Bool.false_eq_true, Nat.le_refl, and_self, and_false, false_and, or_self, or_false, hf_lt, ce_lt, hf_cl, ce_cl, i_irr, i_rfl, wp_al0 (y := zX5_vanish) dX5_vanish_0, wp_getf (y := zX5_vanish) kF5_10 dX5_vanish_1, wp_getf (y := zX5_vanish) kF5_46 dX5_vanish_4, wp_il1 (y := zX5_vanish) dX5_vanish_7, wp_cv1 (y := zX5_vanish) kM5_50 (by decide) dX5_vanish_8, (show yo zX2_hasCell = 2 from rfl), wp_if_ne (y := zX5_vanish) 24 (by decide) dX5_vanish_11, wp_al0 (y := zX5_vanish) dX5_vanish_14, wp_getf (y := zX5_vanish) kF5_10 dX5_vanish_15, wp_bipush (y := zX5_vanish) ((-2)) kb_m2 dX5_vanish_18, wp_cv1 (y := zX5_vanish) kM5_38 (by decide) dX5_vanish_20, (show yo zX1_refuse = 1 from rfl), X.oc, X.g0, X.g1, X.g2, F.oc, F.g0, F.g1, F.g2, F.g3, F.g4, F.g5, F.g6, F.g7, F.g8, F.g9, F.g10, Soc, E1]
    refine cl_mono (c_ref2 F R) ?_
    rintro r μ1 ⟨rfl, R1⟩
    simp (disch := first | omega | assumption) only [mm_op_some, true_and, and_true, mm_rc_some, mm_rc_none, nI_xor, tw_xor, pk_mul, nI_add, mm_in_t, nI_clamp, ok0, ok1, ok2, ok3, ok4, n1_0, n0_0, n0_zz, n1_zz, bI_eq0, bI_ne0, bI_zz, nI_le_, nI_lt_, nI_eq_, nI_lt0, nI_ge0, nI_gt0, nI_le0, nI_eq0, m1_lt0, m1_ge0, if_true, if_false, not_true, not_false_eq_true, Classical.not_not, true_or, or_true, false_or, n1_1, k10, Bool.true_eq_false, Bool.false_eq_true, Nat.le_refl, and_self, and_false, false_and, or_self, or_false, hf_lt, ce_lt, hf_cl, ce_cl, i_irr, i_rfl, wp_ireti (y := zX5_vanish) rfl dX5_vanish_23]
    exact ⟨rfl, R1, hI_⟩
  | some k =>
    obtain ⟨rfl, hc⟩ := ceO_some e
    obtain ⟨h, fh, l1, l2, l3, va⟩ := G.1.2.2.2.2.2.1 _ k hI_ hc
    have E1 : ∀ Q', cl sh zX2_hasCell [.ref (f + 1), .int (nI k.val)] μ Q' = Q' (some (.int (nI 1))) μ := fun Q' => c_hasCellS S R.1 B hc
    have E2 : ∀ Q', cl sh zX2_canShrink [.ref (f + 1), .int (nI k.val)] μ Q' = Q' (some (.int (bI (canS s.1 k h)))) μ := fun Q' => c_canShrink S R.1 B k h fh l1 l2 l3
    dsimp only
    rw [fH_hI fh]
    by_cases h1 : canS s.1 k h = true
    · obtain ⟨fo_, Ix⟩ := va h1
      rw [if_pos h1]
      simp (disch := first | omega | assumption) only [mm_op_some, true_and, and_true, mm_rc_some, mm_rc_none, nI_xor, tw_xor, pk_mul, nI_add, mm_in_t, nI_clamp, ok0, ok1, ok2, ok3, ok4, n1_0, n0_0, n0_zz, n1_zz, bI_eq0, bI_ne0, bI_zz, nI_le_, nI_lt_, nI_eq_, nI_lt0, nI_ge0, nI_gt0, nI_le0, nI_eq0, m1_lt0, m1_ge0, if_true, if_false, not_true, not_false_eq_true, Classical.not_not, true_or, or_true, false_or, n1_1, k10, Bool.true_eq_false, Bool.false_eq_true, Nat.le_refl, and_self, and_false, false_and, or_self, or_false, hf_lt, ce_lt, hf_cl, ce_cl, i_irr, i_rfl, wp_al0 (y := zX5_vanish) dX5_vanish_0, wp_getf (y := zX5_vanish) kF5_10 dX5_vanish_1, wp_getf (y := zX5_vanish) kF5_46 dX5_vanish_4, wp_il1 (y := zX5_vanish) dX5_vanish_7, wp_cv1 (y := zX5_vanish) kM5_50 (by decide) dX5_vanish_8, (show yo zX2_hasCell = 2 from rfl), wp_if_ne (y := zX5_vanish) 24 (by decide) dX5_vanish_11, wp_al0 (y := zX5_vanish) dX5_vanish_24, wp_getf (y := zX5_vanish) kF5_10 dX5_vanish_25, wp_getf (y := zX5_vanish) kF5_46 dX5_vanish_28, wp_il1 (y := zX5_vanish) dX5_vanish_31, wp_cv1 (y := zX5_vanish) kM5_76 (by decide) dX5_vanish_32, (show yo zX2_canShrink = 2 from rfl), wp_if_ne (y := zX5_vanish) 48 (by decide) dX5_vanish_35, wp_al0 (y := zX5_vanish) dX5_vanish_38, wp_getf (y := zX5_vanish) kF5_10 dX5_vanish_39, wp_bipush (y := zX5_vanish) ((-3)) kb_m3 dX5_vanish_42, wp_cv1 (y := zX5_vanish) kM5_38 (by decide) dX5_vanish_44, (show yo zX1_refuse = 1 from rfl), wp_ireti (y := zX5_vanish) rfl dX5_vanish_47, wp_al0 (y := zX5_vanish) dX5_vanish_48, wp_getf (y := zX5_vanish) kF5_10 dX5_vanish_49, wp_il1 (y := zX5_vanish) dX5_vanish_52, wp_cv1 (y := zX5_vanish) kM5_79 (by decide) dX5_vanish_53, (show yo zX1_shrinkCell = 1 from rfl), X.oc, X.g0, X.g1, X.g2, F.oc, F.g0, F.g1, F.g2, F.g3, F.g4, F.g5, F.g6, F.g7, F.g8, F.g9, F.g10, Soc, E1, E2, h1]
      refine cl_mono (c_shrinkCell F R B k _ _ _ fo_) ?_
      rintro r μ1 ⟨rfl, R1, _⟩
      simp (disch := first | omega | assumption) only [mm_op_some, true_and, and_true, mm_rc_some, mm_rc_none, nI_xor, tw_xor, pk_mul, nI_add, mm_in_t, nI_clamp, ok0, ok1, ok2, ok3, ok4, n1_0, n0_0, n0_zz, n1_zz, bI_eq0, bI_ne0, bI_zz, nI_le_, nI_lt_, nI_eq_, nI_lt0, nI_ge0, nI_gt0, nI_le0, nI_eq0, m1_lt0, m1_ge0, if_true, if_false, not_true, not_false_eq_true, Classical.not_not, true_or, or_true, false_or, n1_1, k10, Bool.true_eq_false, Bool.false_eq_true, Nat.le_refl, and_self, and_false, false_and, or_self, or_false, hf_lt, ce_lt, hf_cl, ce_cl, i_irr, i_rfl, wp_ireti (y := zX5_vanish) rfl dX5_vanish_56]
      exact ⟨rfl, R1, Ix⟩
    · have h2 : canS s.1 k h = false := Bool.eq_false_iff.mpr h1
      rw [if_neg h1]
      simp (disch := first | omega | assumption) only [mm_op_some, true_and, and_true, mm_rc_some, mm_rc_none, nI_xor, tw_xor, pk_mul, nI_add, mm_in_t, nI_clamp, ok0, ok1, ok2, ok3, ok4, n1_0, n0_0, n0_zz, n1_zz, bI_eq0, bI_ne0, bI_zz, nI_le_, nI_lt_, nI_eq_, nI_lt0, nI_ge0, nI_gt0, nI_le0, nI_eq0, m1_lt0, m1_ge0, if_true, if_false, not_true, not_false_eq_true, Classical.not_not, true_or, or_true, false_or, n1_1, k10, Bool.true_eq_false, Bool.false_eq_true, Nat.le_refl, and_self, and_false, false_and, or_self, or_false, hf_lt, ce_lt, hf_cl, ce_cl, i_irr, i_rfl, wp_al0 (y := zX5_vanish) dX5_vanish_0, wp_getf (y := zX5_vanish) kF5_10 dX5_vanish_1, wp_getf (y := zX5_vanish) kF5_46 dX5_vanish_4, wp_il1 (y := zX5_vanish) dX5_vanish_7, wp_cv1 (y := zX5_vanish) kM5_50 (by decide) dX5_vanish_8, (show yo zX2_hasCell = 2 from rfl), wp_if_ne (y := zX5_vanish) 24 (by decide) dX5_vanish_11, wp_al0 (y := zX5_vanish) dX5_vanish_24, wp_getf (y := zX5_vanish) kF5_10 dX5_vanish_25, wp_getf (y := zX5_vanish) kF5_46 dX5_vanish_28, wp_il1 (y := zX5_vanish) dX5_vanish_31, wp_cv1 (y := zX5_vanish) kM5_76 (by decide) dX5_vanish_32, (show yo zX2_canShrink = 2 from rfl), wp_if_ne (y := zX5_vanish) 48 (by decide) dX5_vanish_35, wp_al0 (y := zX5_vanish) dX5_vanish_38, wp_getf (y := zX5_vanish) kF5_10 dX5_vanish_39, wp_bipush (y := zX5_vanish) ((-3)) kb_m3 dX5_vanish_42, wp_cv1 (y := zX5_vanish) kM5_38 (by decide) dX5_vanish_44, (show yo zX1_refuse = 1 from rfl), X.oc, X.g0, X.g1, X.g2, F.oc, F.g0, F.g1, F.g2, F.g3, F.g4, F.g5, F.g6, F.g7, F.g8, F.g9, F.g10, Soc, E1, E2, h2]
      refine cl_mono (c_ref3 F R) ?_
      rintro r μ1 ⟨rfl, R1⟩
      simp (disch := first | omega | assumption) only [mm_op_some, true_and, and_true, mm_rc_some, mm_rc_none, nI_xor, tw_xor, pk_mul, nI_add, mm_in_t, nI_clamp, ok0, ok1, ok2, ok3, ok4, n1_0, n0_0, n0_zz, n1_zz, bI_eq0, bI_ne0, bI_zz, nI_le_, nI_lt_, nI_eq_, nI_lt0, nI_ge0, nI_gt0, nI_le0, nI_eq0, m1_lt0, m1_ge0, if_true, if_false, not_true, not_false_eq_true, Classical.not_not, true_or, or_true, false_or, n1_1, k10, Bool.true_eq_false, Bool.false_eq_true, Nat.le_refl, and_self, and_false, false_and, or_self, or_false, hf_lt, ce_lt, hf_cl, ce_cl, i_irr, i_rfl, wp_ireti (y := zX5_vanish) rfl dX5_vanish_47]
      exact ⟨rfl, R1, hI_⟩
def a_burst (s : Fo) (c : Int32) : Int32 × Fo := match waO s.1 c with
  | none => (-2, fRf s 1)
  | some w => if canJ s.1 w = true then (nI (ow s.1 (buA s.1 w)).val, fEv s (joM s.1 w (buA s.1 w)) 3 10 (nI w.val)) else (-3, fRf s 2)
theorem x_burst (X : XSh sh x f p q) (G : GoodX I) (R : RepF s μ f) (hI_ : I s.1) (c : Int32) : cl sh zX5_burst [.ref x, .int c] μ (RT I f (a_burst s c)) := by
  obtain ⟨F, P, W, d1, d2⟩ := X.2
  have S := F.2.1
  have Soc := S.oc
  obtain ⟨B, L⟩ := G.1.1 _ hI_
  show wp sh zX5_burst 0 [.ref x, .int c] [] μ _
  unfold a_burst
  cases e : waO s.1 c with
  | none =>
    have E1 : ∀ Q', cl sh zX2_hasWall [.ref (f + 1), .int c] μ Q' = Q' (some (.int (nI 0))) μ := fun Q' => c_hasWallN S R.1 e
    simp (disch := first | omega | assumption) only [mm_op_some, true_and, and_true, mm_rc_some, mm_rc_none, nI_xor, tw_xor, pk_mul, nI_add, mm_in_t, nI_clamp, ok0, ok1, ok2, ok3, ok4, n1_0, n0_0, n0_zz, n1_zz, bI_eq0, bI_ne0, bI_zz, nI_le_, nI_lt_, nI_eq_, nI_lt0, nI_ge0, nI_gt0, nI_le0, nI_eq0, m1_lt0, m1_ge0, if_true, if_false, not_true, not_false_eq_true, Classical.not_not, true_or, or_true, false_or, n1_1, k10, Bool.true_eq_false, Bool.false_eq_true, Nat.le_refl, and_self, and_false, false_and, or_self, or_false, hf_lt, ce_lt, hf_cl, ce_cl, i_irr, i_rfl, wp_al0 (y := zX5_burst) dX5_burst_0, wp_getf (y := zX5_burst) kF5_10 dX5_burst_1, wp_getf (y := zX5_burst) kF5_46 dX5_burst_4, wp_il1 (y := zX5_burst) dX5_burst_7, wp_cv1 (y := zX5_burst) kM5_60 (by decide) dX5_burst_8, (show yo zX2_hasWall = 2 from rfl), wp_if_ne (y := zX5_burst) 24 (by decide) dX5_burst_11, wp_al0 (y := zX5_burst) dX5_burst_14, wp_getf (y := zX5_burst) kF5_10 dX5_burst_15, wp_bipush (y := zX5_burst) ((-2)) kb_m2 dX5_burst_18, wp_cv1 (y := zX5_burst) kM5_38 (by decide) dX5_burst_20, (show yo zX1_refuse = 1 from rfl), X.oc, X.g0, X.g1, X.g2, F.oc, F.g0, F.g1, F.g2, F.g3, F.g4, F.g5, F.g6, F.g7, F.g8, F.g9, F.g10, Soc, E1]
    refine cl_mono (c_ref2 F R) ?_
    rintro r μ1 ⟨rfl, R1⟩
    simp (disch := first | omega | assumption) only [mm_op_some, true_and, and_true, mm_rc_some, mm_rc_none, nI_xor, tw_xor, pk_mul, nI_add, mm_in_t, nI_clamp, ok0, ok1, ok2, ok3, ok4, n1_0, n0_0, n0_zz, n1_zz, bI_eq0, bI_ne0, bI_zz, nI_le_, nI_lt_, nI_eq_, nI_lt0, nI_ge0, nI_gt0, nI_le0, nI_eq0, m1_lt0, m1_ge0, if_true, if_false, not_true, not_false_eq_true, Classical.not_not, true_or, or_true, false_or, n1_1, k10, Bool.true_eq_false, Bool.false_eq_true, Nat.le_refl, and_self, and_false, false_and, or_self, or_false, hf_lt, ce_lt, hf_cl, ce_cl, i_irr, i_rfl, wp_ireti (y := zX5_burst) rfl dX5_burst_23]
    exact ⟨rfl, R1, hI_⟩
  | some k =>
    obtain ⟨rfl, hc⟩ := waO_some e
    have E1 : ∀ Q', cl sh zX2_hasWall [.ref (f + 1), .int (nI k.val)] μ Q' = Q' (some (.int (nI 1))) μ := fun Q' => c_hasWallS S R.1 hc
    have E2 : ∀ Q', cl sh zX2_canJoin [.ref (f + 1), .int (nI k.val)] μ Q' = Q' (some (.int (bI (canJ s.1 k)))) μ := fun Q' => c_canJoin S R.1 B L k hc
    dsimp only
    by_cases h1 : canJ s.1 k = true
    · obtain ⟨fo_, Ix⟩ := G.2.2.2.1 _ k hI_ hc h1
      rw [if_pos h1]
      simp (disch := first | omega | assumption) only [mm_op_some, true_and, and_true, mm_rc_some, mm_rc_none, nI_xor, tw_xor, pk_mul, nI_add, mm_in_t, nI_clamp, ok0, ok1, ok2, ok3, ok4, n1_0, n0_0, n0_zz, n1_zz, bI_eq0, bI_ne0, bI_zz, nI_le_, nI_lt_, nI_eq_, nI_lt0, nI_ge0, nI_gt0, nI_le0, nI_eq0, m1_lt0, m1_ge0, if_true, if_false, not_true, not_false_eq_true, Classical.not_not, true_or, or_true, false_or, n1_1, k10, Bool.true_eq_false, Bool.false_eq_true, Nat.le_refl, and_self, and_false, false_and, or_self, or_false, hf_lt, ce_lt, hf_cl, ce_cl, i_irr, i_rfl, wp_al0 (y := zX5_burst) dX5_burst_0, wp_getf (y := zX5_burst) kF5_10 dX5_burst_1, wp_getf (y := zX5_burst) kF5_46 dX5_burst_4, wp_il1 (y := zX5_burst) dX5_burst_7, wp_cv1 (y := zX5_burst) kM5_60 (by decide) dX5_burst_8, (show yo zX2_hasWall = 2 from rfl), wp_if_ne (y := zX5_burst) 24 (by decide) dX5_burst_11, wp_al0 (y := zX5_burst) dX5_burst_24, wp_getf (y := zX5_burst) kF5_10 dX5_burst_25, wp_getf (y := zX5_burst) kF5_46 dX5_burst_28, wp_il1 (y := zX5_burst) dX5_burst_31, wp_cv1 (y := zX5_burst) kM5_90 (by decide) dX5_burst_32, (show yo zX2_canJoin = 2 from rfl), wp_if_ne (y := zX5_burst) 48 (by decide) dX5_burst_35, wp_al0 (y := zX5_burst) dX5_burst_38, wp_getf (y := zX5_burst) kF5_10 dX5_burst_39, wp_bipush (y := zX5_burst) ((-3)) kb_m3 dX5_burst_42, wp_cv1 (y := zX5_burst) kM5_38 (by decide) dX5_burst_44, (show yo zX1_refuse = 1 from rfl), wp_ireti (y := zX5_burst) rfl dX5_burst_47, wp_al0 (y := zX5_burst) dX5_burst_48, wp_getf (y := zX5_burst) kF5_10 dX5_burst_49, wp_il1 (y := zX5_burst) dX5_burst_52, wp_cv1 (y := zX5_burst) kM5_93 (by decide) dX5_burst_53, (show yo zX1_joinAcross = 1 from rfl), X.oc, X.g0, X.g1, X.g2, F.oc, F.g0, F.g1, F.g2, F.g3, F.g4, F.g5, F.g6, F.g7, F.g8, F.g9, F.g10, Soc, E1, E2, h1]
      refine cl_mono (c_joinAcross F R B k _ fo_) ?_
      rintro r μ1 ⟨rfl, R1, _⟩
      simp (disch := first | omega | assumption) only [mm_op_some, true_and, and_true, mm_rc_some, mm_rc_none, nI_xor, tw_xor, pk_mul, nI_add, mm_in_t, nI_clamp, ok0, ok1, ok2, ok3, ok4, n1_0, n0_0, n0_zz, n1_zz, bI_eq0, bI_ne0, bI_zz, nI_le_, nI_lt_, nI_eq_, nI_lt0, nI_ge0, nI_gt0, nI_le0, nI_eq0, m1_lt0, m1_ge0, if_true, if_false, not_true, not_false_eq_true, Classical.not_not, true_or, or_true, false_or, n1_1, k10, Bool.true_eq_false, Bool.false_eq_true, Nat.le_refl, and_self, and_false, false_and, or_self, or_false, hf_lt, ce_lt, hf_cl, ce_cl, i_irr, i_rfl, wp_ireti (y := zX5_burst) rfl dX5_burst_56]
      exact ⟨rfl, R1, Ix⟩
    · have h2 : canJ s.1 k = false := Bool.eq_false_iff.mpr h1
      rw [if_neg h1]
      simp (disch := first | omega | assumption) only [mm_op_some, true_and, and_true, mm_rc_some, mm_rc_none, nI_xor, tw_xor, pk_mul, nI_add, mm_in_t, nI_clamp, ok0, ok1, ok2, ok3, ok4, n1_0, n0_0, n0_zz, n1_zz, bI_eq0, bI_ne0, bI_zz, nI_le_, nI_lt_, nI_eq_, nI_lt0, nI_ge0, nI_gt0, nI_le0, nI_eq0, m1_lt0, m1_ge0, if_true, if_false, not_true, not_false_eq_true, Classical.not_not, true_or, or_true, false_or, n1_1, k10, Bool.true_eq_false, Bool.false_eq_true, Nat.le_refl, and_self, and_false, false_and, or_self, or_false, hf_lt, ce_lt, hf_cl, ce_cl, i_irr, i_rfl, wp_al0 (y := zX5_burst) dX5_burst_0, wp_getf (y := zX5_burst) kF5_10 dX5_burst_1, wp_getf (y := zX5_burst) kF5_46 dX5_burst_4, wp_il1 (y := zX5_burst) dX5_burst_7, wp_cv1 (y := zX5_burst) kM5_60 (by decide) dX5_burst_8, (show yo zX2_hasWall = 2 from rfl), wp_if_ne (y := zX5_burst) 24 (by decide) dX5_burst_11, wp_al0 (y := zX5_burst) dX5_burst_24, wp_getf (y := zX5_burst) kF5_10 dX5_burst_25, wp_getf (y := zX5_burst) kF5_46 dX5_burst_28, wp_il1 (y := zX5_burst) dX5_burst_31, wp_cv1 (y := zX5_burst) kM5_90 (by decide) dX5_burst_32, (show yo zX2_canJoin = 2 from rfl), wp_if_ne (y := zX5_burst) 48 (by decide) dX5_burst_35, wp_al0 (y := zX5_burst) dX5_burst_38, wp_getf (y := zX5_burst) kF5_10 dX5_burst_39, wp_bipush (y := zX5_burst) ((-3)) kb_m3 dX5_burst_42, wp_cv1 (y := zX5_burst) kM5_38 (by decide) dX5_burst_44, (show yo zX1_refuse = 1 from rfl), X.oc, X.g0, X.g1, X.g2, F.oc, F.g0, F.g1, F.g2, F.g3, F.g4, F.g5, F.g6, F.g7, F.g8, F.g9, F.g10, Soc, E1, E2, h2]
      refine cl_mono (c_ref3 F R) ?_
      rintro r μ1 ⟨rfl, R1⟩
      simp (disch := first | omega | assumption) only [mm_op_some, true_and, and_true, mm_rc_some, mm_rc_none, nI_xor, tw_xor, pk_mul, nI_add, mm_in_t, nI_clamp, ok0, ok1, ok2, ok3, ok4, n1_0, n0_0, n0_zz, n1_zz, bI_eq0, bI_ne0, bI_zz, nI_le_, nI_lt_, nI_eq_, nI_lt0, nI_ge0, nI_gt0, nI_le0, nI_eq0, m1_lt0, m1_ge0, if_true, if_false, not_true, not_false_eq_true, Classical.not_not, true_or, or_true, false_or, n1_1, k10, Bool.true_eq_false, Bool.false_eq_true, Nat.le_refl, and_self, and_false, false_and, or_self, or_false, hf_lt, ce_lt, hf_cl, ce_cl, i_irr, i_rfl, wp_ireti (y := zX5_burst) rfl dX5_burst_47]
      exact ⟨rfl, R1, hI_⟩
def a_cut (s : Fo) (c i j : Int32) : Int32 × Fo := match ceO s.1 c with
  | none => (-2, fRf s 1)
  | some k => if i < 0 ∨ nI (sd s.1 k) ≤ i ∨ j < 0 ∨ nI (sd s.1 k) ≤ j ∨ i = j then (-1, fRf s 0) else match frC s.1 with
    | none => (-4, fRf s 3)
    | some r => (nI r, fEv s (cuM s.1 k (hI ((fH s.1 k).getD 0)) i.toNatClampNeg j.toNatClampNeg (cI r)) 2 9 (nI k.val))
theorem x_cut (X : XSh sh x f p q) (G : GoodX I) (R : RepF s μ f) (hI_ : I s.1) (c i j : Int32) : cl sh zX5_cut [.ref x, .int c, .int i, .int j] μ (RT I f (a_cut s c i j)) := by
  obtain ⟨F, P, W, d1, d2⟩ := X.2
  have S := F.2.1
  have Soc := S.oc
  obtain ⟨B, L⟩ := G.1.1 _ hI_
  show wp sh zX5_cut 0 [.ref x, .int c, .int i, .int j, .null, .null, .null] [] μ _
  unfold a_cut
  cases e : ceO s.1 c with
  | none =>
    have E1 : ∀ Q', cl sh zX2_hasCell [.ref (f + 1), .int c] μ Q' = Q' (some (.int (nI 0))) μ := fun Q' => c_hasCellN S R.1 e
    simp (disch := first | omega | assumption) only [mm_op_some, true_and, and_true, mm_rc_some, mm_rc_none, nI_xor, tw_xor, pk_mul, nI_add, mm_in_t, nI_clamp, ok0, ok1, ok2, ok3, ok4, n1_0, n0_0, n0_zz, n1_zz, bI_eq0, bI_ne0, bI_zz, nI_le_, nI_lt_, nI_eq_, nI_lt0, nI_ge0, nI_gt0, nI_le0, nI_eq0, m1_lt0, m1_ge0, if_true, if_false, not_true, not_false_eq_true, Classical.not_not, true_or, or_true, false_or, n1_1, k10, Bool.true_eq_false, Bool.false_eq_true, Nat.le_refl, and_self, and_false, false_and, or_self, or_false, hf_lt, ce_lt, hf_cl, ce_cl, i_irr, i_rfl, wp_al0 (y := zX5_cut) dX5_cut_0, wp_getf (y := zX5_cut) kF5_10 dX5_cut_1, wp_getf (y := zX5_cut) kF5_46 dX5_cut_4, wp_il1 (y := zX5_cut) dX5_cut_7, wp_cv1 (y := zX5_cut) kM5_50 (by decide) dX5_cut_8, (show yo zX2_hasCell = 2 from rfl), wp_if_ne (y := zX5_cut) 24 (by decide) dX5_cut_11, wp_al0 (y := zX5_cut) dX5_cut_14, wp_getf (y := zX5_cut) kF5_10 dX5_cut_15, wp_bipush (y := zX5_cut) ((-2)) kb_m2 dX5_cut_18, wp_cv1 (y := zX5_cut) kM5_38 (by decide) dX5_cut_20, (show yo zX1_refuse = 1 from rfl), X.oc, X.g0, X.g1, X.g2, F.oc, F.g0, F.g1, F.g2, F.g3, F.g4, F.g5, F.g6, F.g7, F.g8, F.g9, F.g10, Soc, E1]
    refine cl_mono (c_ref2 F R) ?_
    rintro r μ1 ⟨rfl, R1⟩
    simp (disch := first | omega | assumption) only [mm_op_some, true_and, and_true, mm_rc_some, mm_rc_none, nI_xor, tw_xor, pk_mul, nI_add, mm_in_t, nI_clamp, ok0, ok1, ok2, ok3, ok4, n1_0, n0_0, n0_zz, n1_zz, bI_eq0, bI_ne0, bI_zz, nI_le_, nI_lt_, nI_eq_, nI_lt0, nI_ge0, nI_gt0, nI_le0, nI_eq0, m1_lt0, m1_ge0, if_true, if_false, not_true, not_false_eq_true, Classical.not_not, true_or, or_true, false_or, n1_1, k10, Bool.true_eq_false, Bool.false_eq_true, Nat.le_refl, and_self, and_false, false_and, or_self, or_false, hf_lt, ce_lt, hf_cl, ce_cl, i_irr, i_rfl, wp_ireti (y := zX5_cut) rfl dX5_cut_23]
    exact ⟨rfl, R1, hI_⟩
  | some k =>
    obtain ⟨rfl, hc⟩ := ceO_some e
    obtain ⟨h, fh, hl⟩ := (G.2.2.1 _ hI_).1 k hc
    have bs := B k
    have E1 : ∀ Q', cl sh zX2_hasCell [.ref (f + 1), .int (nI k.val)] μ Q' = Q' (some (.int (nI 1))) μ := fun Q' => c_hasCellS S R.1 B hc
    dsimp only
    rw [fH_hI fh]
    have bad : ∀ u v v6, wp sh zX5_cut 69 [.ref x, .int (nI k.val), .int i, .int j, u, v, v6] [] μ (RT I f (-1, fRf s 0)) := by
      intro u v v6
      simp (disch := first | omega | assumption) only [mm_op_some, true_and, and_true, mm_rc_some, mm_rc_none, nI_xor, tw_xor, pk_mul, nI_add, mm_in_t, nI_clamp, ok0, ok1, ok2, ok3, ok4, n1_0, n0_0, n0_zz, n1_zz, bI_eq0, bI_ne0, bI_zz, nI_le_, nI_lt_, nI_eq_, nI_lt0, nI_ge0, nI_gt0, nI_le0, nI_eq0, m1_lt0, m1_ge0, if_true, if_false, not_true, not_false_eq_true, Classical.not_not, true_or, or_true, false_or, n1_1, k10, Bool.true_eq_false, Bool.false_eq_true, Nat.le_refl, and_self, and_false, false_and, or_self, or_false, hf_lt, ce_lt, hf_cl, ce_cl, i_irr, i_rfl, wp_al0 (y := zX5_cut) dX5_cut_69, wp_getf (y := zX5_cut) kF5_10 dX5_cut_70, wp_iconst (y := zX5_cut) ((-1)) ki_m1 dX5_cut_73, wp_cv1 (y := zX5_cut) kM5_38 (by decide) dX5_cut_74, (show yo zX1_refuse = 1 from rfl), X.oc, X.g0, X.g1, X.g2, F.oc, F.g0, F.g1, F.g2, F.g3, F.g4, F.g5, F.g6, F.g7, F.g8, F.g9, F.g10]
      refine cl_mono (c_ref1 F R) ?_
      rintro r μ1 ⟨rfl, R1⟩
      simp (disch := first | omega | assumption) only [mm_op_some, true_and, and_true, mm_rc_some, mm_rc_none, nI_xor, tw_xor, pk_mul, nI_add, mm_in_t, nI_clamp, ok0, ok1, ok2, ok3, ok4, n1_0, n0_0, n0_zz, n1_zz, bI_eq0, bI_ne0, bI_zz, nI_le_, nI_lt_, nI_eq_, nI_lt0, nI_ge0, nI_gt0, nI_le0, nI_eq0, m1_lt0, m1_ge0, if_true, if_false, not_true, not_false_eq_true, Classical.not_not, true_or, or_true, false_or, n1_1, k10, Bool.true_eq_false, Bool.false_eq_true, Nat.le_refl, and_self, and_false, false_and, or_self, or_false, hf_lt, ce_lt, hf_cl, ce_cl, i_irr, i_rfl, wp_ireti (y := zX5_cut) rfl dX5_cut_77]
      exact ⟨rfl, R1, hI_⟩
    have hA : ∀ y : Int32, (y < 0 ∨ nI (sd s.1 k) ≤ y) ∨ ∃ n, n < sd s.1 k ∧ y = nI n := fun y => by
      rcases pk_ix y (n := sd s.1 k) (by omega) with z | z | z
      · exact Or.inl (Or.inl z)
      · exact Or.inl (Or.inr z)
      · exact Or.inr z
    have hB : ∀ y v, (y < 0 ∨ nI (sd s.1 k) ≤ y) ∧ v = -1 ∨ (∃ n, n < sd s.1 k ∧ y = nI n ∧ v = nI (nxi s.1 n h).val) → ∀ Q', cl sh zX2_halfAt [.ref (f + 1), .int (nI k.val), .int y] μ Q' = Q' (some (.int v)) μ := by
      intro y v hy Q'
      rcases hy with ⟨z, rfl⟩ | ⟨n, hn, rfl, rfl⟩
      · exact c_halfAtX S R.1 k z
      · exact c_halfAt S R.1 B L k h fh hl hn
    rcases hA i with z | ⟨n, hn, rfl⟩
    · have E2 := hB i (-1) (Or.inl ⟨z, rfl⟩)
      rw [if_pos (by rcases z with z | z <;> simp only [z, true_or, or_true])]
      rcases hA j with z' | ⟨m, hm, rfl⟩
      · have E3 := hB j (-1) (Or.inl ⟨z', rfl⟩)
        simp (disch := first | omega | assumption) only [mm_op_some, true_and, and_true, mm_rc_some, ok0, ok1, ok2, n1_0, m1_lt0, if_true, if_false, not_false_eq_true, wp_al0 (y := zX5_cut) dX5_cut_0, wp_getf (y := zX5_cut) kF5_10 dX5_cut_1, wp_getf (y := zX5_cut) kF5_46 dX5_cut_4, wp_il1 (y := zX5_cut) dX5_cut_7, wp_cv1 (y := zX5_cut) kM5_50 (by decide) dX5_cut_8, (show yo zX2_hasCell = 2 from rfl), wp_if_ne (y := zX5_cut) 24 (by decide) dX5_cut_11, wp_al0 (y := zX5_cut) dX5_cut_24, wp_getf (y := zX5_cut) kF5_10 dX5_cut_25, wp_getf (y := zX5_cut) kF5_46 dX5_cut_28, wp_il1 (y := zX5_cut) dX5_cut_31, wp_il2 (y := zX5_cut) dX5_cut_32, wp_cv2 (y := zX5_cut) kM5_82 (by decide) dX5_cut_33, (show yo zX2_halfAt = 2 from rfl), wp_is4 (y := zX5_cut) dX5_cut_36, wp_al0 (y := zX5_cut) dX5_cut_38, wp_getf (y := zX5_cut) kF5_10 dX5_cut_39, wp_getf (y := zX5_cut) kF5_46 dX5_cut_42, wp_il1 (y := zX5_cut) dX5_cut_45, wp_il3 (y := zX5_cut) dX5_cut_46, wp_cv2 (y := zX5_cut) kM5_82 (by decide) dX5_cut_47, (show yo zX2_halfAt = 2 from rfl), wp_is5 (y := zX5_cut) dX5_cut_50, wp_il4 (y := zX5_cut) dX5_cut_52, wp_if_lt (y := zX5_cut) 69 (by decide) dX5_cut_54, X.oc, X.g0, X.g1, X.g2, F.oc, F.g0, F.g1, F.g2, F.g3, F.g4, F.g5, F.g6, F.g7, F.g8, F.g9, F.g10, Soc, E1, E2, E3]
        exact bad _ _ _
      · have E3 := hB (nI m) _ (Or.inr ⟨m, hm, rfl, rfl⟩)
        simp (disch := first | omega | assumption) only [mm_op_some, true_and, and_true, mm_rc_some, ok0, ok1, ok2, n1_0, m1_lt0, if_true, if_false, not_false_eq_true, wp_al0 (y := zX5_cut) dX5_cut_0, wp_getf (y := zX5_cut) kF5_10 dX5_cut_1, wp_getf (y := zX5_cut) kF5_46 dX5_cut_4, wp_il1 (y := zX5_cut) dX5_cut_7, wp_cv1 (y := zX5_cut) kM5_50 (by decide) dX5_cut_8, (show yo zX2_hasCell = 2 from rfl), wp_if_ne (y := zX5_cut) 24 (by decide) dX5_cut_11, wp_al0 (y := zX5_cut) dX5_cut_24, wp_getf (y := zX5_cut) kF5_10 dX5_cut_25, wp_getf (y := zX5_cut) kF5_46 dX5_cut_28, wp_il1 (y := zX5_cut) dX5_cut_31, wp_il2 (y := zX5_cut) dX5_cut_32, wp_cv2 (y := zX5_cut) kM5_82 (by decide) dX5_cut_33, (show yo zX2_halfAt = 2 from rfl), wp_is4 (y := zX5_cut) dX5_cut_36, wp_al0 (y := zX5_cut) dX5_cut_38, wp_getf (y := zX5_cut) kF5_10 dX5_cut_39, wp_getf (y := zX5_cut) kF5_46 dX5_cut_42, wp_il1 (y := zX5_cut) dX5_cut_45, wp_il3 (y := zX5_cut) dX5_cut_46, wp_cv2 (y := zX5_cut) kM5_82 (by decide) dX5_cut_47, (show yo zX2_halfAt = 2 from rfl), wp_is5 (y := zX5_cut) dX5_cut_50, wp_il4 (y := zX5_cut) dX5_cut_52, wp_if_lt (y := zX5_cut) 69 (by decide) dX5_cut_54, X.oc, X.g0, X.g1, X.g2, F.oc, F.g0, F.g1, F.g2, F.g3, F.g4, F.g5, F.g6, F.g7, F.g8, F.g9, F.g10, Soc, E1, E2, E3]
        exact bad _ _ _
    · have E2 := hB (nI n) _ (Or.inr ⟨n, hn, rfl, rfl⟩)
      have nb := (nxi s.1 n h).isLt
      have n0 : (nI (nxi s.1 n h).val < 0) = False := nI_lt0 (by omega)
      rcases hA j with z' | ⟨m, hm, rfl⟩
      · have E3 := hB j (-1) (Or.inl ⟨z', rfl⟩)
        rw [if_pos (by rcases z' with z | z <;> simp only [z, true_or, or_true])]
        simp (disch := first | omega | assumption) only [mm_op_some, true_and, and_true, mm_rc_some, ok0, ok1, ok2, n1_0, m1_lt0, if_true, if_false, not_false_eq_true, n0, wp_al0 (y := zX5_cut) dX5_cut_0, wp_getf (y := zX5_cut) kF5_10 dX5_cut_1, wp_getf (y := zX5_cut) kF5_46 dX5_cut_4, wp_il1 (y := zX5_cut) dX5_cut_7, wp_cv1 (y := zX5_cut) kM5_50 (by decide) dX5_cut_8, (show yo zX2_hasCell = 2 from rfl), wp_if_ne (y := zX5_cut) 24 (by decide) dX5_cut_11, wp_al0 (y := zX5_cut) dX5_cut_24, wp_getf (y := zX5_cut) kF5_10 dX5_cut_25, wp_getf (y := zX5_cut) kF5_46 dX5_cut_28, wp_il1 (y := zX5_cut) dX5_cut_31, wp_il2 (y := zX5_cut) dX5_cut_32, wp_cv2 (y := zX5_cut) kM5_82 (by decide) dX5_cut_33, (show yo zX2_halfAt = 2 from rfl), wp_is4 (y := zX5_cut) dX5_cut_36, wp_al0 (y := zX5_cut) dX5_cut_38, wp_getf (y := zX5_cut) kF5_10 dX5_cut_39, wp_getf (y := zX5_cut) kF5_46 dX5_cut_42, wp_il1 (y := zX5_cut) dX5_cut_45, wp_il3 (y := zX5_cut) dX5_cut_46, wp_cv2 (y := zX5_cut) kM5_82 (by decide) dX5_cut_47, (show yo zX2_halfAt = 2 from rfl), wp_is5 (y := zX5_cut) dX5_cut_50, wp_il4 (y := zX5_cut) dX5_cut_52, wp_if_lt (y := zX5_cut) 69 (by decide) dX5_cut_54, wp_il5 (y := zX5_cut) dX5_cut_57, wp_if_lt (y := zX5_cut) 69 (by decide) dX5_cut_59, X.oc, X.g0, X.g1, X.g2, F.oc, F.g0, F.g1, F.g2, F.g3, F.g4, F.g5, F.g6, F.g7, F.g8, F.g9, F.g10, Soc, E1, E2, E3]
        exact bad _ _ _
      · have E3 := hB (nI m) _ (Or.inr ⟨m, hm, rfl, rfl⟩)
        have mb := (nxi s.1 m h).isLt
        have m0 : (nI (nxi s.1 m h).val < 0) = False := nI_lt0 (by omega)
        by_cases em : n = m
        · subst em
          have em' : (nI (nxi s.1 n h).val = nI (nxi s.1 n h).val) = True := eq_true rfl
          rw [if_pos (Or.inr (Or.inr (Or.inr (Or.inr rfl))))]
          simp (disch := first | omega | assumption) only [mm_op_some, true_and, and_true, mm_rc_some, ok0, ok1, ok2, n1_0, m1_lt0, if_true, if_false, not_false_eq_true, not_true, n0, wp_al0 (y := zX5_cut) dX5_cut_0, wp_getf (y := zX5_cut) kF5_10 dX5_cut_1, wp_getf (y := zX5_cut) kF5_46 dX5_cut_4, wp_il1 (y := zX5_cut) dX5_cut_7, wp_cv1 (y := zX5_cut) kM5_50 (by decide) dX5_cut_8, (show yo zX2_hasCell = 2 from rfl), wp_if_ne (y := zX5_cut) 24 (by decide) dX5_cut_11, wp_al0 (y := zX5_cut) dX5_cut_24, wp_getf (y := zX5_cut) kF5_10 dX5_cut_25, wp_getf (y := zX5_cut) kF5_46 dX5_cut_28, wp_il1 (y := zX5_cut) dX5_cut_31, wp_il2 (y := zX5_cut) dX5_cut_32, wp_cv2 (y := zX5_cut) kM5_82 (by decide) dX5_cut_33, (show yo zX2_halfAt = 2 from rfl), wp_is4 (y := zX5_cut) dX5_cut_36, wp_al0 (y := zX5_cut) dX5_cut_38, wp_getf (y := zX5_cut) kF5_10 dX5_cut_39, wp_getf (y := zX5_cut) kF5_46 dX5_cut_42, wp_il1 (y := zX5_cut) dX5_cut_45, wp_il3 (y := zX5_cut) dX5_cut_46, wp_cv2 (y := zX5_cut) kM5_82 (by decide) dX5_cut_47, (show yo zX2_halfAt = 2 from rfl), wp_is5 (y := zX5_cut) dX5_cut_50, wp_il4 (y := zX5_cut) dX5_cut_52, wp_if_lt (y := zX5_cut) 69 (by decide) dX5_cut_54, wp_il5 (y := zX5_cut) dX5_cut_57, wp_if_lt (y := zX5_cut) 69 (by decide) dX5_cut_59, wp_il4 (y := zX5_cut) dX5_cut_62, wp_il5 (y := zX5_cut) dX5_cut_64, wp_icmp_ne (y := zX5_cut) 78 (by decide) dX5_cut_66, X.oc, X.g0, X.g1, X.g2, F.oc, F.g0, F.g1, F.g2, F.g3, F.g4, F.g5, F.g6, F.g7, F.g8, F.g9, F.g10, Soc, E1, E2, E3, em']
          exact bad _ _ _
        · have ne := (G.2.2.2.2.1 s.1 k h n m k hI_ fh hl hn hm em).1
          have em' : (nI (nxi s.1 n h).val = nI (nxi s.1 m h).val) = False := eq_false (by rw [hf_eq]; exact ne)
          rw [if_neg (by
            intro z
            rcases z with z | z | z | z | z
            · exact nI_pos (by omega) z
            · exact nI_ge hn (by omega) z
            · exact nI_pos (by omega) z
            · exact nI_ge hm (by omega) z
            · exact em ((nI_eq (by omega) (by omega)).mp z)), nI_clamp (by omega), nI_clamp (by omega)]
          simp (disch := first | omega | assumption) only [mm_op_some, true_and, and_true, mm_rc_some, ok0, ok1, ok2, n1_0, m1_lt0, if_true, if_false, not_false_eq_true, not_true, n0, m0, wp_al0 (y := zX5_cut) dX5_cut_0, wp_getf (y := zX5_cut) kF5_10 dX5_cut_1, wp_getf (y := zX5_cut) kF5_46 dX5_cut_4, wp_il1 (y := zX5_cut) dX5_cut_7, wp_cv1 (y := zX5_cut) kM5_50 (by decide) dX5_cut_8, (show yo zX2_hasCell = 2 from rfl), wp_if_ne (y := zX5_cut) 24 (by decide) dX5_cut_11, wp_al0 (y := zX5_cut) dX5_cut_24, wp_getf (y := zX5_cut) kF5_10 dX5_cut_25, wp_getf (y := zX5_cut) kF5_46 dX5_cut_28, wp_il1 (y := zX5_cut) dX5_cut_31, wp_il2 (y := zX5_cut) dX5_cut_32, wp_cv2 (y := zX5_cut) kM5_82 (by decide) dX5_cut_33, (show yo zX2_halfAt = 2 from rfl), wp_is4 (y := zX5_cut) dX5_cut_36, wp_al0 (y := zX5_cut) dX5_cut_38, wp_getf (y := zX5_cut) kF5_10 dX5_cut_39, wp_getf (y := zX5_cut) kF5_46 dX5_cut_42, wp_il1 (y := zX5_cut) dX5_cut_45, wp_il3 (y := zX5_cut) dX5_cut_46, wp_cv2 (y := zX5_cut) kM5_82 (by decide) dX5_cut_47, (show yo zX2_halfAt = 2 from rfl), wp_is5 (y := zX5_cut) dX5_cut_50, wp_il4 (y := zX5_cut) dX5_cut_52, wp_if_lt (y := zX5_cut) 69 (by decide) dX5_cut_54, wp_il5 (y := zX5_cut) dX5_cut_57, wp_if_lt (y := zX5_cut) 69 (by decide) dX5_cut_59, wp_il4 (y := zX5_cut) dX5_cut_62, wp_il5 (y := zX5_cut) dX5_cut_64, wp_icmp_ne (y := zX5_cut) 78 (by decide) dX5_cut_66, wp_al0 (y := zX5_cut) dX5_cut_69, wp_getf (y := zX5_cut) kF5_10 dX5_cut_70, wp_iconst (y := zX5_cut) ((-1)) ki_m1 dX5_cut_73, wp_cv1 (y := zX5_cut) kM5_38 (by decide) dX5_cut_74, (show yo zX1_refuse = 1 from rfl), wp_ireti (y := zX5_cut) rfl dX5_cut_77, wp_al0 (y := zX5_cut) dX5_cut_78, wp_getf (y := zX5_cut) kF5_10 dX5_cut_79, wp_il1 (y := zX5_cut) dX5_cut_82, wp_il4 (y := zX5_cut) dX5_cut_83, wp_il5 (y := zX5_cut) dX5_cut_85, wp_cv3 (y := zX5_cut) kM5_86 (by decide) dX5_cut_87, (show yo zX1_splitCell = 1 from rfl), X.oc, X.g0, X.g1, X.g2, F.oc, F.g0, F.g1, F.g2, F.g3, F.g4, F.g5, F.g6, F.g7, F.g8, F.g9, F.g10, Soc, E1, E2, E3, em']
          cases ef : frC s.1 with
          | none =>
            have E4 : ∀ Q', cl sh zX1_splitCell [.ref f, .int (nI k.val), .int (nI (nxi s.1 n h).val), .int (nI (nxi s.1 m h).val)] μ Q' = Q' (some (.int (-1))) μ := fun Q' => c_splitCellNo F R B _ _ _ (Or.inl ef)
            rw [E4]
            dsimp only
            simp (disch := first | omega | assumption) only [mm_op_some, true_and, and_true, mm_rc_some, mm_rc_none, nI_xor, tw_xor, pk_mul, nI_add, mm_in_t, nI_clamp, ok0, ok1, ok2, ok3, ok4, n1_0, n0_0, n0_zz, n1_zz, bI_eq0, bI_ne0, bI_zz, nI_le_, nI_lt_, nI_eq_, nI_lt0, nI_ge0, nI_gt0, nI_le0, nI_eq0, m1_lt0, m1_ge0, if_true, if_false, not_true, not_false_eq_true, Classical.not_not, true_or, or_true, false_or, n1_1, k10, Bool.true_eq_false, Bool.false_eq_true, Nat.le_refl, and_self, and_false, false_and, or_self, or_false, hf_lt, ce_lt, hf_cl, ce_cl, i_irr, i_rfl, wp_is6 (y := zX5_cut) dX5_cut_90, wp_il6 (y := zX5_cut) dX5_cut_92, wp_if_ge (y := zX5_cut) 109 (by decide) dX5_cut_94, wp_al0 (y := zX5_cut) dX5_cut_97, wp_getf (y := zX5_cut) kF5_10 dX5_cut_98, wp_bipush (y := zX5_cut) ((-4)) kb_m4 dX5_cut_101, wp_cv1 (y := zX5_cut) kM5_38 (by decide) dX5_cut_103, (show yo zX1_refuse = 1 from rfl), X.oc, X.g0, X.g1, X.g2, F.oc, F.g0, F.g1, F.g2, F.g3, F.g4, F.g5, F.g6, F.g7, F.g8, F.g9, F.g10]
            refine cl_mono (c_ref4 F R) ?_
            rintro r μ1 ⟨rfl, R1⟩
            simp (disch := first | omega | assumption) only [mm_op_some, true_and, and_true, mm_rc_some, mm_rc_none, nI_xor, tw_xor, pk_mul, nI_add, mm_in_t, nI_clamp, ok0, ok1, ok2, ok3, ok4, n1_0, n0_0, n0_zz, n1_zz, bI_eq0, bI_ne0, bI_zz, nI_le_, nI_lt_, nI_eq_, nI_lt0, nI_ge0, nI_gt0, nI_le0, nI_eq0, m1_lt0, m1_ge0, if_true, if_false, not_true, not_false_eq_true, Classical.not_not, true_or, or_true, false_or, n1_1, k10, Bool.true_eq_false, Bool.false_eq_true, Nat.le_refl, and_self, and_false, false_and, or_self, or_false, hf_lt, ce_lt, hf_cl, ce_cl, i_irr, i_rfl, wp_goto (y := zX5_cut) 111 (by decide) dX5_cut_106, wp_ireti (y := zX5_cut) rfl dX5_cut_111]
            exact ⟨rfl, R1, hI_⟩
          | some r =>
            have rb : r < 48 := by have := (fd_some ef).2.2.1; omega
            have rv := cI_lt rb
            obtain ⟨ok, Ix, hW⟩ := (G.2.2.2.2.1 s.1 k h n m (cI r) hI_ fh hl hn hm em).2 (by rw [rv]; exact ef)
            dsimp only
            refine cl_mono (c_splitCell F R B _ _ k (cI r) _ _ _ _ ok hW) ?_
            rintro z μ1 ⟨rfl, R1, _⟩
            rw [rv]
            simp (disch := first | omega | assumption) only [mm_op_some, true_and, and_true, mm_rc_some, mm_rc_none, nI_xor, tw_xor, pk_mul, nI_add, mm_in_t, nI_clamp, ok0, ok1, ok2, ok3, ok4, n1_0, n0_0, n0_zz, n1_zz, bI_eq0, bI_ne0, bI_zz, nI_le_, nI_lt_, nI_eq_, nI_lt0, nI_ge0, nI_gt0, nI_le0, nI_eq0, m1_lt0, m1_ge0, if_true, if_false, not_true, not_false_eq_true, Classical.not_not, true_or, or_true, false_or, n1_1, k10, Bool.true_eq_false, Bool.false_eq_true, Nat.le_refl, and_self, and_false, false_and, or_self, or_false, hf_lt, ce_lt, hf_cl, ce_cl, i_irr, i_rfl, wp_is6 (y := zX5_cut) dX5_cut_90, wp_il6 (y := zX5_cut) dX5_cut_92, wp_if_ge (y := zX5_cut) 109 (by decide) dX5_cut_94, wp_il6 (y := zX5_cut) dX5_cut_109, wp_ireti (y := zX5_cut) rfl dX5_cut_111]
            exact ⟨rfl, R1, Ix⟩
end X5B
