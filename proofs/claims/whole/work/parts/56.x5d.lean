section X5D
variable {sh : mm_Sh} {x f p q b : Nat} {μ : mm_U} {M : Ms} {s : Fo} {I : Ms → Prop} {Q : Option Value → mm_U → Prop}
def two (M : Ms) (c o : Int32) : Option (Ce × Ce) := if c = o then none else match ceO M c, ceO M o with
  | some a, some b => some (a, b)
  | _, _ => none
theorem two_some {M : Ms} {c o : Int32} {a b : Ce} (h : two M c o = some (a, b)) : c = nI a.val ∧ 0 < sd M a ∧ o = nI b.val ∧ 0 < sd M b ∧ a ≠ b := by
  unfold two at h
  split at h
  · cases h
  · rename_i ne
    split at h
    · rename_i e1 e2
      cases h
      obtain ⟨h1, h2⟩ := ceO_some e1
      obtain ⟨h3, h4⟩ := ceO_some e2
      exact ⟨h1, h2, h3, h4, fun z => ne (by rw [h1, h3, z])⟩
    · cases h
theorem x_areTwo (X : XSh sh x f p q) (R : RepF s μ f) (B : SdB s.1) (c o : Int32) : cl sh zX5_areTwo [.ref x, .int c, .int o] μ Q = Q (some (.int (bI (two s.1 c o).isSome))) μ := by
  obtain ⟨F, P, W, d1, d2⟩ := X.2
  have S := F.2.1
  have Soc := S.oc
  show wp sh zX5_areTwo 0 [.ref x, .int c, .int o] [] μ Q = _
  unfold two
  by_cases h1 : c = o
  · rw [if_pos h1]
    simp (disch := first | omega | assumption) only [wp_il1 (y := zX5_areTwo) dX5_areTwo_0, wp_il2 (y := zX5_areTwo) dX5_areTwo_1, wp_icmp_eq (y := zX5_areTwo) 37 (by decide) dX5_areTwo_2, wp_iconst (y := zX5_areTwo) (nI 0) ki_0 dX5_areTwo_37, wp_iretz (y := zX5_areTwo) rfl dX5_areTwo_38, h1, if_true, n0_zz, true_and]
    rfl
  · rw [if_neg h1]
    cases e1 : ceO s.1 c with
    | none =>
      have E1 : ∀ Q', cl sh zX2_hasCell [.ref (f + 1), .int c] μ Q' = Q' (some (.int (nI 0))) μ := fun Q' => c_hasCellN S R.1 e1
      simp (disch := first | omega | assumption) only [mm_op_some, true_and, and_true, mm_rc_some, mm_rc_none, nI_xor, tw_xor, pk_mul, nI_add, mm_in_t, nI_clamp, ok0, ok1, ok2, ok3, ok4, n1_0, n0_0, n0_zz, n1_zz, bI_eq0, bI_ne0, bI_zz, nI_le_, nI_lt_, nI_eq_, nI_lt0, nI_ge0, nI_gt0, nI_le0, nI_eq0, m1_lt0, m1_ge0, if_true, if_false, not_true, not_false_eq_true, Classical.not_not, true_or, or_true, false_or, n1_1, k10, Bool.true_eq_false, Bool.false_eq_true, Nat.le_refl, and_self, and_false, false_and, or_self, or_false, hf_lt, ce_lt, hf_cl, ce_cl, i_irr, i_rfl, wp_il1 (y := zX5_areTwo) dX5_areTwo_0, wp_il2 (y := zX5_areTwo) dX5_areTwo_1, wp_icmp_eq (y := zX5_areTwo) 37 (by decide) dX5_areTwo_2, wp_al0 (y := zX5_areTwo) dX5_areTwo_5, wp_getf (y := zX5_areTwo) kF5_10 dX5_areTwo_6, wp_getf (y := zX5_areTwo) kF5_46 dX5_areTwo_9, wp_il1 (y := zX5_areTwo) dX5_areTwo_12, wp_cv1 (y := zX5_areTwo) kM5_50 (by decide) dX5_areTwo_13, (show yo zX2_hasCell = 2 from rfl), wp_if_eq (y := zX5_areTwo) 37 (by decide) dX5_areTwo_16, wp_iconst (y := zX5_areTwo) (nI 0) ki_0 dX5_areTwo_37, wp_iretz (y := zX5_areTwo) rfl dX5_areTwo_38, X.oc, X.g0, X.g1, X.g2, F.oc, F.g0, F.g1, F.g2, F.g3, F.g4, F.g5, F.g6, F.g7, F.g8, F.g9, F.g10, Soc, h1, E1]
      rfl
    | some a =>
      obtain ⟨rfl, hc⟩ := ceO_some e1
      have E1 : ∀ Q', cl sh zX2_hasCell [.ref (f + 1), .int (nI a.val)] μ Q' = Q' (some (.int (nI 1))) μ := fun Q' => c_hasCellS S R.1 B hc
      cases e2 : ceO s.1 o with
      | none =>
        have E2 : ∀ Q', cl sh zX2_hasCell [.ref (f + 1), .int o] μ Q' = Q' (some (.int (nI 0))) μ := fun Q' => c_hasCellN S R.1 e2
        simp (disch := first | omega | assumption) only [mm_op_some, true_and, and_true, mm_rc_some, mm_rc_none, nI_xor, tw_xor, pk_mul, nI_add, mm_in_t, nI_clamp, ok0, ok1, ok2, ok3, ok4, n1_0, n0_0, n0_zz, n1_zz, bI_eq0, bI_ne0, bI_zz, nI_le_, nI_lt_, nI_eq_, nI_lt0, nI_ge0, nI_gt0, nI_le0, nI_eq0, m1_lt0, m1_ge0, if_true, if_false, not_true, not_false_eq_true, Classical.not_not, true_or, or_true, false_or, n1_1, k10, Bool.true_eq_false, Bool.false_eq_true, Nat.le_refl, and_self, and_false, false_and, or_self, or_false, hf_lt, ce_lt, hf_cl, ce_cl, i_irr, i_rfl, wp_il1 (y := zX5_areTwo) dX5_areTwo_0, wp_il2 (y := zX5_areTwo) dX5_areTwo_1, wp_icmp_eq (y := zX5_areTwo) 37 (by decide) dX5_areTwo_2, wp_al0 (y := zX5_areTwo) dX5_areTwo_5, wp_getf (y := zX5_areTwo) kF5_10 dX5_areTwo_6, wp_getf (y := zX5_areTwo) kF5_46 dX5_areTwo_9, wp_il1 (y := zX5_areTwo) dX5_areTwo_12, wp_cv1 (y := zX5_areTwo) kM5_50 (by decide) dX5_areTwo_13, (show yo zX2_hasCell = 2 from rfl), wp_if_eq (y := zX5_areTwo) 37 (by decide) dX5_areTwo_16, wp_al0 (y := zX5_areTwo) dX5_areTwo_19, wp_getf (y := zX5_areTwo) kF5_10 dX5_areTwo_20, wp_getf (y := zX5_areTwo) kF5_46 dX5_areTwo_23, wp_il2 (y := zX5_areTwo) dX5_areTwo_26, wp_cv1 (y := zX5_areTwo) kM5_50 (by decide) dX5_areTwo_27, (show yo zX2_hasCell = 2 from rfl), wp_if_eq (y := zX5_areTwo) 37 (by decide) dX5_areTwo_30, wp_iconst (y := zX5_areTwo) (nI 0) ki_0 dX5_areTwo_37, wp_iretz (y := zX5_areTwo) rfl dX5_areTwo_38, X.oc, X.g0, X.g1, X.g2, F.oc, F.g0, F.g1, F.g2, F.g3, F.g4, F.g5, F.g6, F.g7, F.g8, F.g9, F.g10, Soc, h1, E1, E2]
        rfl
      | some b =>
        obtain ⟨rfl, hd⟩ := ceO_some e2
        have E2 : ∀ Q', cl sh zX2_hasCell [.ref (f + 1), .int (nI b.val)] μ Q' = Q' (some (.int (nI 1))) μ := fun Q' => c_hasCellS S R.1 B hd
        have h1' : (nI a.val = nI b.val) = False := eq_false h1
        simp (disch := first | omega | assumption) only [mm_op_some, true_and, and_true, mm_rc_some, ok0, ok1, ok2, n1_0, n1_1, false_or, if_true, if_false, wp_il1 (y := zX5_areTwo) dX5_areTwo_0, wp_il2 (y := zX5_areTwo) dX5_areTwo_1, wp_icmp_eq (y := zX5_areTwo) 37 (by decide) dX5_areTwo_2, wp_al0 (y := zX5_areTwo) dX5_areTwo_5, wp_getf (y := zX5_areTwo) kF5_10 dX5_areTwo_6, wp_getf (y := zX5_areTwo) kF5_46 dX5_areTwo_9, wp_il1 (y := zX5_areTwo) dX5_areTwo_12, wp_cv1 (y := zX5_areTwo) kM5_50 (by decide) dX5_areTwo_13, (show yo zX2_hasCell = 2 from rfl), wp_if_eq (y := zX5_areTwo) 37 (by decide) dX5_areTwo_16, wp_al0 (y := zX5_areTwo) dX5_areTwo_19, wp_getf (y := zX5_areTwo) kF5_10 dX5_areTwo_20, wp_getf (y := zX5_areTwo) kF5_46 dX5_areTwo_23, wp_il2 (y := zX5_areTwo) dX5_areTwo_26, wp_cv1 (y := zX5_areTwo) kM5_50 (by decide) dX5_areTwo_27, (show yo zX2_hasCell = 2 from rfl), wp_if_eq (y := zX5_areTwo) 37 (by decide) dX5_areTwo_30, wp_iconst (y := zX5_areTwo) (nI 1) ki_1 dX5_areTwo_33, wp_goto (y := zX5_areTwo) 38 (by decide) dX5_areTwo_34, wp_iconst (y := zX5_areTwo) (nI 0) ki_0 dX5_areTwo_37, wp_iretz (y := zX5_areTwo) rfl dX5_areTwo_38, X.oc, X.g0, X.g1, X.g2, F.oc, F.g0, F.g1, F.g2, F.g3, F.g4, F.g5, F.g6, F.g7, F.g8, F.g9, F.g10, Soc, h1', E1, E2]
        rfl
def a_between (s : Fo) (c o what : Int32) : Int32 := match two s.1 c o with
  | none => -1
  | some (a, b) => if what = nI 0 then wB s.1 a b else if what = nI 1 then fo (fd (fun i => bt s.1 (wI i) a b) 144 0) else -1
theorem x_between (X : XSh sh x f p q) (G : GoodX I) (R : RepF s μ f) (hI_ : I s.1) (c o what : Int32) : cl sh zX5_between [.ref x, .int c, .int o, .int what] μ (RT I f (a_between s c o what, s)) := by
  obtain ⟨F, P, W, d1, d2⟩ := X.2
  have S := F.2.1
  have Soc := S.oc
  obtain ⟨B, L⟩ := G.1.1 _ hI_
  obtain ⟨H, O⟩ := G.2.2.1 _ hI_
  show wp sh zX5_between 0 [.ref x, .int c, .int o, .int what] [] μ _
  unfold a_between
  have E1 : ∀ Q', cl sh zX5_areTwo [.ref x, .int c, .int o] μ Q' = Q' (some (.int (bI (two s.1 c o).isSome))) μ := fun Q' => x_areTwo X R B c o
  cases e : two s.1 c o with
  | none =>
    rw [e] at E1
    simp (disch := first | omega | assumption) only [mm_op_some, true_and, and_true, mm_rc_some, mm_rc_none, nI_xor, tw_xor, pk_mul, nI_add, mm_in_t, nI_clamp, ok0, ok1, ok2, ok3, ok4, n1_0, n0_0, n0_zz, n1_zz, bI_eq0, bI_ne0, bI_zz, nI_le_, nI_lt_, nI_eq_, nI_lt0, nI_ge0, nI_gt0, nI_le0, nI_eq0, m1_lt0, m1_ge0, if_true, if_false, not_true, not_false_eq_true, Classical.not_not, true_or, or_true, false_or, n1_1, k10, Bool.true_eq_false, Bool.false_eq_true, Nat.le_refl, and_self, and_false, false_and, or_self, or_false, hf_lt, ce_lt, hf_cl, ce_cl, i_irr, i_rfl, wp_al0 (y := zX5_between) dX5_between_0, wp_il1 (y := zX5_between) dX5_between_1, wp_il2 (y := zX5_between) dX5_between_2, wp_cv2 (y := zX5_between) kM5_159 (by decide) dX5_between_3, (show yo zX5_areTwo = 5 from rfl), wp_if_ne (y := zX5_between) 11 (by decide) dX5_between_6, wp_iconst (y := zX5_between) ((-1)) ki_m1 dX5_between_9, wp_ireti (y := zX5_between) rfl dX5_between_10, X.oc, X.g0, X.g1, X.g2, F.oc, F.g0, F.g1, F.g2, F.g3, F.g4, F.g5, F.g6, F.g7, F.g8, F.g9, F.g10, Soc, E1, Option.isSome_none]
    exact ⟨rfl, R, hI_⟩
  | some ab =>
    obtain ⟨a, b⟩ := ab
    rw [e] at E1
    obtain ⟨rfl, ha, rfl, hb, ne⟩ := two_some e
    have E2 : ∀ Q', cl sh zX2_wallsBetween [.ref (f + 1), .int (nI a.val), .int (nI b.val)] μ Q' = Q' (some (.int (wB s.1 a b))) μ := fun Q' => c_wallsBetween S R.1 a b
    have E3 : ∀ Q', cl sh zX2_leastBetween [.ref (f + 1), .int (nI a.val), .int (nI b.val)] μ Q' = Q' (some (.int (fo (fd (fun i => bt s.1 (wI i) a b) 144 0)))) μ := fun Q' => c_leastBetween S R.1 a b
    simp (disch := first | omega | assumption) only [mm_op_some, true_and, and_true, mm_rc_some, mm_rc_none, nI_xor, tw_xor, pk_mul, nI_add, mm_in_t, nI_clamp, ok0, ok1, ok2, ok3, ok4, n1_0, n0_0, n0_zz, n1_zz, bI_eq0, bI_ne0, bI_zz, nI_le_, nI_lt_, nI_eq_, nI_lt0, nI_ge0, nI_gt0, nI_le0, nI_eq0, m1_lt0, m1_ge0, if_true, if_false, not_true, not_false_eq_true, Classical.not_not, true_or, or_true, false_or, n1_1, k10, Bool.true_eq_false, Bool.false_eq_true, Nat.le_refl, and_self, and_false, false_and, or_self, or_false, hf_lt, ce_lt, hf_cl, ce_cl, i_irr, i_rfl, wp_al0 (y := zX5_between) dX5_between_0, wp_il1 (y := zX5_between) dX5_between_1, wp_il2 (y := zX5_between) dX5_between_2, wp_cv2 (y := zX5_between) kM5_159 (by decide) dX5_between_3, (show yo zX5_areTwo = 5 from rfl), wp_if_ne (y := zX5_between) 11 (by decide) dX5_between_6, wp_il3 (y := zX5_between) dX5_between_11, X.oc, X.g0, X.g1, X.g2, F.oc, F.g0, F.g1, F.g2, F.g3, F.g4, F.g5, F.g6, F.g7, F.g8, F.g9, F.g10, Soc, E1, Option.isSome_some]
    by_cases w0 : what = nI 0
    · subst w0
      rw [if_pos rfl, wp_ls (y := zX5_between) 40 dX5_between_12 (by decide) rfl (by decide)]
      simp (disch := first | omega | assumption) only [mm_op_some, true_and, and_true, mm_rc_some, mm_rc_none, nI_xor, tw_xor, pk_mul, nI_add, mm_in_t, nI_clamp, ok0, ok1, ok2, ok3, ok4, n1_0, n0_0, n0_zz, n1_zz, bI_eq0, bI_ne0, bI_zz, nI_le_, nI_lt_, nI_eq_, nI_lt0, nI_ge0, nI_gt0, nI_le0, nI_eq0, m1_lt0, m1_ge0, if_true, if_false, not_true, not_false_eq_true, Classical.not_not, true_or, or_true, false_or, n1_1, k10, Bool.true_eq_false, Bool.false_eq_true, Nat.le_refl, and_self, and_false, false_and, or_self, or_false, hf_lt, ce_lt, hf_cl, ce_cl, i_irr, i_rfl, wp_al0 (y := zX5_between) dX5_between_40, wp_getf (y := zX5_between) kF5_10 dX5_between_41, wp_getf (y := zX5_between) kF5_46 dX5_between_44, wp_il1 (y := zX5_between) dX5_between_47, wp_il2 (y := zX5_between) dX5_between_48, wp_cv2 (y := zX5_between) kM5_163 (by decide) dX5_between_49, (show yo zX2_wallsBetween = 2 from rfl), wp_ireti (y := zX5_between) rfl dX5_between_52, X.oc, X.g0, X.g1, X.g2, F.oc, F.g0, F.g1, F.g2, F.g3, F.g4, F.g5, F.g6, F.g7, F.g8, F.g9, F.g10, S.oc, S.g0, S.g1, S.g2, S.g3, S.g4, S.g5, S.g6, S.g7, S.a1, S.a2, S.a3, S.a4, S.a5, S.a6, S.a7, S.a8, E2]
      exact RT_mk R hI_
    · rw [if_neg w0]
      by_cases w1 : what = nI 1
      · subst w1
        rw [if_pos rfl, wp_ls (y := zX5_between) 53 dX5_between_12 (by decide) rfl (by decide)]
        simp (disch := first | omega | assumption) only [mm_op_some, true_and, and_true, mm_rc_some, mm_rc_none, nI_xor, tw_xor, pk_mul, nI_add, mm_in_t, nI_clamp, ok0, ok1, ok2, ok3, ok4, n1_0, n0_0, n0_zz, n1_zz, bI_eq0, bI_ne0, bI_zz, nI_le_, nI_lt_, nI_eq_, nI_lt0, nI_ge0, nI_gt0, nI_le0, nI_eq0, m1_lt0, m1_ge0, if_true, if_false, not_true, not_false_eq_true, Classical.not_not, true_or, or_true, false_or, n1_1, k10, Bool.true_eq_false, Bool.false_eq_true, Nat.le_refl, and_self, and_false, false_and, or_self, or_false, hf_lt, ce_lt, hf_cl, ce_cl, i_irr, i_rfl, wp_al0 (y := zX5_between) dX5_between_53, wp_getf (y := zX5_between) kF5_10 dX5_between_54, wp_getf (y := zX5_between) kF5_46 dX5_between_57, wp_il1 (y := zX5_between) dX5_between_60, wp_il2 (y := zX5_between) dX5_between_61, wp_cv2 (y := zX5_between) kM5_166 (by decide) dX5_between_62, (show yo zX2_leastBetween = 2 from rfl), wp_ireti (y := zX5_between) rfl dX5_between_65, X.oc, X.g0, X.g1, X.g2, F.oc, F.g0, F.g1, F.g2, F.g3, F.g4, F.g5, F.g6, F.g7, F.g8, F.g9, F.g10, S.oc, S.g0, S.g1, S.g2, S.g3, S.g4, S.g5, S.g6, S.g7, S.a1, S.a2, S.a3, S.a4, S.a5, S.a6, S.a7, S.a8, E3]
        exact RT_mk R hI_
      · rw [if_neg w1]
        rw [wp_ls (y := zX5_between) 66 dX5_between_12 (by decide) (ls2 _ _ _ w0 w1) (by decide)]
        simp (disch := first | omega | assumption) only [mm_op_some, true_and, and_true, mm_rc_some, mm_rc_none, nI_xor, tw_xor, pk_mul, nI_add, mm_in_t, nI_clamp, ok0, ok1, ok2, ok3, ok4, n1_0, n0_0, n0_zz, n1_zz, bI_eq0, bI_ne0, bI_zz, nI_le_, nI_lt_, nI_eq_, nI_lt0, nI_ge0, nI_gt0, nI_le0, nI_eq0, m1_lt0, m1_ge0, if_true, if_false, not_true, not_false_eq_true, Classical.not_not, true_or, or_true, false_or, n1_1, k10, Bool.true_eq_false, Bool.false_eq_true, Nat.le_refl, and_self, and_false, false_and, or_self, or_false, hf_lt, ce_lt, hf_cl, ce_cl, i_irr, i_rfl, wp_iconst (y := zX5_between) ((-1)) ki_m1 dX5_between_66, wp_ireti (y := zX5_between) rfl dX5_between_67, X.oc, X.g0, X.g1, X.g2, F.oc, F.g0, F.g1, F.g2, F.g3, F.g4, F.g5, F.g6, F.g7, F.g8, F.g9, F.g10, S.oc, S.g0, S.g1, S.g2, S.g3, S.g4, S.g5, S.g6, S.g7, S.a1, S.a2, S.a3, S.a4, S.a5, S.a6, S.a7, S.a8]
        exact RT_mk R hI_
def a_far (s : Fo) (c o : Int32) : Int32 := match ceO s.1 c with
  | none => -1
  | some a => match ceO s.1 o with
    | none => -1
    | some b => fo ((spF s.1 (nI 0) a (fun _ => none)).1 b)
theorem x_far (X : XSh sh x f p q) (G : GoodX I) (R : RepF s μ f) (hI_ : I s.1) (c o : Int32) : cl sh zX5_far [.ref x, .int c, .int o] μ (RT I f (a_far s c o, s)) := by
  obtain ⟨F, P, W, d1, d2⟩ := X.2
  have S := F.2.1
  have Soc := S.oc
  obtain ⟨B, L⟩ := G.1.1 _ hI_
  obtain ⟨H, O⟩ := G.2.2.1 _ hI_
  show wp sh zX5_far 0 [.ref x, .int c, .int o] [] μ _
  unfold a_far
  cases ec : ceO s.1 c with
  | none =>
    have Ec : ∀ Q', cl sh zX2_hasCell [.ref (f + 1), .int c] μ Q' = Q' (some (.int (nI 0))) μ := fun Q' => c_hasCellN S R.1 ec
    simp (disch := first | omega | assumption) only [mm_op_some, true_and, and_true, mm_rc_some, mm_rc_none, nI_xor, tw_xor, pk_mul, nI_add, mm_in_t, nI_clamp, ok0, ok1, ok2, ok3, ok4, n1_0, n0_0, n0_zz, n1_zz, bI_eq0, bI_ne0, bI_zz, nI_le_, nI_lt_, nI_eq_, nI_lt0, nI_ge0, nI_gt0, nI_le0, nI_eq0, m1_lt0, m1_ge0, if_true, if_false, not_true, not_false_eq_true, Classical.not_not, true_or, or_true, false_or, n1_1, k10, Bool.true_eq_false, Bool.false_eq_true, Nat.le_refl, and_self, and_false, false_and, or_self, or_false, hf_lt, ce_lt, hf_cl, ce_cl, i_irr, i_rfl, wp_al0 (y := zX5_far) dX5_far_0, wp_getf (y := zX5_far) kF5_10 dX5_far_1, wp_getf (y := zX5_far) kF5_46 dX5_far_4, wp_il1 (y := zX5_far) dX5_far_7, wp_cv1 (y := zX5_far) kM5_50 (by decide) dX5_far_8, (show yo zX2_hasCell = 2 from rfl), wp_if_eq (y := zX5_far) 28 (by decide) dX5_far_11, wp_iconst (y := zX5_far) ((-1)) ki_m1 dX5_far_28, wp_ireti (y := zX5_far) rfl dX5_far_29, X.oc, X.g0, X.g1, X.g2, F.oc, F.g0, F.g1, F.g2, F.g3, F.g4, F.g5, F.g6, F.g7, F.g8, F.g9, F.g10, Soc, Ec]
    exact ⟨rfl, R, hI_⟩
  | some a =>
    obtain ⟨rfl, ha⟩ := ceO_some ec
    have Ec : ∀ Q', cl sh zX2_hasCell [.ref (f + 1), .int (nI a.val)] μ Q' = Q' (some (.int (nI 1))) μ := fun Q' => c_hasCellS S R.1 B ha
    cases eo : ceO s.1 o with
    | none =>
      have Eo : ∀ Q', cl sh zX2_hasCell [.ref (f + 1), .int o] μ Q' = Q' (some (.int (nI 0))) μ := fun Q' => c_hasCellN S R.1 eo
      simp (disch := first | omega | assumption) only [mm_op_some, true_and, and_true, mm_rc_some, mm_rc_none, nI_xor, tw_xor, pk_mul, nI_add, mm_in_t, nI_clamp, ok0, ok1, ok2, ok3, ok4, n1_0, n0_0, n0_zz, n1_zz, bI_eq0, bI_ne0, bI_zz, nI_le_, nI_lt_, nI_eq_, nI_lt0, nI_ge0, nI_gt0, nI_le0, nI_eq0, m1_lt0, m1_ge0, if_true, if_false, not_true, not_false_eq_true, Classical.not_not, true_or, or_true, false_or, n1_1, k10, Bool.true_eq_false, Bool.false_eq_true, Nat.le_refl, and_self, and_false, false_and, or_self, or_false, hf_lt, ce_lt, hf_cl, ce_cl, i_irr, i_rfl, wp_al0 (y := zX5_far) dX5_far_0, wp_getf (y := zX5_far) kF5_10 dX5_far_1, wp_getf (y := zX5_far) kF5_46 dX5_far_4, wp_il1 (y := zX5_far) dX5_far_7, wp_cv1 (y := zX5_far) kM5_50 (by decide) dX5_far_8, (show yo zX2_hasCell = 2 from rfl), wp_if_eq (y := zX5_far) 28 (by decide) dX5_far_11, wp_al0 (y := zX5_far) dX5_far_14, wp_getf (y := zX5_far) kF5_10 dX5_far_15, wp_getf (y := zX5_far) kF5_46 dX5_far_18, wp_il2 (y := zX5_far) dX5_far_21, wp_cv1 (y := zX5_far) kM5_50 (by decide) dX5_far_22, (show yo zX2_hasCell = 2 from rfl), wp_if_ne (y := zX5_far) 30 (by decide) dX5_far_25, wp_iconst (y := zX5_far) ((-1)) ki_m1 dX5_far_28, wp_ireti (y := zX5_far) rfl dX5_far_29, X.oc, X.g0, X.g1, X.g2, F.oc, F.g0, F.g1, F.g2, F.g3, F.g4, F.g5, F.g6, F.g7, F.g8, F.g9, F.g10, Soc, Ec, Eo]
      exact ⟨rfl, R, hI_⟩
    | some b =>
      obtain ⟨rfl, hb⟩ := ceO_some eo
      have Eo : ∀ Q', cl sh zX2_hasCell [.ref (f + 1), .int (nI b.val)] μ Q' = Q' (some (.int (nI 1))) μ := fun Q' => c_hasCellS S R.1 B hb
      simp (disch := first | omega | assumption) only [mm_op_some, true_and, and_true, mm_rc_some, mm_rc_none, nI_xor, tw_xor, pk_mul, nI_add, mm_in_t, nI_clamp, ok0, ok1, ok2, ok3, ok4, n1_0, n0_0, n0_zz, n1_zz, bI_eq0, bI_ne0, bI_zz, nI_le_, nI_lt_, nI_eq_, nI_lt0, nI_ge0, nI_gt0, nI_le0, nI_eq0, m1_lt0, m1_ge0, if_true, if_false, not_true, not_false_eq_true, Classical.not_not, true_or, or_true, false_or, n1_1, k10, Bool.true_eq_false, Bool.false_eq_true, Nat.le_refl, and_self, and_false, false_and, or_self, or_false, hf_lt, ce_lt, hf_cl, ce_cl, i_irr, i_rfl, wp_al0 (y := zX5_far) dX5_far_0, wp_getf (y := zX5_far) kF5_10 dX5_far_1, wp_getf (y := zX5_far) kF5_46 dX5_far_4, wp_il1 (y := zX5_far) dX5_far_7, wp_cv1 (y := zX5_far) kM5_50 (by decide) dX5_far_8, (show yo zX2_hasCell = 2 from rfl), wp_if_eq (y := zX5_far) 28 (by decide) dX5_far_11, wp_al0 (y := zX5_far) dX5_far_14, wp_getf (y := zX5_far) kF5_10 dX5_far_15, wp_getf (y := zX5_far) kF5_46 dX5_far_18, wp_il2 (y := zX5_far) dX5_far_21, wp_cv1 (y := zX5_far) kM5_50 (by decide) dX5_far_22, (show yo zX2_hasCell = 2 from rfl), wp_if_ne (y := zX5_far) 30 (by decide) dX5_far_25, wp_al0 (y := zX5_far) dX5_far_30, wp_getf (y := zX5_far) kF5_26 dX5_far_31, wp_al0 (y := zX5_far) dX5_far_34, wp_getf (y := zX5_far) kF5_10 dX5_far_35, wp_getf (y := zX5_far) kF5_46 dX5_far_38, wp_il1 (y := zX5_far) dX5_far_41, wp_cv_ri (y := zX5_far) kM5_169 (by decide) dX5_far_42, (show yo zX4_spread = 4 from rfl), X.oc, X.g0, X.g1, X.g2, F.oc, F.g0, F.g1, F.g2, F.g3, F.g4, F.g5, F.g6, F.g7, F.g8, F.g9, F.g10, Soc, Ec, Eo, W.oc]
      refine cl_mono (c_spread W S R.1 B L H O (by omega) a ha) ?_
      rintro r μ1 ⟨rfl, R1, F1⟩
      have rd := R1.1.1 b
      simp (disch := first | omega | assumption) only [mm_op_some, true_and, and_true, mm_rc_some, mm_rc_none, nI_xor, tw_xor, pk_mul, nI_add, mm_in_t, nI_clamp, ok0, ok1, ok2, ok3, ok4, n1_0, n0_0, n0_zz, n1_zz, bI_eq0, bI_ne0, bI_zz, nI_le_, nI_lt_, nI_eq_, nI_lt0, nI_ge0, nI_gt0, nI_le0, nI_eq0, m1_lt0, m1_ge0, if_true, if_false, not_true, not_false_eq_true, Classical.not_not, true_or, or_true, false_or, n1_1, k10, Bool.true_eq_false, Bool.false_eq_true, Nat.le_refl, and_self, and_false, false_and, or_self, or_false, hf_lt, ce_lt, hf_cl, ce_cl, i_irr, i_rfl, wp_al0 (y := zX5_far) dX5_far_45, wp_getf (y := zX5_far) kF5_26 dX5_far_46, wp_getf (y := zX5_far) kF5_173 dX5_far_49, wp_il2 (y := zX5_far) dX5_far_52, wp_iald (y := zX5_far) dX5_far_53, wp_ireti (y := zX5_far) rfl dX5_far_54, X.oc, X.g0, X.g1, X.g2, W.oc, W.g0, W.g1, W.g2, W.g3, W.g4, W.p4, W.a1, W.a2, W.a3, W.a4, rd]
      exact ⟨rfl, R.cg (fun z h1 h2 => F1 z (by omega)), hI_⟩
def a_shell (s : Fo) (c d : Int32) : Int32 := match ceO s.1 c with
  | none => -1
  | some a => if d < 0 then -1 else it (cntD (spF s.1 (nI 0) a (fun _ => none)).1 d) 48 0 (nI 0)
theorem x_shell (X : XSh sh x f p q) (G : GoodX I) (R : RepF s μ f) (hI_ : I s.1) (c d : Int32) : cl sh zX5_shell [.ref x, .int c, .int d] μ (RT I f (a_shell s c d, s)) := by
  obtain ⟨F, P, W, d1, d2⟩ := X.2
  have S := F.2.1
  have Soc := S.oc
  obtain ⟨B, L⟩ := G.1.1 _ hI_
  obtain ⟨H, O⟩ := G.2.2.1 _ hI_
  show wp sh zX5_shell 0 [.ref x, .int c, .int d] [] μ _
  unfold a_shell
  cases ec : ceO s.1 c with
  | none =>
    have Ec : ∀ Q', cl sh zX2_hasCell [.ref (f + 1), .int c] μ Q' = Q' (some (.int (nI 0))) μ := fun Q' => c_hasCellN S R.1 ec
    simp (disch := first | omega | assumption) only [mm_op_some, true_and, and_true, mm_rc_some, mm_rc_none, nI_xor, tw_xor, pk_mul, nI_add, mm_in_t, nI_clamp, ok0, ok1, ok2, ok3, ok4, n1_0, n0_0, n0_zz, n1_zz, bI_eq0, bI_ne0, bI_zz, nI_le_, nI_lt_, nI_eq_, nI_lt0, nI_ge0, nI_gt0, nI_le0, nI_eq0, m1_lt0, m1_ge0, if_true, if_false, not_true, not_false_eq_true, Classical.not_not, true_or, or_true, false_or, n1_1, k10, Bool.true_eq_false, Bool.false_eq_true, Nat.le_refl, and_self, and_false, false_and, or_self, or_false, hf_lt, ce_lt, hf_cl, ce_cl, i_irr, i_rfl, wp_al0 (y := zX5_shell) dX5_shell_0, wp_getf (y := zX5_shell) kF5_10 dX5_shell_1, wp_getf (y := zX5_shell) kF5_46 dX5_shell_4, wp_il1 (y := zX5_shell) dX5_shell_7, wp_cv1 (y := zX5_shell) kM5_50 (by decide) dX5_shell_8, (show yo zX2_hasCell = 2 from rfl), wp_if_eq (y := zX5_shell) 18 (by decide) dX5_shell_11, wp_iconst (y := zX5_shell) ((-1)) ki_m1 dX5_shell_18, wp_ireti (y := zX5_shell) rfl dX5_shell_19, X.oc, X.g0, X.g1, X.g2, F.oc, F.g0, F.g1, F.g2, F.g3, F.g4, F.g5, F.g6, F.g7, F.g8, F.g9, F.g10, Soc, Ec]
    exact ⟨rfl, R, hI_⟩
  | some a =>
    obtain ⟨rfl, ha⟩ := ceO_some ec
    have Ec : ∀ Q', cl sh zX2_hasCell [.ref (f + 1), .int (nI a.val)] μ Q' = Q' (some (.int (nI 1))) μ := fun Q' => c_hasCellS S R.1 B ha
    dsimp only
    by_cases hd : d < 0
    · rw [if_pos hd]
      have hd' : (0 ≤ d) = False := i_nle hd
      simp (disch := first | omega | assumption) only [mm_op_some, true_and, and_true, mm_rc_some, mm_rc_none, nI_xor, tw_xor, pk_mul, nI_add, mm_in_t, nI_clamp, ok0, ok1, ok2, ok3, ok4, n1_0, n0_0, n0_zz, n1_zz, bI_eq0, bI_ne0, bI_zz, nI_le_, nI_lt_, nI_eq_, nI_lt0, nI_ge0, nI_gt0, nI_le0, nI_eq0, m1_lt0, m1_ge0, if_true, if_false, not_true, not_false_eq_true, Classical.not_not, true_or, or_true, false_or, n1_1, k10, Bool.true_eq_false, Bool.false_eq_true, Nat.le_refl, and_self, and_false, false_and, or_self, or_false, hf_lt, ce_lt, hf_cl, ce_cl, i_irr, i_rfl, wp_al0 (y := zX5_shell) dX5_shell_0, wp_getf (y := zX5_shell) kF5_10 dX5_shell_1, wp_getf (y := zX5_shell) kF5_46 dX5_shell_4, wp_il1 (y := zX5_shell) dX5_shell_7, wp_cv1 (y := zX5_shell) kM5_50 (by decide) dX5_shell_8, (show yo zX2_hasCell = 2 from rfl), wp_if_eq (y := zX5_shell) 18 (by decide) dX5_shell_11, wp_il2 (y := zX5_shell) dX5_shell_14, wp_if_ge (y := zX5_shell) 20 (by decide) dX5_shell_15, wp_iconst (y := zX5_shell) ((-1)) ki_m1 dX5_shell_18, wp_ireti (y := zX5_shell) rfl dX5_shell_19, X.oc, X.g0, X.g1, X.g2, F.oc, F.g0, F.g1, F.g2, F.g3, F.g4, F.g5, F.g6, F.g7, F.g8, F.g9, F.g10, Soc, Ec, hd']
      exact ⟨rfl, R, hI_⟩
    · rw [if_neg hd]
      have hd' : (0 ≤ d) = True := i_le hd
      simp (disch := first | omega | assumption) only [mm_op_some, true_and, and_true, mm_rc_some, mm_rc_none, nI_xor, tw_xor, pk_mul, nI_add, mm_in_t, nI_clamp, ok0, ok1, ok2, ok3, ok4, n1_0, n0_0, n0_zz, n1_zz, bI_eq0, bI_ne0, bI_zz, nI_le_, nI_lt_, nI_eq_, nI_lt0, nI_ge0, nI_gt0, nI_le0, nI_eq0, m1_lt0, m1_ge0, if_true, if_false, not_true, not_false_eq_true, Classical.not_not, true_or, or_true, false_or, n1_1, k10, Bool.true_eq_false, Bool.false_eq_true, Nat.le_refl, and_self, and_false, false_and, or_self, or_false, hf_lt, ce_lt, hf_cl, ce_cl, i_irr, i_rfl, wp_al0 (y := zX5_shell) dX5_shell_0, wp_getf (y := zX5_shell) kF5_10 dX5_shell_1, wp_getf (y := zX5_shell) kF5_46 dX5_shell_4, wp_il1 (y := zX5_shell) dX5_shell_7, wp_cv1 (y := zX5_shell) kM5_50 (by decide) dX5_shell_8, (show yo zX2_hasCell = 2 from rfl), wp_if_eq (y := zX5_shell) 18 (by decide) dX5_shell_11, wp_il2 (y := zX5_shell) dX5_shell_14, wp_if_ge (y := zX5_shell) 20 (by decide) dX5_shell_15, wp_al0 (y := zX5_shell) dX5_shell_20, wp_getf (y := zX5_shell) kF5_26 dX5_shell_21, wp_al0 (y := zX5_shell) dX5_shell_24, wp_getf (y := zX5_shell) kF5_10 dX5_shell_25, wp_getf (y := zX5_shell) kF5_46 dX5_shell_28, wp_il1 (y := zX5_shell) dX5_shell_31, wp_cv_ri (y := zX5_shell) kM5_169 (by decide) dX5_shell_32, (show yo zX4_spread = 4 from rfl), X.oc, X.g0, X.g1, X.g2, F.oc, F.g0, F.g1, F.g2, F.g3, F.g4, F.g5, F.g6, F.g7, F.g8, F.g9, F.g10, Soc, Ec, W.oc, hd']
      refine cl_mono (c_spread W S R.1 B L H O (by omega) a ha) ?_
      rintro r μ1 ⟨rfl, R1, F1⟩
      have E9 : ∀ Q', cl sh zX4_howManyAt [.ref q, .int d] μ1 Q' = Q' (some (.int (it (cntD (spF s.1 (nI 0) a (fun _ => none)).1 d) 48 0 (nI 0)))) μ1 := fun Q' => c_howManyAt W R1.1 d
      simp (disch := first | omega | assumption) only [mm_op_some, true_and, and_true, mm_rc_some, mm_rc_none, nI_xor, tw_xor, pk_mul, nI_add, mm_in_t, nI_clamp, ok0, ok1, ok2, ok3, ok4, n1_0, n0_0, n0_zz, n1_zz, bI_eq0, bI_ne0, bI_zz, nI_le_, nI_lt_, nI_eq_, nI_lt0, nI_ge0, nI_gt0, nI_le0, nI_eq0, m1_lt0, m1_ge0, if_true, if_false, not_true, not_false_eq_true, Classical.not_not, true_or, or_true, false_or, n1_1, k10, Bool.true_eq_false, Bool.false_eq_true, Nat.le_refl, and_self, and_false, false_and, or_self, or_false, hf_lt, ce_lt, hf_cl, ce_cl, i_irr, i_rfl, wp_al0 (y := zX5_shell) dX5_shell_35, wp_getf (y := zX5_shell) kF5_26 dX5_shell_36, wp_il2 (y := zX5_shell) dX5_shell_39, wp_cv1 (y := zX5_shell) kM5_176 (by decide) dX5_shell_40, (show yo zX4_howManyAt = 4 from rfl), wp_ireti (y := zX5_shell) rfl dX5_shell_43, X.oc, X.g0, X.g1, X.g2, W.oc, W.g0, W.g1, W.g2, W.g3, W.g4, W.p4, W.a1, W.a2, W.a3, W.a4, E9]
      exact ⟨rfl, R.cg (fun z h1 h2 => F1 z (by omega)), hI_⟩
def a_shellOf (s : Fo) (c d i : Int32) : Int32 := match ceO s.1 c with
  | none => -1
  | some a => if d < 0 then -1 else if i < 0 then -1 else fo (fd (whiP (spF s.1 (nI 0) a (fun _ => none)).1 d i) 48 0)
theorem x_shellOf (X : XSh sh x f p q) (G : GoodX I) (R : RepF s μ f) (hI_ : I s.1) (c d i : Int32) : cl sh zX5_shellOf [.ref x, .int c, .int d, .int i] μ (RT I f (a_shellOf s c d i, s)) := by
  obtain ⟨F, P, W, d1, d2⟩ := X.2
  have S := F.2.1
  have Soc := S.oc
  obtain ⟨B, L⟩ := G.1.1 _ hI_
  obtain ⟨H, O⟩ := G.2.2.1 _ hI_
  show wp sh zX5_shellOf 0 [.ref x, .int c, .int d, .int i] [] μ _
  unfold a_shellOf
  cases ec : ceO s.1 c with
  | none =>
    have Ec : ∀ Q', cl sh zX2_hasCell [.ref (f + 1), .int c] μ Q' = Q' (some (.int (nI 0))) μ := fun Q' => c_hasCellN S R.1 ec
    simp (disch := first | omega | assumption) only [mm_op_some, true_and, and_true, mm_rc_some, mm_rc_none, nI_xor, tw_xor, pk_mul, nI_add, mm_in_t, nI_clamp, ok0, ok1, ok2, ok3, ok4, n1_0, n0_0, n0_zz, n1_zz, bI_eq0, bI_ne0, bI_zz, nI_le_, nI_lt_, nI_eq_, nI_lt0, nI_ge0, nI_gt0, nI_le0, nI_eq0, m1_lt0, m1_ge0, if_true, if_false, not_true, not_false_eq_true, Classical.not_not, true_or, or_true, false_or, n1_1, k10, Bool.true_eq_false, Bool.false_eq_true, Nat.le_refl, and_self, and_false, false_and, or_self, or_false, hf_lt, ce_lt, hf_cl, ce_cl, i_irr, i_rfl, wp_al0 (y := zX5_shellOf) dX5_shellOf_0, wp_getf (y := zX5_shellOf) kF5_10 dX5_shellOf_1, wp_getf (y := zX5_shellOf) kF5_46 dX5_shellOf_4, wp_il1 (y := zX5_shellOf) dX5_shellOf_7, wp_cv1 (y := zX5_shellOf) kM5_50 (by decide) dX5_shellOf_8, (show yo zX2_hasCell = 2 from rfl), wp_if_eq (y := zX5_shellOf) 22 (by decide) dX5_shellOf_11, wp_iconst (y := zX5_shellOf) ((-1)) ki_m1 dX5_shellOf_22, wp_ireti (y := zX5_shellOf) rfl dX5_shellOf_23, X.oc, X.g0, X.g1, X.g2, F.oc, F.g0, F.g1, F.g2, F.g3, F.g4, F.g5, F.g6, F.g7, F.g8, F.g9, F.g10, Soc, Ec]
    exact ⟨rfl, R, hI_⟩
  | some a =>
    obtain ⟨rfl, ha⟩ := ceO_some ec
    have Ec : ∀ Q', cl sh zX2_hasCell [.ref (f + 1), .int (nI a.val)] μ Q' = Q' (some (.int (nI 1))) μ := fun Q' => c_hasCellS S R.1 B ha
    dsimp only
    by_cases hd : d < 0
    · rw [if_pos hd]
      simp (disch := first | omega | assumption) only [mm_op_some, true_and, and_true, mm_rc_some, mm_rc_none, nI_xor, tw_xor, pk_mul, nI_add, mm_in_t, nI_clamp, ok0, ok1, ok2, ok3, ok4, n1_0, n0_0, n0_zz, n1_zz, bI_eq0, bI_ne0, bI_zz, nI_le_, nI_lt_, nI_eq_, nI_lt0, nI_ge0, nI_gt0, nI_le0, nI_eq0, m1_lt0, m1_ge0, if_true, if_false, not_true, not_false_eq_true, Classical.not_not, true_or, or_true, false_or, n1_1, k10, Bool.true_eq_false, Bool.false_eq_true, Nat.le_refl, and_self, and_false, false_and, or_self, or_false, hf_lt, ce_lt, hf_cl, ce_cl, i_irr, i_rfl, wp_al0 (y := zX5_shellOf) dX5_shellOf_0, wp_getf (y := zX5_shellOf) kF5_10 dX5_shellOf_1, wp_getf (y := zX5_shellOf) kF5_46 dX5_shellOf_4, wp_il1 (y := zX5_shellOf) dX5_shellOf_7, wp_cv1 (y := zX5_shellOf) kM5_50 (by decide) dX5_shellOf_8, (show yo zX2_hasCell = 2 from rfl), wp_if_eq (y := zX5_shellOf) 22 (by decide) dX5_shellOf_11, wp_il2 (y := zX5_shellOf) dX5_shellOf_14, wp_if_lt (y := zX5_shellOf) 22 (by decide) dX5_shellOf_15, wp_iconst (y := zX5_shellOf) ((-1)) ki_m1 dX5_shellOf_22, wp_ireti (y := zX5_shellOf) rfl dX5_shellOf_23, X.oc, X.g0, X.g1, X.g2, F.oc, F.g0, F.g1, F.g2, F.g3, F.g4, F.g5, F.g6, F.g7, F.g8, F.g9, F.g10, Soc, Ec, hd]
      exact ⟨rfl, R, hI_⟩
    · rw [if_neg hd]
      by_cases hi : i < 0
      · rw [if_pos hi]
        have hi' : (0 ≤ i) = False := i_nle hi
        simp (disch := first | omega | assumption) only [mm_op_some, true_and, and_true, mm_rc_some, mm_rc_none, nI_xor, tw_xor, pk_mul, nI_add, mm_in_t, nI_clamp, ok0, ok1, ok2, ok3, ok4, n1_0, n0_0, n0_zz, n1_zz, bI_eq0, bI_ne0, bI_zz, nI_le_, nI_lt_, nI_eq_, nI_lt0, nI_ge0, nI_gt0, nI_le0, nI_eq0, m1_lt0, m1_ge0, if_true, if_false, not_true, not_false_eq_true, Classical.not_not, true_or, or_true, false_or, n1_1, k10, Bool.true_eq_false, Bool.false_eq_true, Nat.le_refl, and_self, and_false, false_and, or_self, or_false, hf_lt, ce_lt, hf_cl, ce_cl, i_irr, i_rfl, wp_al0 (y := zX5_shellOf) dX5_shellOf_0, wp_getf (y := zX5_shellOf) kF5_10 dX5_shellOf_1, wp_getf (y := zX5_shellOf) kF5_46 dX5_shellOf_4, wp_il1 (y := zX5_shellOf) dX5_shellOf_7, wp_cv1 (y := zX5_shellOf) kM5_50 (by decide) dX5_shellOf_8, (show yo zX2_hasCell = 2 from rfl), wp_if_eq (y := zX5_shellOf) 22 (by decide) dX5_shellOf_11, wp_il2 (y := zX5_shellOf) dX5_shellOf_14, wp_if_lt (y := zX5_shellOf) 22 (by decide) dX5_shellOf_15, wp_il3 (y := zX5_shellOf) dX5_shellOf_18, wp_if_ge (y := zX5_shellOf) 24 (by decide) dX5_shellOf_19, wp_iconst (y := zX5_shellOf) ((-1)) ki_m1 dX5_shellOf_22, wp_ireti (y := zX5_shellOf) rfl dX5_shellOf_23, X.oc, X.g0, X.g1, X.g2, F.oc, F.g0, F.g1, F.g2, F.g3, F.g4, F.g5, F.g6, F.g7, F.g8, F.g9, F.g10, Soc, Ec, hd, hi']
        exact ⟨rfl, R, hI_⟩
      · rw [if_neg hi]
        have hi' : (0 ≤ i) = True := i_le hi
        simp (disch := first | omega | assumption) only [mm_op_some, true_and, and_true, mm_rc_some, mm_rc_none, nI_xor, tw_xor, pk_mul, nI_add, mm_in_t, nI_clamp, ok0, ok1, ok2, ok3, ok4, n1_0, n0_0, n0_zz, n1_zz, bI_eq0, bI_ne0, bI_zz, nI_le_, nI_lt_, nI_eq_, nI_lt0, nI_ge0, nI_gt0, nI_le0, nI_eq0, m1_lt0, m1_ge0, if_true, if_false, not_true, not_false_eq_true, Classical.not_not, true_or, or_true, false_or, n1_1, k10, Bool.true_eq_false, Bool.false_eq_true, Nat.le_refl, and_self, and_false, false_and, or_self, or_false, hf_lt, ce_lt, hf_cl, ce_cl, i_irr, i_rfl, wp_al0 (y := zX5_shellOf) dX5_shellOf_0, wp_getf (y := zX5_shellOf) kF5_10 dX5_shellOf_1, wp_getf (y := zX5_shellOf) kF5_46 dX5_shellOf_4, wp_il1 (y := zX5_shellOf) dX5_shellOf_7, wp_cv1 (y := zX5_shellOf) kM5_50 (by decide) dX5_shellOf_8, (show yo zX2_hasCell = 2 from rfl), wp_if_eq (y := zX5_shellOf) 22 (by decide) dX5_shellOf_11, wp_il2 (y := zX5_shellOf) dX5_shellOf_14, wp_if_lt (y := zX5_shellOf) 22 (by decide) dX5_shellOf_15, wp_il3 (y := zX5_shellOf) dX5_shellOf_18, wp_if_ge (y := zX5_shellOf) 24 (by decide) dX5_shellOf_19, wp_al0 (y := zX5_shellOf) dX5_shellOf_24, wp_getf (y := zX5_shellOf) kF5_26 dX5_shellOf_25, wp_al0 (y := zX5_shellOf) dX5_shellOf_28, wp_getf (y := zX5_shellOf) kF5_10 dX5_shellOf_29, wp_getf (y := zX5_shellOf) kF5_46 dX5_shellOf_32, wp_il1 (y := zX5_shellOf) dX5_shellOf_35, wp_cv_ri (y := zX5_shellOf) kM5_169 (by decide) dX5_shellOf_36, (show yo zX4_spread = 4 from rfl), X.oc, X.g0, X.g1, X.g2, F.oc, F.g0, F.g1, F.g2, F.g3, F.g4, F.g5, F.g6, F.g7, F.g8, F.g9, F.g10, Soc, Ec, W.oc, hd, hi']
        refine cl_mono (c_spread W S R.1 B L H O (by omega) a ha) ?_
        rintro r μ1 ⟨rfl, R1, F1⟩
        have E9 : ∀ Q', cl sh zX4_whichAt [.ref q, .int d, .int i] μ1 Q' = Q' (some (.int (fo (fd (whiP (spF s.1 (nI 0) a (fun _ => none)).1 d i) 48 0)))) μ1 := fun Q' => c_whichAt W R1.1 d i
        simp (disch := first | omega | assumption) only [mm_op_some, true_and, and_true, mm_rc_some, mm_rc_none, nI_xor, tw_xor, pk_mul, nI_add, mm_in_t, nI_clamp, ok0, ok1, ok2, ok3, ok4, n1_0, n0_0, n0_zz, n1_zz, bI_eq0, bI_ne0, bI_zz, nI_le_, nI_lt_, nI_eq_, nI_lt0, nI_ge0, nI_gt0, nI_le0, nI_eq0, m1_lt0, m1_ge0, if_true, if_false, not_true, not_false_eq_true, Classical.not_not, true_or, or_true, false_or, n1_1, k10, Bool.true_eq_false, Bool.false_eq_true, Nat.le_refl, and_self, and_false, false_and, or_self, or_false, hf_lt, ce_lt, hf_cl, ce_cl, i_irr, i_rfl, wp_al0 (y := zX5_shellOf) dX5_shellOf_39, wp_getf (y := zX5_shellOf) kF5_26 dX5_shellOf_40, wp_il2 (y := zX5_shellOf) dX5_shellOf_43, wp_il3 (y := zX5_shellOf) dX5_shellOf_44, wp_cv2 (y := zX5_shellOf) kM5_179 (by decide) dX5_shellOf_45, (show yo zX4_whichAt = 4 from rfl), wp_ireti (y := zX5_shellOf) rfl dX5_shellOf_48, X.oc, X.g0, X.g1, X.g2, W.oc, W.g0, W.g1, W.g2, W.g3, W.g4, W.p4, W.a1, W.a2, W.a3, W.a4, E9]
        exact ⟨rfl, R.cg (fun z h1 h2 => F1 z (by omega)), hI_⟩
def a_way (s : Fo) (c o i : Int32) : Int32 := match ceO s.1 c with
  | none => -1
  | some a => match ceO s.1 o with
    | none => -1
    | some b => if i < 0 then -1 else if i ≤ fo ((spF s.1 (nI 0) b (fun _ => none)).1 a) then nI (cmN s.1 (spF s.1 (nI 0) b (fun _ => none)).1 i.toNatClampNeg 0 a).val else -1
theorem x_way (X : XSh sh x f p q) (G : GoodX I) (R : RepF s μ f) (hI_ : I s.1) (c o i : Int32) : cl sh zX5_way [.ref x, .int c, .int o, .int i] μ (RT I f (a_way s c o i, s)) := by
  obtain ⟨F, P, W, d1, d2⟩ := X.2
  have S := F.2.1
  have Soc := S.oc
  obtain ⟨B, L⟩ := G.1.1 _ hI_
  obtain ⟨H, O⟩ := G.2.2.1 _ hI_
  show wp sh zX5_way 0 [.ref x, .int c, .int o, .int i] [] μ _
  unfold a_way
  cases ec : ceO s.1 c with
  | none =>
    have Ec : ∀ Q', cl sh zX2_hasCell [.ref (f + 1), .int c] μ Q' = Q' (some (.int (nI 0))) μ := fun Q' => c_hasCellN S R.1 ec
    simp (disch := first | omega | assumption) only [mm_op_some, true_and, and_true, mm_rc_some, mm_rc_none, nI_xor, tw_xor, pk_mul, nI_add, mm_in_t, nI_clamp, ok0, ok1, ok2, ok3, ok4, n1_0, n0_0, n0_zz, n1_zz, bI_eq0, bI_ne0, bI_zz, nI_le_, nI_lt_, nI_eq_, nI_lt0, nI_ge0, nI_gt0, nI_le0, nI_eq0, m1_lt0, m1_ge0, if_true, if_false, not_true, not_false_eq_true, Classical.not_not, true_or, or_true, false_or, n1_1, k10, Bool.true_eq_false, Bool.false_eq_true, Nat.le_refl, and_self, and_false, false_and, or_self, or_false, hf_lt, ce_lt, hf_cl, ce_cl, i_irr, i_rfl, wp_al0 (y := zX5_way) dX5_way_0, wp_getf (y := zX5_way) kF5_10 dX5_way_1, wp_getf (y := zX5_way) kF5_46 dX5_way_4, wp_il1 (y := zX5_way) dX5_way_7, wp_cv1 (y := zX5_way) kM5_50 (by decide) dX5_way_8, (show yo zX2_hasCell = 2 from rfl), wp_if_eq (y := zX5_way) 32 (by decide) dX5_way_11, wp_iconst (y := zX5_way) ((-1)) ki_m1 dX5_way_32, wp_ireti (y := zX5_way) rfl dX5_way_33, X.oc, X.g0, X.g1, X.g2, F.oc, F.g0, F.g1, F.g2, F.g3, F.g4, F.g5, F.g6, F.g7, F.g8, F.g9, F.g10, Soc, Ec]
    exact ⟨rfl, R, hI_⟩
  | some a =>
    obtain ⟨rfl, ha⟩ := ceO_some ec
    have Ec : ∀ Q', cl sh zX2_hasCell [.ref (f + 1), .int (nI a.val)] μ Q' = Q' (some (.int (nI 1))) μ := fun Q' => c_hasCellS S R.1 B ha
    cases eo : ceO s.1 o with
    | none =>
      have Eo : ∀ Q', cl sh zX2_hasCell [.ref (f + 1), .int o] μ Q' = Q' (some (.int (nI 0))) μ := fun Q' => c_hasCellN S R.1 eo
      simp (disch := first | omega | assumption) only [mm_op_some, true_and, and_true, mm_rc_some, mm_rc_none, nI_xor, tw_xor, pk_mul, nI_add, mm_in_t, nI_clamp, ok0, ok1, ok2, ok3, ok4, n1_0, n0_0, n0_zz, n1_zz, bI_eq0, bI_ne0, bI_zz, nI_le_, nI_lt_, nI_eq_, nI_lt0, nI_ge0, nI_gt0, nI_le0, nI_eq0, m1_lt0, m1_ge0, if_true, if_false, not_true, not_false_eq_true, Classical.not_not, true_or, or_true, false_or, n1_1, k10, Bool.true_eq_false, Bool.false_eq_true, Nat.le_refl, and_self, and_false, false_and, or_self, or_false, hf_lt, ce_lt, hf_cl, ce_cl, i_irr, i_rfl, wp_al0 (y := zX5_way) dX5_way_0, wp_getf (y := zX5_way) kF5_10 dX5_way_1, wp_getf (y := zX5_way) kF5_46 dX5_way_4, wp_il1 (y := zX5_way) dX5_way_7, wp_cv1 (y := zX5_way) kM5_50 (by decide) dX5_way_8, (show yo zX2_hasCell = 2 from rfl), wp_if_eq (y := zX5_way) 32 (by decide) dX5_way_11, wp_al0 (y := zX5_way) dX5_way_14, wp_getf (y := zX5_way) kF5_10 dX5_way_15, wp_getf (y := zX5_way) kF5_46 dX5_way_18, wp_il2 (y := zX5_way) dX5_way_21, wp_cv1 (y := zX5_way) kM5_50 (by decide) dX5_way_22, (show yo zX2_hasCell = 2 from rfl), wp_if_eq (y := zX5_way) 32 (by decide) dX5_way_25, wp_iconst (y := zX5_way) ((-1)) ki_m1 dX5_way_32, wp_ireti (y := zX5_way) rfl dX5_way_33, X.oc, X.g0, X.g1, X.g2, F.oc, F.g0, F.g1, F.g2, F.g3, F.g4, F.g5, F.g6, F.g7, F.g8, F.g9, F.g10, Soc, Ec, Eo]
      exact ⟨rfl, R, hI_⟩
    | some b =>
      obtain ⟨rfl, hb⟩ := ceO_some eo
      have Eo : ∀ Q', cl sh zX2_hasCell [.ref (f + 1), .int (nI b.val)] μ Q' = Q' (some (.int (nI 1))) μ := fun Q' => c_hasCellS S R.1 B hb
      dsimp only
      by_cases hi : i < 0
      · rw [if_pos hi]
        have hi' : (0 ≤ i) = False := i_nle hi
        simp (disch := first | omega | assumption) only [mm_op_some, true_and, and_true, mm_rc_some, mm_rc_none, nI_xor, tw_xor, pk_mul, nI_add, mm_in_t, nI_clamp, ok0, ok1, ok2, ok3, ok4, n1_0, n0_0, n0_zz, n1_zz, bI_eq0, bI_ne0, bI_zz, nI_le_, nI_lt_, nI_eq_, nI_lt0, nI_ge0, nI_gt0, nI_le0, nI_eq0, m1_lt0, m1_ge0, if_true, if_false, not_true, not_false_eq_true, Classical.not_not, true_or, or_true, false_or, n1_1, k10, Bool.true_eq_false, Bool.false_eq_true, Nat.le_refl, and_self, and_false, false_and, or_self, or_false, hf_lt, ce_lt, hf_cl, ce_cl, i_irr, i_rfl, wp_al0 (y := zX5_way) dX5_way_0, wp_getf (y := zX5_way) kF5_10 dX5_way_1, wp_getf (y := zX5_way) kF5_46 dX5_way_4, wp_il1 (y := zX5_way) dX5_way_7, wp_cv1 (y := zX5_way) kM5_50 (by decide) dX5_way_8, (show yo zX2_hasCell = 2 from rfl), wp_if_eq (y := zX5_way) 32 (by decide) dX5_way_11, wp_al0 (y := zX5_way) dX5_way_14, wp_getf (y := zX5_way) kF5_10 dX5_way_15, wp_getf (y := zX5_way) kF5_46 dX5_way_18, wp_il2 (y := zX5_way) dX5_way_21, wp_cv1 (y := zX5_way) kM5_50 (by decide) dX5_way_22, (show yo zX2_hasCell = 2 from rfl), wp_if_eq (y := zX5_way) 32 (by decide) dX5_way_25, wp_il3 (y := zX5_way) dX5_way_28, wp_if_ge (y := zX5_way) 34 (by decide) dX5_way_29, wp_iconst (y := zX5_way) ((-1)) ki_m1 dX5_way_32, wp_ireti (y := zX5_way) rfl dX5_way_33, X.oc, X.g0, X.g1, X.g2, F.oc, F.g0, F.g1, F.g2, F.g3, F.g4, F.g5, F.g6, F.g7, F.g8, F.g9, F.g10, Soc, Ec, Eo, hi']
        exact ⟨rfl, R, hI_⟩
      · rw [if_neg hi]
        have hi' : (0 ≤ i) = True := i_le hi
        simp (disch := first | omega | assumption) only [mm_op_some, true_and, and_true, mm_rc_some, ok0, ok1, ok2, n1_0, if_true, if_false, wp_al0 (y := zX5_way) dX5_way_0, wp_getf (y := zX5_way) kF5_10 dX5_way_1, wp_getf (y := zX5_way) kF5_46 dX5_way_4, wp_il1 (y := zX5_way) dX5_way_7, wp_cv1 (y := zX5_way) kM5_50 (by decide) dX5_way_8, (show yo zX2_hasCell = 2 from rfl), wp_if_eq (y := zX5_way) 32 (by decide) dX5_way_11, wp_al0 (y := zX5_way) dX5_way_14, wp_getf (y := zX5_way) kF5_10 dX5_way_15, wp_getf (y := zX5_way) kF5_46 dX5_way_18, wp_il2 (y := zX5_way) dX5_way_21, wp_cv1 (y := zX5_way) kM5_50 (by decide) dX5_way_22, (show yo zX2_hasCell = 2 from rfl), wp_if_eq (y := zX5_way) 32 (by decide) dX5_way_25, wp_il3 (y := zX5_way) dX5_way_28, wp_if_ge (y := zX5_way) 34 (by decide) dX5_way_29, wp_al0 (y := zX5_way) dX5_way_34, wp_getf (y := zX5_way) kF5_26 dX5_way_35, wp_al0 (y := zX5_way) dX5_way_38, wp_getf (y := zX5_way) kF5_10 dX5_way_39, wp_getf (y := zX5_way) kF5_46 dX5_way_42, wp_il2 (y := zX5_way) dX5_way_45, wp_cv_ri (y := zX5_way) kM5_169 (by decide) dX5_way_46, (show yo zX4_spread = 4 from rfl), X.oc, X.g0, X.g1, X.g2, F.oc, F.g0, F.g1, F.g2, F.g3, F.g4, F.g5, F.g6, F.g7, F.g8, F.g9, F.g10, Soc, Ec, Eo, W.oc, hi']
        refine cl_mono (c_spread W S R.1 B L H O (by omega) b hb) ?_
        rintro r μ1 ⟨rfl, R1, F1⟩
        obtain ⟨n, hn, rfl⟩ := nI_of hi
        have R2 : RepF s μ1 f := R.cg (fun z h1 h2 => F1 z (by omega))
        have E9 : ∀ Q', cl sh zX4_comeNearer [.ref q, .ref (f + 1), .int (nI a.val), .int (nI n)] μ1 Q' = Q' (some (.int (if nI n ≤ fo ((spF s.1 (nI 0) b (fun _ => none)).1 a) then nI (cmN s.1 (spF s.1 (nI 0) b (fun _ => none)).1 n 0 a).val else -1))) μ1 := fun Q' => c_comeNearer W S R2.1 B L H O R1.1 a ha n hn
        simp (disch := first | omega | assumption) only [mm_op_some, true_and, and_true, mm_rc_some, mm_rc_none, ok0, ok1, ok2, ok3, wp_al0 (y := zX5_way) dX5_way_49, wp_getf (y := zX5_way) kF5_26 dX5_way_50, wp_al0 (y := zX5_way) dX5_way_53, wp_getf (y := zX5_way) kF5_10 dX5_way_54, wp_getf (y := zX5_way) kF5_46 dX5_way_57, wp_il1 (y := zX5_way) dX5_way_60, wp_il3 (y := zX5_way) dX5_way_61, wp_cv_rii (y := zX5_way) kM5_182 (by decide) dX5_way_62, (show yo zX4_comeNearer = 4 from rfl), wp_ireti (y := zX5_way) rfl dX5_way_65, X.oc, X.g0, X.g1, X.g2, F.oc, F.g0, F.g1, F.g2, F.g3, F.g4, F.g5, F.g6, F.g7, F.g8, F.g9, F.g10, Soc, W.oc, E9]
        rw [nI_clamp hn]
        exact ⟨rfl, R2, hI_⟩
def muS (M : Ms) (a b : Ce) (i : Nat) (n : Int32) : Int32 := if 0 < wB M (cI i) a then (if 0 < wB M (cI i) b then n + nI 1 else n) else n
def a_mutual (s : Fo) (c o : Int32) : Int32 := match two s.1 c o with
  | none => -1
  | some (a, b) => it (muS s.1 a b) 48 0 (nI 0)
theorem x_mutual (X : XSh sh x f p q) (G : GoodX I) (R : RepF s μ f) (hI_ : I s.1) (c o : Int32) : cl sh zX5_mutual [.ref x, .int c, .int o] μ (RT I f (a_mutual s c o, s)) := by
  obtain ⟨F, P, W, d1, d2⟩ := X.2
  have S := F.2.1
  have Soc := S.oc
  obtain ⟨B, L⟩ := G.1.1 _ hI_
  obtain ⟨H, O⟩ := G.2.2.1 _ hI_
  show wp sh zX5_mutual 0 [.ref x, .int c, .int o, .null, .null] [] μ _
  unfold a_mutual
  have E1 : ∀ Q', cl sh zX5_areTwo [.ref x, .int c, .int o] μ Q' = Q' (some (.int (bI (two s.1 c o).isSome))) μ := fun Q' => x_areTwo X R B c o
  cases e : two s.1 c o with
  | none =>
    rw [e] at E1
    simp (disch := first | omega | assumption) only [mm_op_some, true_and, and_true, mm_rc_some, mm_rc_none, nI_xor, tw_xor, pk_mul, nI_add, mm_in_t, nI_clamp, ok0, ok1, ok2, ok3, ok4, n1_0, n0_0, n0_zz, n1_zz, bI_eq0, bI_ne0, bI_zz, nI_le_, nI_lt_, nI_eq_, nI_lt0, nI_ge0, nI_gt0, nI_le0, nI_eq0, m1_lt0, m1_ge0, if_true, if_false, not_true, not_false_eq_true, Classical.not_not, true_or, or_true, false_or, n1_1, k10, Bool.true_eq_false, Bool.false_eq_true, Nat.le_refl, and_self, and_false, false_and, or_self, or_false, hf_lt, ce_lt, hf_cl, ce_cl, i_irr, i_rfl, wp_al0 (y := zX5_mutual) dX5_mutual_0, wp_il1 (y := zX5_mutual) dX5_mutual_1, wp_il2 (y := zX5_mutual) dX5_mutual_2, wp_cv2 (y := zX5_mutual) kM5_159 (by decide) dX5_mutual_3, (show yo zX5_areTwo = 5 from rfl), wp_if_ne (y := zX5_mutual) 11 (by decide) dX5_mutual_6, wp_iconst (y := zX5_mutual) ((-1)) ki_m1 dX5_mutual_9, wp_ireti (y := zX5_mutual) rfl dX5_mutual_10, X.oc, X.g0, X.g1, X.g2, F.oc, F.g0, F.g1, F.g2, F.g3, F.g4, F.g5, F.g6, F.g7, F.g8, F.g9, F.g10, Soc, E1, Option.isSome_none]
    exact ⟨rfl, R, hI_⟩
  | some ab =>
    obtain ⟨a, b⟩ := ab
    rw [e] at E1
    obtain ⟨rfl, ha, rfl, hb, ne⟩ := two_some e
    simp (disch := first | omega | assumption) only [mm_op_some, true_and, and_true, mm_rc_some, mm_rc_none, nI_xor, tw_xor, pk_mul, nI_add, mm_in_t, nI_clamp, ok0, ok1, ok2, ok3, ok4, n1_0, n0_0, n0_zz, n1_zz, bI_eq0, bI_ne0, bI_zz, nI_le_, nI_lt_, nI_eq_, nI_lt0, nI_ge0, nI_gt0, nI_le0, nI_eq0, m1_lt0, m1_ge0, if_true, if_false, not_true, not_false_eq_true, Classical.not_not, true_or, or_true, false_or, n1_1, k10, Bool.true_eq_false, Bool.false_eq_true, Nat.le_refl, and_self, and_false, false_and, or_self, or_false, hf_lt, ce_lt, hf_cl, ce_cl, i_irr, i_rfl, wp_al0 (y := zX5_mutual) dX5_mutual_0, wp_il1 (y := zX5_mutual) dX5_mutual_1, wp_il2 (y := zX5_mutual) dX5_mutual_2, wp_cv2 (y := zX5_mutual) kM5_159 (by decide) dX5_mutual_3, (show yo zX5_areTwo = 5 from rfl), wp_if_ne (y := zX5_mutual) 11 (by decide) dX5_mutual_6, wp_iconst (y := zX5_mutual) (nI 0) ki_0 dX5_mutual_11, wp_is3 (y := zX5_mutual) dX5_mutual_12, wp_iconst (y := zX5_mutual) (nI 0) ki_0 dX5_mutual_13, wp_is4 (y := zX5_mutual) dX5_mutual_14, X.oc, X.g0, X.g1, X.g2, F.oc, F.g0, F.g1, F.g2, F.g3, F.g4, F.g5, F.g6, F.g7, F.g8, F.g9, F.g10, Soc, E1, Option.isSome_some]
    refine Eq.mpr (lp 48 (fun i (n : Int32) => wp sh zX5_mutual 16 [.ref x, .int (nI a.val), .int (nI b.val), .int n, .int (nI i)] [] μ (RT I f (it (muS s.1 a b) 48 0 (nI 0), s))) (muS s.1 a b) (fun i n hi => ?_) (nI 0)) ?_
    · have h9 : (48 ≤ i) = False := eq_false (by omega)
      have iv := cI_lt hi
      have E2 : ∀ k : Ce, ∀ Q', cl sh zX2_wallsBetween [.ref (f + 1), .int (nI i), .int (nI k.val)] μ Q' = Q' (some (.int (wB s.1 (cI i) k))) μ := fun k Q' => by
        have := c_wallsBetween (Q := Q') S R.1 (cI i) k
        rw [iv] at this
        exact this
      generalize RT I f (it (muS s.1 a b) 48 0 (nI 0), s) = QQ
      rw [wp_il4 (y := zX5_mutual) dX5_mutual_16]
      unfold muS
      by_cases h1 : 0 < wB s.1 (cI i) a
      · have g1 : (wB s.1 (cI i) a ≤ 0) = False := i_nle h1
        by_cases h2 : 0 < wB s.1 (cI i) b
        · have g2 : (wB s.1 (cI i) b ≤ 0) = False := i_nle h2
          simp (disch := first | omega | assumption) only [mm_op_some, true_and, and_true, mm_rc_some, mm_rc_none, nI_xor, tw_xor, pk_mul, nI_add, mm_in_t, nI_clamp, ok0, ok1, ok2, ok3, ok4, n1_0, n0_0, n0_zz, n1_zz, bI_eq0, bI_ne0, bI_zz, nI_le_, nI_lt_, nI_eq_, nI_lt0, nI_ge0, nI_gt0, nI_le0, nI_eq0, m1_lt0, m1_ge0, if_true, if_false, not_true, not_false_eq_true, Classical.not_not, true_or, or_true, false_or, n1_1, k10, Bool.true_eq_false, Bool.false_eq_true, Nat.le_refl, and_self, and_false, false_and, or_self, or_false, hf_lt, ce_lt, hf_cl, ce_cl, i_irr, i_rfl, wp_bipush (y := zX5_mutual) (nI 48) kb_48 dX5_mutual_18, wp_icmp_ge (y := zX5_mutual) 64 (by decide) dX5_mutual_20, wp_al0 (y := zX5_mutual) dX5_mutual_23, wp_getf (y := zX5_mutual) kF5_10 dX5_mutual_24, wp_getf (y := zX5_mutual) kF5_46 dX5_mutual_27, wp_il4 (y := zX5_mutual) dX5_mutual_30, wp_il1 (y := zX5_mutual) dX5_mutual_32, wp_cv2 (y := zX5_mutual) kM5_163 (by decide) dX5_mutual_33, (show yo zX2_wallsBetween = 2 from rfl), wp_if_le (y := zX5_mutual) 58 (by decide) dX5_mutual_36, wp_al0 (y := zX5_mutual) dX5_mutual_39, wp_getf (y := zX5_mutual) kF5_10 dX5_mutual_40, wp_getf (y := zX5_mutual) kF5_46 dX5_mutual_43, wp_il4 (y := zX5_mutual) dX5_mutual_46, wp_il2 (y := zX5_mutual) dX5_mutual_48, wp_cv2 (y := zX5_mutual) kM5_163 (by decide) dX5_mutual_49, (show yo zX2_wallsBetween = 2 from rfl), wp_if_le (y := zX5_mutual) 58 (by decide) dX5_mutual_52, wp_inc3 (y := zX5_mutual) (nI 1) ki_1 dX5_mutual_55, wp_inc4 (y := zX5_mutual) (nI 1) ki_1 dX5_mutual_58, wp_goto (y := zX5_mutual) 16 (by decide) dX5_mutual_61, X.oc, X.g0, X.g1, X.g2, F.oc, F.g0, F.g1, F.g2, F.g3, F.g4, F.g5, F.g6, F.g7, F.g8, F.g9, F.g10, Soc, E2, h9, g1, g2, h1, h2]
        · have g2 : (wB s.1 (cI i) b ≤ 0) = True := i_le h2
          simp (disch := first | omega | assumption) only [mm_op_some, true_and, and_true, mm_rc_some, mm_rc_none, nI_xor, tw_xor, pk_mul, nI_add, mm_in_t, nI_clamp, ok0, ok1, ok2, ok3, ok4, n1_0, n0_0, n0_zz, n1_zz, bI_eq0, bI_ne0, bI_zz, nI_le_, nI_lt_, nI_eq_, nI_lt0, nI_ge0, nI_gt0, nI_le0, nI_eq0, m1_lt0, m1_ge0, if_true, if_false, not_true, not_false_eq_true, Classical.not_not, true_or, or_true, false_or, n1_1, k10, Bool.true_eq_false, Bool.false_eq_true, Nat.le_refl, and_self, and_false, false_and, or_self, or_false, hf_lt, ce_lt, hf_cl, ce_cl, i_irr, i_rfl, wp_bipush (y := zX5_mutual) (nI 48) kb_48 dX5_mutual_18, wp_icmp_ge (y := zX5_mutual) 64 (by decide) dX5_mutual_20, wp_al0 (y := zX5_mutual) dX5_mutual_23, wp_getf (y := zX5_mutual) kF5_10 dX5_mutual_24, wp_getf (y := zX5_mutual) kF5_46 dX5_mutual_27, wp_il4 (y := zX5_mutual) dX5_mutual_30, wp_il1 (y := zX5_mutual) dX5_mutual_32, wp_cv2 (y := zX5_mutual) kM5_163 (by decide) dX5_mutual_33, (show yo zX2_wallsBetween = 2 from rfl), wp_if_le (y := zX5_mutual) 58 (by decide) dX5_mutual_36, wp_al0 (y := zX5_mutual) dX5_mutual_39, wp_getf (y := zX5_mutual) kF5_10 dX5_mutual_40, wp_getf (y := zX5_mutual) kF5_46 dX5_mutual_43, wp_il4 (y := zX5_mutual) dX5_mutual_46, wp_il2 (y := zX5_mutual) dX5_mutual_48, wp_cv2 (y := zX5_mutual) kM5_163 (by decide) dX5_mutual_49, (show yo zX2_wallsBetween = 2 from rfl), wp_if_le (y := zX5_mutual) 58 (by decide) dX5_mutual_52, wp_inc4 (y := zX5_mutual) (nI 1) ki_1 dX5_mutual_58, wp_goto (y := zX5_mutual) 16 (by decide) dX5_mutual_61, X.oc, X.g0, X.g1, X.g2, F.oc, F.g0, F.g1, F.g2, F.g3, F.g4, F.g5, F.g6, F.g7, F.g8, F.g9, F.g10, Soc, E2, h9, g1, g2, h1, h2]
      · have g1 : (wB s.1 (cI i) a ≤ 0) = True := i_le h1
        simp (disch := first | omega | assumption) only [mm_op_some, true_and, and_true, mm_rc_some, mm_rc_none, nI_xor, tw_xor, pk_mul, nI_add, mm_in_t, nI_clamp, ok0, ok1, ok2, ok3, ok4, n1_0, n0_0, n0_zz, n1_zz, bI_eq0, bI_ne0, bI_zz, nI_le_, nI_lt_, nI_eq_, nI_lt0, nI_ge0, nI_gt0, nI_le0, nI_eq0, m1_lt0, m1_ge0, if_true, if_false, not_true, not_false_eq_true, Classical.not_not, true_or, or_true, false_or, n1_1, k10, Bool.true_eq_false, Bool.false_eq_true, Nat.le_refl, and_self, and_false, false_and, or_self, or_false, hf_lt, ce_lt, hf_cl, ce_cl, i_irr, i_rfl, wp_bipush (y := zX5_mutual) (nI 48) kb_48 dX5_mutual_18, wp_icmp_ge (y := zX5_mutual) 64 (by decide) dX5_mutual_20, wp_al0 (y := zX5_mutual) dX5_mutual_23, wp_getf (y := zX5_mutual) kF5_10 dX5_mutual_24, wp_getf (y := zX5_mutual) kF5_46 dX5_mutual_27, wp_il4 (y := zX5_mutual) dX5_mutual_30, wp_il1 (y := zX5_mutual) dX5_mutual_32, wp_cv2 (y := zX5_mutual) kM5_163 (by decide) dX5_mutual_33, (show yo zX2_wallsBetween = 2 from rfl), wp_if_le (y := zX5_mutual) 58 (by decide) dX5_mutual_36, wp_inc4 (y := zX5_mutual) (nI 1) ki_1 dX5_mutual_58, wp_goto (y := zX5_mutual) 16 (by decide) dX5_mutual_61, X.oc, X.g0, X.g1, X.g2, F.oc, F.g0, F.g1, F.g2, F.g3, F.g4, F.g5, F.g6, F.g7, F.g8, F.g9, F.g10, Soc, E2, h9, g1, h1]
    · rw [wp_il4 (y := zX5_mutual) dX5_mutual_16]
      simp (disch := first | omega | assumption) only [mm_op_some, true_and, and_true, mm_rc_some, mm_rc_none, nI_xor, tw_xor, pk_mul, nI_add, mm_in_t, nI_clamp, ok0, ok1, ok2, ok3, ok4, n1_0, n0_0, n0_zz, n1_zz, bI_eq0, bI_ne0, bI_zz, nI_le_, nI_lt_, nI_eq_, nI_lt0, nI_ge0, nI_gt0, nI_le0, nI_eq0, m1_lt0, m1_ge0, if_true, if_false, not_true, not_false_eq_true, Classical.not_not, true_or, or_true, false_or, n1_1, k10, Bool.true_eq_false, Bool.false_eq_true, Nat.le_refl, and_self, and_false, false_and, or_self, or_false, hf_lt, ce_lt, hf_cl, ce_cl, i_irr, i_rfl, wp_bipush (y := zX5_mutual) (nI 48) kb_48 dX5_mutual_18, wp_icmp_ge (y := zX5_mutual) 64 (by decide) dX5_mutual_20, wp_il3 (y := zX5_mutual) dX5_mutual_64, wp_ireti (y := zX5_mutual) rfl dX5_mutual_65]
      exact ⟨rfl, R, hI_⟩
end X5D
