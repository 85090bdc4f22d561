theorem ls2 {x : Int32} (o0 o1 d : Int) (h0 : ¬ x = nI 0) (h1 : ¬ x = nI 1) : Op.lookupswitch.offset [(0, o0), (1, o1)] d x.toInt = d := by
  have a0 := int_ne h0
  have a1 := int_ne h1
  rw [show (nI 0).toInt = 0 from rfl] at a0
  rw [show (nI 1).toInt = 1 from rfl] at a1
  show (if (0 : Int) = x.toInt then o0 else if (1 : Int) = x.toInt then o1 else d) = d
  rw [if_neg (fun q => a0 q.symm), if_neg (fun q => a1 q.symm)]
theorem RT_mk {I : Ms → Prop} {f : Nat} {v : Int32} {s : Fo} {μ : mm_U} (R : RepF s μ f) (h : I s.1) : RT I f (v, s) (some (.int v)) μ := ⟨rfl, R, h⟩
section X5C
variable {sh : mm_Sh} {x f p q b : Nat} {μ : mm_U} {M : Ms} {s : Fo} {I : Ms → Prop} {Q : Option Value → mm_U → Prop}
def a_shake (s : Fo) (seed n h : Int32) : Int32 × Fo := if seed < 0 ∨ nI 999999 < seed ∨ n < nI 1 ∨ nI 99 < n ∨ h < 0 ∨ nI 99 < h then (-1, fRf s 0) else (nI (jlF h n.toNatClampNeg seed.toNatClampNeg s).2.1, (jlF h n.toNatClampNeg seed.toNatClampNeg s).2.2)
def shk (seed n h : Int32) : Bool := decide (¬ (seed < 0 ∨ nI 999999 < seed ∨ n < nI 1 ∨ nI 99 < n ∨ h < 0 ∨ nI 99 < h))
theorem km5 : (999999 : Int32) = nI 999999 := rfl
theorem x_isShake (seed n h : Int32) : cl sh zX5_isShake [.int seed, .int n, .int h] μ Q = Q (some (.int (bI (shk seed n h)))) μ := by
  show wp sh zX5_isShake 0 [.int seed, .int n, .int h] [] μ Q = _
  have no : shk seed n h = false → wp sh zX5_isShake 36 [.int seed, .int n, .int h] [] μ Q = Q (some (.int (bI (shk seed n h)))) μ := by
    intro e
    rw [e]
    simp (disch := first | omega | assumption) only [mm_op_some, true_and, and_true, mm_rc_some, mm_rc_none, nI_xor, tw_xor, pk_mul, nI_add, mm_in_t, nI_clamp, ok0, ok1, ok2, ok3, ok4, n1_0, n0_0, n0_zz, n1_zz, bI_eq0, bI_ne0, bI_zz, nI_le_, nI_lt_, nI_eq_, nI_lt0, nI_ge0, nI_gt0, nI_le0, nI_eq0, m1_lt0, m1_ge0, if_true, if_false, not_true, not_false_eq_true, Classical.not_not, true_or, or_true, false_or, n1_1, k10, Bool.true_eq_false, Bool.false_eq_true, Nat.le_refl, and_self, and_false, false_and, or_self, or_false, hf_lt, ce_lt, hf_cl, ce_cl, i_irr, i_rfl, wp_iconst (y := zX5_isShake) (nI 0) ki_0 dX5_isShake_36, wp_iretz (y := zX5_isShake) rfl dX5_isShake_37]
    rfl
  by_cases h1 : seed < 0
  · simp (disch := first | omega | assumption) only [wp_il0 (y := zX5_isShake) dX5_isShake_0, wp_if_lt (y := zX5_isShake) 36 (by decide) dX5_isShake_1, h1, if_true]
    exact no (decide_eq_false (fun z => z (Or.inl h1)))
  by_cases h2 : nI 999999 < seed
  · simp (disch := first | omega | assumption) only [wp_il0 (y := zX5_isShake) dX5_isShake_0, wp_if_lt (y := zX5_isShake) 36 (by decide) dX5_isShake_1, wp_il0 (y := zX5_isShake) dX5_isShake_4, wp_ldcw (y := zX5_isShake) kC5_277 dX5_isShake_5, wp_icmp_gt (y := zX5_isShake) 36 (by decide) dX5_isShake_8, h1, km5, h2, if_true, if_false]
    exact no (decide_eq_false (fun z => z (Or.inr (Or.inl h2))))
  by_cases h3 : n < nI 1
  · simp (disch := first | omega | assumption) only [wp_il0 (y := zX5_isShake) dX5_isShake_0, wp_if_lt (y := zX5_isShake) 36 (by decide) dX5_isShake_1, wp_il0 (y := zX5_isShake) dX5_isShake_4, wp_ldcw (y := zX5_isShake) kC5_277 dX5_isShake_5, wp_icmp_gt (y := zX5_isShake) 36 (by decide) dX5_isShake_8, wp_il1 (y := zX5_isShake) dX5_isShake_11, wp_iconst (y := zX5_isShake) (nI 1) ki_1 dX5_isShake_12, wp_icmp_lt (y := zX5_isShake) 36 (by decide) dX5_isShake_13, h1, km5, h2, h3, if_true, if_false]
    exact no (decide_eq_false (fun z => z (Or.inr (Or.inr (Or.inl h3)))))
  by_cases h4 : nI 99 < n
  · simp (disch := first | omega | assumption) only [wp_il0 (y := zX5_isShake) dX5_isShake_0, wp_if_lt (y := zX5_isShake) 36 (by decide) dX5_isShake_1, wp_il0 (y := zX5_isShake) dX5_isShake_4, wp_ldcw (y := zX5_isShake) kC5_277 dX5_isShake_5, wp_icmp_gt (y := zX5_isShake) 36 (by decide) dX5_isShake_8, wp_il1 (y := zX5_isShake) dX5_isShake_11, wp_iconst (y := zX5_isShake) (nI 1) ki_1 dX5_isShake_12, wp_icmp_lt (y := zX5_isShake) 36 (by decide) dX5_isShake_13, wp_il1 (y := zX5_isShake) dX5_isShake_16, wp_bipush (y := zX5_isShake) (nI 99) kb_99 dX5_isShake_17, wp_icmp_gt (y := zX5_isShake) 36 (by decide) dX5_isShake_19, h1, km5, h2, h3, h4, if_true, if_false]
    exact no (decide_eq_false (fun z => z (Or.inr (Or.inr (Or.inr (Or.inl h4))))))
  by_cases h5 : h < 0
  · simp (disch := first | omega | assumption) only [wp_il0 (y := zX5_isShake) dX5_isShake_0, wp_if_lt (y := zX5_isShake) 36 (by decide) dX5_isShake_1, wp_il0 (y := zX5_isShake) dX5_isShake_4, wp_ldcw (y := zX5_isShake) kC5_277 dX5_isShake_5, wp_icmp_gt (y := zX5_isShake) 36 (by decide) dX5_isShake_8, wp_il1 (y := zX5_isShake) dX5_isShake_11, wp_iconst (y := zX5_isShake) (nI 1) ki_1 dX5_isShake_12, wp_icmp_lt (y := zX5_isShake) 36 (by decide) dX5_isShake_13, wp_il1 (y := zX5_isShake) dX5_isShake_16, wp_bipush (y := zX5_isShake) (nI 99) kb_99 dX5_isShake_17, wp_icmp_gt (y := zX5_isShake) 36 (by decide) dX5_isShake_19, wp_il2 (y := zX5_isShake) dX5_isShake_22, wp_if_lt (y := zX5_isShake) 36 (by decide) dX5_isShake_23, h1, km5, h2, h3, h4, h5, if_true, if_false]
    exact no (decide_eq_false (fun z => z (Or.inr (Or.inr (Or.inr (Or.inr (Or.inl h5)))))))
  by_cases h6 : nI 99 < h
  · simp (disch := first | omega | assumption) only [wp_il0 (y := zX5_isShake) dX5_isShake_0, wp_if_lt (y := zX5_isShake) 36 (by decide) dX5_isShake_1, wp_il0 (y := zX5_isShake) dX5_isShake_4, wp_ldcw (y := zX5_isShake) kC5_277 dX5_isShake_5, wp_icmp_gt (y := zX5_isShake) 36 (by decide) dX5_isShake_8, wp_il1 (y := zX5_isShake) dX5_isShake_11, wp_iconst (y := zX5_isShake) (nI 1) ki_1 dX5_isShake_12, wp_icmp_lt (y := zX5_isShake) 36 (by decide) dX5_isShake_13, wp_il1 (y := zX5_isShake) dX5_isShake_16, wp_bipush (y := zX5_isShake) (nI 99) kb_99 dX5_isShake_17, wp_icmp_gt (y := zX5_isShake) 36 (by decide) dX5_isShake_19, wp_il2 (y := zX5_isShake) dX5_isShake_22, wp_if_lt (y := zX5_isShake) 36 (by decide) dX5_isShake_23, wp_il2 (y := zX5_isShake) dX5_isShake_26, wp_bipush (y := zX5_isShake) (nI 99) kb_99 dX5_isShake_27, wp_icmp_gt (y := zX5_isShake) 36 (by decide) dX5_isShake_29, h1, km5, h2, h3, h4, h5, h6, if_true, if_false]
    exact no (decide_eq_false (fun z => z (Or.inr (Or.inr (Or.inr (Or.inr (Or.inr h6)))))))
  have e : shk seed n h = true := decide_eq_true (by
    intro z
    rcases z with z | z | z | z | z | z
    · exact h1 z
    · exact h2 z
    · exact h3 z
    · exact h4 z
    · exact h5 z
    · exact h6 z)
  rw [e]
  simp (disch := first | omega | assumption) only [wp_il0 (y := zX5_isShake) dX5_isShake_0, wp_if_lt (y := zX5_isShake) 36 (by decide) dX5_isShake_1, wp_il0 (y := zX5_isShake) dX5_isShake_4, wp_ldcw (y := zX5_isShake) kC5_277 dX5_isShake_5, wp_icmp_gt (y := zX5_isShake) 36 (by decide) dX5_isShake_8, wp_il1 (y := zX5_isShake) dX5_isShake_11, wp_iconst (y := zX5_isShake) (nI 1) ki_1 dX5_isShake_12, wp_icmp_lt (y := zX5_isShake) 36 (by decide) dX5_isShake_13, wp_il1 (y := zX5_isShake) dX5_isShake_16, wp_bipush (y := zX5_isShake) (nI 99) kb_99 dX5_isShake_17, wp_icmp_gt (y := zX5_isShake) 36 (by decide) dX5_isShake_19, wp_il2 (y := zX5_isShake) dX5_isShake_22, wp_if_lt (y := zX5_isShake) 36 (by decide) dX5_isShake_23, wp_il2 (y := zX5_isShake) dX5_isShake_26, wp_bipush (y := zX5_isShake) (nI 99) kb_99 dX5_isShake_27, wp_icmp_gt (y := zX5_isShake) 36 (by decide) dX5_isShake_29, wp_iconst (y := zX5_isShake) (nI 1) ki_1 dX5_isShake_32, wp_goto (y := zX5_isShake) 37 (by decide) dX5_isShake_33, wp_iretz (y := zX5_isShake) rfl dX5_isShake_37, h1, km5, h2, h3, h4, h5, h6, if_true, if_false, n1_zz, true_and, and_true]
  rfl
theorem shk_of {seed n h : Int32} (e : shk seed n h = true) : ∃ a b c, seed = nI a ∧ a ≤ 999999 ∧ n = nI b ∧ 1 ≤ b ∧ b ≤ 99 ∧ h = nI c ∧ c ≤ 99 := by
  have z := of_decide_eq_true e
  obtain ⟨a, e1, _, a2⟩ := rng (x := seed) (a := 0) (b := 999999) (by decide) (by decide) (fun t => z (Or.inl (by rw [nI_0] at t; exact t))) (fun t => z (Or.inr (Or.inl t)))
  obtain ⟨b, e2, b1, b2⟩ := rng (x := n) (a := 1) (b := 99) (by decide) (by decide) (fun t => z (Or.inr (Or.inr (Or.inl t)))) (fun t => z (Or.inr (Or.inr (Or.inr (Or.inl t)))))
  obtain ⟨c, e3, _, c2⟩ := rng (x := h) (a := 0) (b := 99) (by decide) (by decide) (fun t => z (Or.inr (Or.inr (Or.inr (Or.inr (Or.inl (by rw [nI_0] at t; exact t))))))) (fun t => z (Or.inr (Or.inr (Or.inr (Or.inr (Or.inr t))))))
  exact ⟨a, b, c, e1, a2, e2, b1, b2, e3, c2⟩
theorem x_shake (X : XSh sh x f p q) (G : GoodX I) (R : RepF s μ f) (hI_ : I s.1) (seed n h : Int32) : cl sh zX5_shake [.ref x, .int seed, .int n, .int h] μ (RT I f (a_shake s seed n h)) := by
  obtain ⟨F, P, W, d1, d2⟩ := X.2
  have E1 : ∀ Q', cl sh zX5_isShake [.int seed, .int n, .int h] μ Q' = Q' (some (.int (bI (shk seed n h)))) μ := fun Q' => x_isShake seed n h
  show wp sh zX5_shake 0 [.ref x, .int seed, .int n, .int h] [] μ _
  unfold a_shake
  cases e : shk seed n h with
  | false =>
    rw [if_pos (Classical.not_not.mp (of_decide_eq_false e))]
    rw [e] at E1
    simp (disch := first | omega | assumption) only [mm_op_some, true_and, and_true, mm_rc_some, mm_rc_none, nI_xor, tw_xor, pk_mul, nI_add, mm_in_t, nI_clamp, ok0, ok1, ok2, ok3, ok4, n1_0, n0_0, n0_zz, n1_zz, bI_eq0, bI_ne0, bI_zz, nI_le_, nI_lt_, nI_eq_, nI_lt0, nI_ge0, nI_gt0, nI_le0, nI_eq0, m1_lt0, m1_ge0, if_true, if_false, not_true, not_false_eq_true, Classical.not_not, true_or, or_true, false_or, n1_1, k10, Bool.true_eq_false, Bool.false_eq_true, Nat.le_refl, and_self, and_false, false_and, or_self, or_false, hf_lt, ce_lt, hf_cl, ce_cl, i_irr, i_rfl, wp_il1 (y := zX5_shake) dX5_shake_0, wp_il2 (y := zX5_shake) dX5_shake_1, wp_il3 (y := zX5_shake) dX5_shake_2, wp_cs3 (y := zX5_shake) kM5_96 (by decide) dX5_shake_3, wp_if_ne (y := zX5_shake) 18 (by decide) dX5_shake_6, wp_al0 (y := zX5_shake) dX5_shake_9, wp_getf (y := zX5_shake) kF5_10 dX5_shake_10, wp_iconst (y := zX5_shake) ((-1)) ki_m1 dX5_shake_13, wp_cv1 (y := zX5_shake) kM5_38 (by decide) dX5_shake_14, (show yo zX1_refuse = 1 from rfl), X.oc, X.g0, X.g1, X.g2, F.oc, F.g0, F.g1, F.g2, F.g3, F.g4, F.g5, F.g6, F.g7, F.g8, F.g9, F.g10, E1]
    refine cl_mono (c_ref1 F R) ?_
    rintro r μ1 ⟨rfl, R1⟩
    simp (disch := first | omega | assumption) only [mm_op_some, true_and, and_true, mm_rc_some, mm_rc_none, nI_xor, tw_xor, pk_mul, nI_add, mm_in_t, nI_clamp, ok0, ok1, ok2, ok3, ok4, n1_0, n0_0, n0_zz, n1_zz, bI_eq0, bI_ne0, bI_zz, nI_le_, nI_lt_, nI_eq_, nI_lt0, nI_ge0, nI_gt0, nI_le0, nI_eq0, m1_lt0, m1_ge0, if_true, if_false, not_true, not_false_eq_true, Classical.not_not, true_or, or_true, false_or, n1_1, k10, Bool.true_eq_false, Bool.false_eq_true, Nat.le_refl, and_self, and_false, false_and, or_self, or_false, hf_lt, ce_lt, hf_cl, ce_cl, i_irr, i_rfl, wp_ireti (y := zX5_shake) rfl dX5_shake_17]
    exact ⟨rfl, R1, hI_⟩
  | true =>
    rw [if_neg (of_decide_eq_true e)]
    rw [e] at E1
    obtain ⟨a, b, c, rfl, a2, rfl, b1, b2, rfl, c2⟩ := shk_of e
    simp (disch := first | omega | assumption) only [mm_op_some, true_and, and_true, mm_rc_some, mm_rc_none, nI_xor, tw_xor, pk_mul, nI_add, mm_in_t, nI_clamp, ok0, ok1, ok2, ok3, ok4, n1_0, n0_0, n0_zz, n1_zz, bI_eq0, bI_ne0, bI_zz, nI_le_, nI_lt_, nI_eq_, nI_lt0, nI_ge0, nI_gt0, nI_le0, nI_eq0, m1_lt0, m1_ge0, if_true, if_false, not_true, not_false_eq_true, Classical.not_not, true_or, or_true, false_or, n1_1, k10, Bool.true_eq_false, Bool.false_eq_true, Nat.le_refl, and_self, and_false, false_and, or_self, or_false, hf_lt, ce_lt, hf_cl, ce_cl, i_irr, i_rfl, wp_il1 (y := zX5_shake) dX5_shake_0, wp_il2 (y := zX5_shake) dX5_shake_1, wp_il3 (y := zX5_shake) dX5_shake_2, wp_cs3 (y := zX5_shake) kM5_96 (by decide) dX5_shake_3, wp_if_ne (y := zX5_shake) 18 (by decide) dX5_shake_6, wp_al0 (y := zX5_shake) dX5_shake_18, wp_getf (y := zX5_shake) kF5_10 dX5_shake_19, wp_il1 (y := zX5_shake) dX5_shake_22, wp_il2 (y := zX5_shake) dX5_shake_23, wp_il3 (y := zX5_shake) dX5_shake_24, wp_cv3 (y := zX5_shake) kM5_100 (by decide) dX5_shake_25, (show yo zX1_jolt = 1 from rfl), X.oc, X.g0, X.g1, X.g2, F.oc, F.g0, F.g1, F.g2, F.g3, F.g4, F.g5, F.g6, F.g7, F.g8, F.g9, F.g10, E1]
    refine cl_mono (c_jolt F G.1 R hI_ a b (nI c) (by omega) (by omega)) ?_
    rintro r μ1 ⟨rfl, R1, _⟩
    simp (disch := first | omega | assumption) only [mm_op_some, true_and, and_true, mm_rc_some, mm_rc_none, nI_xor, tw_xor, pk_mul, nI_add, mm_in_t, nI_clamp, ok0, ok1, ok2, ok3, ok4, n1_0, n0_0, n0_zz, n1_zz, bI_eq0, bI_ne0, bI_zz, nI_le_, nI_lt_, nI_eq_, nI_lt0, nI_ge0, nI_gt0, nI_le0, nI_eq0, m1_lt0, m1_ge0, if_true, if_false, not_true, not_false_eq_true, Classical.not_not, true_or, or_true, false_or, n1_1, k10, Bool.true_eq_false, Bool.false_eq_true, Nat.le_refl, and_self, and_false, false_and, or_self, or_false, hf_lt, ce_lt, hf_cl, ce_cl, i_irr, i_rfl, wp_ireti (y := zX5_shake) rfl dX5_shake_28]
    exact ⟨rfl, R1.1, R1.2⟩
def a_relax (s : Fo) : Int32 × Fo := (nI (caF 1000000 0 s).1, (caF 1000000 0 s).2)
theorem x_relax (X : XSh sh x f p q) (G : GoodX I) (R : RepF s μ f) (hI_ : I s.1) : cl sh zX5_relax [.ref x] μ (RT I f (a_relax s)) := by
  obtain ⟨F, P, W, d1, d2⟩ := X.2
  show wp sh zX5_relax 0 [.ref x] [] μ _
  simp (disch := first | omega | assumption) only [mm_op_some, true_and, and_true, mm_rc_some, mm_rc_none, nI_xor, tw_xor, pk_mul, nI_add, mm_in_t, nI_clamp, ok0, ok1, ok2, ok3, ok4, n1_0, n0_0, n0_zz, n1_zz, bI_eq0, bI_ne0, bI_zz, nI_le_, nI_lt_, nI_eq_, nI_lt0, nI_ge0, nI_gt0, nI_le0, nI_eq0, m1_lt0, m1_ge0, if_true, if_false, not_true, not_false_eq_true, Classical.not_not, true_or, or_true, false_or, n1_1, k10, Bool.true_eq_false, Bool.false_eq_true, Nat.le_refl, and_self, and_false, false_and, or_self, or_false, hf_lt, ce_lt, hf_cl, ce_cl, i_irr, i_rfl, wp_al0 (y := zX5_relax) dX5_relax_0, wp_getf (y := zX5_relax) kF5_10 dX5_relax_1, wp_cv0 (y := zX5_relax) kM5_112 (by decide) dX5_relax_4, (show yo zX1_calm = 1 from rfl), X.oc, X.g0, X.g1, X.g2, F.oc, F.g0, F.g1, F.g2, F.g3, F.g4, F.g5, F.g6, F.g7, F.g8, F.g9, F.g10]
  refine cl_mono (c_calm F G.1 R hI_) ?_
  rintro r μ1 ⟨rfl, R1, _⟩
  simp (disch := first | omega | assumption) only [mm_op_some, true_and, and_true, mm_rc_some, mm_rc_none, nI_xor, tw_xor, pk_mul, nI_add, mm_in_t, nI_clamp, ok0, ok1, ok2, ok3, ok4, n1_0, n0_0, n0_zz, n1_zz, bI_eq0, bI_ne0, bI_zz, nI_le_, nI_lt_, nI_eq_, nI_lt0, nI_ge0, nI_gt0, nI_le0, nI_eq0, m1_lt0, m1_ge0, if_true, if_false, not_true, not_false_eq_true, Classical.not_not, true_or, or_true, false_or, n1_1, k10, Bool.true_eq_false, Bool.false_eq_true, Nat.le_refl, and_self, and_false, false_and, or_self, or_false, hf_lt, ce_lt, hf_cl, ce_cl, i_irr, i_rfl, wp_ireti (y := zX5_relax) rfl dX5_relax_7]
  exact ⟨rfl, R1.1, R1.2⟩
def a_steps (s : Fo) (n : Int32) : Int32 × Fo := if n < nI 1 ∨ nI 50 < n then (-1, fRf s 0) else ((goK n.toNatClampNeg s).2.2.2 7 + (goK n.toNatClampNeg s).2.2.2 8 - (s.2.2.2 7 + s.2.2.2 8), goK n.toNatClampNeg s)
theorem x_steps (X : XSh sh x f p q) (G : GoodX I) (R : RepF s μ f) (hI_ : I s.1) (n : Int32) : cl sh zX5_steps [.ref x, .int n] μ (RT I f (a_steps s n)) := by
  obtain ⟨F, P, W, d1, d2⟩ := X.2
  show wp sh zX5_steps 0 [.ref x, .int n, .null, .null] [] μ _
  unfold a_steps
  have bad : wp sh zX5_steps 11 [.ref x, .int n, .null, .null] [] μ (RT I f (-1, fRf s 0)) := by
    simp (disch := first | omega | assumption) only [mm_op_some, true_and, and_true, mm_rc_some, mm_rc_none, nI_xor, tw_xor, pk_mul, nI_add, mm_in_t, nI_clamp, ok0, ok1, ok2, ok3, ok4, n1_0, n0_0, n0_zz, n1_zz, bI_eq0, bI_ne0, bI_zz, nI_le_, nI_lt_, nI_eq_, nI_lt0, nI_ge0, nI_gt0, nI_le0, nI_eq0, m1_lt0, m1_ge0, if_true, if_false, not_true, not_false_eq_true, Classical.not_not, true_or, or_true, false_or, n1_1, k10, Bool.true_eq_false, Bool.false_eq_true, Nat.le_refl, and_self, and_false, false_and, or_self, or_false, hf_lt, ce_lt, hf_cl, ce_cl, i_irr, i_rfl, wp_al0 (y := zX5_steps) dX5_steps_11, wp_getf (y := zX5_steps) kF5_10 dX5_steps_12, wp_iconst (y := zX5_steps) ((-1)) ki_m1 dX5_steps_15, wp_cv1 (y := zX5_steps) kM5_38 (by decide) dX5_steps_16, (show yo zX1_refuse = 1 from rfl), X.oc, X.g0, X.g1, X.g2, F.oc, F.g0, F.g1, F.g2, F.g3, F.g4, F.g5, F.g6, F.g7, F.g8, F.g9, F.g10]
    refine cl_mono (c_ref1 F R) ?_
    rintro r μ1 ⟨rfl, R1⟩
    simp (disch := first | omega | assumption) only [mm_op_some, true_and, and_true, mm_rc_some, mm_rc_none, nI_xor, tw_xor, pk_mul, nI_add, mm_in_t, nI_clamp, ok0, ok1, ok2, ok3, ok4, n1_0, n0_0, n0_zz, n1_zz, bI_eq0, bI_ne0, bI_zz, nI_le_, nI_lt_, nI_eq_, nI_lt0, nI_ge0, nI_gt0, nI_le0, nI_eq0, m1_lt0, m1_ge0, if_true, if_false, not_true, not_false_eq_true, Classical.not_not, true_or, or_true, false_or, n1_1, k10, Bool.true_eq_false, Bool.false_eq_true, Nat.le_refl, and_self, and_false, false_and, or_self, or_false, hf_lt, ce_lt, hf_cl, ce_cl, i_irr, i_rfl, wp_ireti (y := zX5_steps) rfl dX5_steps_19]
    exact ⟨rfl, R1, hI_⟩
  by_cases h1 : n < nI 1
  · rw [if_pos (Or.inl h1)]
    simp (disch := first | omega | assumption) only [wp_il1 (y := zX5_steps) dX5_steps_0, wp_iconst (y := zX5_steps) (nI 1) ki_1 dX5_steps_1, wp_icmp_lt (y := zX5_steps) 11 (by decide) dX5_steps_2, h1, if_true]
    exact bad
  by_cases h2 : nI 50 < n
  · rw [if_pos (Or.inr h2)]
    have h5 : (n ≤ nI 50) = False := i_nle h2
    simp (disch := first | omega | assumption) only [wp_il1 (y := zX5_steps) dX5_steps_0, wp_iconst (y := zX5_steps) (nI 1) ki_1 dX5_steps_1, wp_icmp_lt (y := zX5_steps) 11 (by decide) dX5_steps_2, wp_il1 (y := zX5_steps) dX5_steps_5, wp_bipush (y := zX5_steps) (nI 50) kb_50 dX5_steps_6, wp_icmp_le (y := zX5_steps) 20 (by decide) dX5_steps_8, h1, h5, if_true, if_false]
    exact bad
  rw [if_neg (fun z => z.elim h1 h2)]
  have h5 : (n ≤ nI 50) = True := i_le h2
  simp (disch := first | omega | assumption) only [wp_il1 (y := zX5_steps) dX5_steps_0, wp_iconst (y := zX5_steps) (nI 1) ki_1 dX5_steps_1, wp_icmp_lt (y := zX5_steps) 11 (by decide) dX5_steps_2, wp_il1 (y := zX5_steps) dX5_steps_5, wp_bipush (y := zX5_steps) (nI 50) kb_50 dX5_steps_6, wp_icmp_le (y := zX5_steps) 20 (by decide) dX5_steps_8, h1, h5, if_true, if_false]
  obtain ⟨m, rfl, m1, m2⟩ := rng (by decide) (by decide) h1 h2
  rw [nI_clamp (by omega)]
  have r7 := R.2.2.2 7 (by omega) (by omega)
  have r8 := R.2.2.2 8 (by omega) (by omega)
  simp (disch := first | omega | assumption) only [mm_op_some, true_and, and_true, mm_rc_some, mm_rc_none, nI_xor, tw_xor, pk_mul, nI_add, mm_in_t, nI_clamp, ok0, ok1, ok2, ok3, ok4, n1_0, n0_0, n0_zz, n1_zz, bI_eq0, bI_ne0, bI_zz, nI_le_, nI_lt_, nI_eq_, nI_lt0, nI_ge0, nI_gt0, nI_le0, nI_eq0, m1_lt0, m1_ge0, if_true, if_false, not_true, not_false_eq_true, Classical.not_not, true_or, or_true, false_or, n1_1, k10, Bool.true_eq_false, Bool.false_eq_true, Nat.le_refl, and_self, and_false, false_and, or_self, or_false, hf_lt, ce_lt, hf_cl, ce_cl, i_irr, i_rfl, wp_al0 (y := zX5_steps) dX5_steps_20, wp_getf (y := zX5_steps) kF5_10 dX5_steps_21, wp_getf (y := zX5_steps) kF5_103 dX5_steps_24, wp_al0 (y := zX5_steps) dX5_steps_27, wp_getf (y := zX5_steps) kF5_10 dX5_steps_28, wp_getf (y := zX5_steps) kF5_106 dX5_steps_31, wp_iadd (y := zX5_steps) dX5_steps_34, wp_is2 (y := zX5_steps) dX5_steps_35, wp_iconst (y := zX5_steps) (nI 0) ki_0 dX5_steps_36, wp_is3 (y := zX5_steps) dX5_steps_37, X.oc, X.g0, X.g1, X.g2, F.oc, F.g0, F.g1, F.g2, F.g3, F.g4, F.g5, F.g6, F.g7, F.g8, F.g9, F.g10, r7, r8]
  refine lpI m (fun i μ1 => wp sh zX5_steps 38 [.ref x, .int (nI m), .int (s.2.2.2 7 + s.2.2.2 8), .int (nI i)] [] μ1 (RT I f ((goK m s).2.2.2 7 + (goK m s).2.2.2 8 - (s.2.2.2 7 + s.2.2.2 8), goK m s))) (fun i μ1 => RepF (goK i s) μ1 f ∧ I (goK i s).1) ?_ ?_ μ ⟨R, hI_⟩
  · rintro i μ2 hi ⟨R2, I2⟩ kk
    rw [goK_s] at kk
    have h9 : (m ≤ i) = False := eq_false (by omega)
    rw [wp_il3 (y := zX5_steps) dX5_steps_38]
    simp (disch := first | omega | assumption) only [mm_op_some, true_and, and_true, mm_rc_some, mm_rc_none, nI_xor, tw_xor, pk_mul, nI_add, mm_in_t, nI_clamp, ok0, ok1, ok2, ok3, ok4, n1_0, n0_0, n0_zz, n1_zz, bI_eq0, bI_ne0, bI_zz, nI_le_, nI_lt_, nI_eq_, nI_lt0, nI_ge0, nI_gt0, nI_le0, nI_eq0, m1_lt0, m1_ge0, if_true, if_false, not_true, not_false_eq_true, Classical.not_not, true_or, or_true, false_or, n1_1, k10, Bool.true_eq_false, Bool.false_eq_true, Nat.le_refl, and_self, and_false, false_and, or_self, or_false, hf_lt, ce_lt, hf_cl, ce_cl, i_irr, i_rfl, wp_il1 (y := zX5_steps) dX5_steps_39, wp_icmp_ge (y := zX5_steps) 56 (by decide) dX5_steps_40, wp_al0 (y := zX5_steps) dX5_steps_43, wp_getf (y := zX5_steps) kF5_10 dX5_steps_44, wp_cv0 (y := zX5_steps) kM5_109 (by decide) dX5_steps_47, (show yo zX1_goOn = 1 from rfl), X.oc, X.g0, X.g1, X.g2, F.oc, F.g0, F.g1, F.g2, F.g3, F.g4, F.g5, F.g6, F.g7, F.g8, F.g9, F.g10, h9]
    refine cl_mono (c_goOn F G.1 R2 I2) ?_
    rintro r μ3 ⟨rfl, R3, F3⟩
    simp (disch := first | omega | assumption) only [mm_op_some, true_and, and_true, mm_rc_some, mm_rc_none, nI_xor, tw_xor, pk_mul, nI_add, mm_in_t, nI_clamp, ok0, ok1, ok2, ok3, ok4, n1_0, n0_0, n0_zz, n1_zz, bI_eq0, bI_ne0, bI_zz, nI_le_, nI_lt_, nI_eq_, nI_lt0, nI_ge0, nI_gt0, nI_le0, nI_eq0, m1_lt0, m1_ge0, if_true, if_false, not_true, not_false_eq_true, Classical.not_not, true_or, or_true, false_or, n1_1, k10, Bool.true_eq_false, Bool.false_eq_true, Nat.le_refl, and_self, and_false, false_and, or_self, or_false, hf_lt, ce_lt, hf_cl, ce_cl, i_irr, i_rfl, wp_inc3 (y := zX5_steps) (nI 1) ki_1 dX5_steps_50, wp_goto (y := zX5_steps) 38 (by decide) dX5_steps_53]
    exact kk _ R3
  · rintro μ2 ⟨R2, I2⟩
    have q7 := R2.2.2.2 7 (by omega) (by omega)
    have q8 := R2.2.2.2 8 (by omega) (by omega)
    rw [wp_il3 (y := zX5_steps) dX5_steps_38]
    simp (disch := first | omega | assumption) only [mm_op_some, true_and, and_true, mm_rc_some, mm_rc_none, nI_xor, tw_xor, pk_mul, nI_add, mm_in_t, nI_clamp, ok0, ok1, ok2, ok3, ok4, n1_0, n0_0, n0_zz, n1_zz, bI_eq0, bI_ne0, bI_zz, nI_le_, nI_lt_, nI_eq_, nI_lt0, nI_ge0, nI_gt0, nI_le0, nI_eq0, m1_lt0, m1_ge0, if_true, if_false, not_true, not_false_eq_true, Classical.not_not, true_or, or_true, false_or, n1_1, k10, Bool.true_eq_false, Bool.false_eq_true, Nat.le_refl, and_self, and_false, false_and, or_self, or_false, hf_lt, ce_lt, hf_cl, ce_cl, i_irr, i_rfl, wp_il1 (y := zX5_steps) dX5_steps_39, wp_icmp_ge (y := zX5_steps) 56 (by decide) dX5_steps_40, wp_al0 (y := zX5_steps) dX5_steps_56, wp_getf (y := zX5_steps) kF5_10 dX5_steps_57, wp_getf (y := zX5_steps) kF5_103 dX5_steps_60, wp_al0 (y := zX5_steps) dX5_steps_63, wp_getf (y := zX5_steps) kF5_10 dX5_steps_64, wp_getf (y := zX5_steps) kF5_106 dX5_steps_67, wp_iadd (y := zX5_steps) dX5_steps_70, wp_il2 (y := zX5_steps) dX5_steps_71, wp_isub (y := zX5_steps) dX5_steps_72, wp_ireti (y := zX5_steps) rfl dX5_steps_73, X.oc, X.g0, X.g1, X.g2, F.oc, F.g0, F.g1, F.g2, F.g3, F.g4, F.g5, F.g6, F.g7, F.g8, F.g9, F.g10, q7, q8]
    exact ⟨rfl, R2, I2⟩
def a_wall (s : Fo) (c what : Int32) : Int32 := match waO s.1 c with
  | none => -1
  | some w => if what = nI 0 then imin (nI (ow s.1 (h0 w)).val) (nI (ow s.1 (h1 w)).val) else if what = nI 1 then imax (nI (ow s.1 (h0 w)).val) (nI (ow s.1 (h1 w)).val) else if what = nI 2 then imin (nI (en s.1 (h0 w)).val) (nI (en s.1 (h1 w)).val) else if what = nI 3 then imax (nI (en s.1 (h0 w)).val) (nI (en s.1 (h1 w)).val) else if what = nI 4 then ln s.1 w else if what = nI 5 then bI (can s.1 w) else if what = nI 6 then (if can s.1 w = true then nI 1000 + ease s.1 w else -1) else -1
theorem x_wall (X : XSh sh x f p q) (G : GoodX I) (R : RepF s μ f) (hI_ : I s.1) (c what : Int32) : cl sh zX5_wall [.ref x, .int c, .int what] μ (RT I f (a_wall s c what, s)) := by
  obtain ⟨F, P, W, d1, d2⟩ := X.2
  have S := F.2.1
  have Soc := S.oc
  obtain ⟨B, L⟩ := G.1.1 _ hI_
  obtain ⟨H, O⟩ := G.2.2.1 _ hI_
  show wp sh zX5_wall 0 [.ref x, .int c, .int what, .null, .null, .null, .null, .null] [] μ _
  unfold a_wall
  cases e : waO s.1 c with
  | none =>
    have E1 : ∀ Q', cl sh zX2_hasWall [.ref (f + 1), .int c] μ Q' = Q' (some (.int (nI 0))) μ := fun Q' => c_hasWallN S R.1 e
    simp (disch := first | omega | assumption) only [mm_op_some, true_and, and_true, mm_rc_some, mm_rc_none, nI_xor, tw_xor, pk_mul, nI_add, mm_in_t, nI_clamp, ok0, ok1, ok2, ok3, ok4, n1_0, n0_0, n0_zz, n1_zz, bI_eq0, bI_ne0, bI_zz, nI_le_, nI_lt_, nI_eq_, nI_lt0, nI_ge0, nI_gt0, nI_le0, nI_eq0, m1_lt0, m1_ge0, if_true, if_false, not_true, not_false_eq_true, Classical.not_not, true_or, or_true, false_or, n1_1, k10, Bool.true_eq_false, Bool.false_eq_true, Nat.le_refl, and_self, and_false, false_and, or_self, or_false, hf_lt, ce_lt, hf_cl, ce_cl, i_irr, i_rfl, wp_al0 (y := zX5_wall) dX5_wall_0, wp_getf (y := zX5_wall) kF5_10 dX5_wall_1, wp_getf (y := zX5_wall) kF5_46 dX5_wall_4, wp_il1 (y := zX5_wall) dX5_wall_7, wp_cv1 (y := zX5_wall) kM5_60 (by decide) dX5_wall_8, (show yo zX2_hasWall = 2 from rfl), wp_if_ne (y := zX5_wall) 16 (by decide) dX5_wall_11, wp_iconst (y := zX5_wall) ((-1)) ki_m1 dX5_wall_14, wp_ireti (y := zX5_wall) rfl dX5_wall_15, X.oc, X.g0, X.g1, X.g2, F.oc, F.g0, F.g1, F.g2, F.g3, F.g4, F.g5, F.g6, F.g7, F.g8, F.g9, F.g10, Soc, E1]
    exact ⟨rfl, R, hI_⟩
  | some k =>
    obtain ⟨rfl, hc⟩ := waO_some e
    have kb := k.isLt
    have E1 : ∀ Q', cl sh zX2_hasWall [.ref (f + 1), .int (nI k.val)] μ Q' = Q' (some (.int (nI 1))) μ := fun Q' => c_hasWallS S R.1 hc
    have l0 : lv s.1 (wl (h0 k)) = true := by rw [wl_h0]; exact hc
    have l1 : lv s.1 (wl (h1 k)) = true := by rw [wl_h1]; exact hc
    have o0 : μ (f + 1 + 1) (2 * k.val) = nI (ow s.1 (h0 k)).val := (R.1.1 _ l0).1
    have o1 : μ (f + 1 + 1) (2 * k.val + 1) = nI (ow s.1 (h1 k)).val := (R.1.1 _ l1).1
    have E3 : ∀ Q', cl sh zX2_endOf [.ref (f + 1), .int (nI (2 * k.val))] μ Q' = Q' (some (.int (nI (en s.1 (h0 k)).val))) μ := fun Q' => c_endOf S R.1 (h0 k) l0 (L _ l0)
    have E4 : ∀ Q', cl sh zX2_endOf [.ref (f + 1), .int (nI (2 * k.val + 1))] μ Q' = Q' (some (.int (nI (en s.1 (h1 k)).val))) μ := fun Q' => c_endOf S R.1 (h1 k) l1 (L _ l1)
    have E2 : ∀ Q', cl sh zX2_canFlip [.ref (f + 1), .int (nI k.val)] μ Q' = Q' (some (.int (bI (can s.1 k)))) μ := fun Q' => c_canFlip S R.1 B L k hc
    have E5 : ∀ Q', cl sh zX2_easing [.ref (f + 1), .int (nI k.val)] μ Q' = Q' (some (.int (ease s.1 k))) μ := fun Q' => c_easing S R.1 L k hc
    have rl := R.1.2.2.1 k hc
    have Emin : ∀ a c Q', cl sh zJ9_min_7cf53 [.int a, .int c] μ Q' = Q' (some (.int (imin a c))) μ := fun a c Q' => j_min a c
    have Emax : ∀ a c Q', cl sh zJ9_max_7cf53 [.int a, .int c] μ Q' = Q' (some (.int (imax a c))) μ := fun a c Q' => j_max a c
    have pre : ∀ QQ, wp sh zX5_wall 0 [.ref x, .int (nI k.val), .int what, .null, .null, .null, .null, .null] [] μ QQ = wp sh zX5_wall 67 [.ref x, .int (nI k.val), .int what, .ref (f + 1), .int (nI (ow s.1 (h0 k)).val), .int (nI (ow s.1 (h1 k)).val), .int (nI (en s.1 (h0 k)).val), .int (nI (en s.1 (h1 k)).val)] [.int what] μ QQ := by
      intro QQ
      simp (disch := first | omega | assumption) only [mm_op_some, true_and, and_true, mm_rc_some, mm_rc_none, nI_xor, tw_xor, pk_mul, nI_add, mm_in_t, nI_clamp, ok0, ok1, ok2, ok3, ok4, n1_0, n0_0, n0_zz, n1_zz, bI_eq0, bI_ne0, bI_zz, nI_le_, nI_lt_, nI_eq_, nI_lt0, nI_ge0, nI_gt0, nI_le0, nI_eq0, m1_lt0, m1_ge0, if_true, if_false, not_true, not_false_eq_true, Classical.not_not, true_or, or_true, false_or, n1_1, k10, Bool.true_eq_false, Bool.false_eq_true, Nat.le_refl, and_self, and_false, false_and, or_self, or_false, hf_lt, ce_lt, hf_cl, ce_cl, i_irr, i_rfl, wp_al0 (y := zX5_wall) dX5_wall_0, wp_getf (y := zX5_wall) kF5_10 dX5_wall_1, wp_getf (y := zX5_wall) kF5_46 dX5_wall_4, wp_il1 (y := zX5_wall) dX5_wall_7, wp_cv1 (y := zX5_wall) kM5_60 (by decide) dX5_wall_8, (show yo zX2_hasWall = 2 from rfl), wp_if_ne (y := zX5_wall) 16 (by decide) dX5_wall_11, wp_al0 (y := zX5_wall) dX5_wall_16, wp_getf (y := zX5_wall) kF5_10 dX5_wall_17, wp_getf (y := zX5_wall) kF5_46 dX5_wall_20, wp_as3 (y := zX5_wall) dX5_wall_23, wp_al3 (y := zX5_wall) dX5_wall_24, wp_getf (y := zX5_wall) kF5_148 dX5_wall_25, wp_iconst (y := zX5_wall) (nI 2) ki_2 dX5_wall_28, wp_il1 (y := zX5_wall) dX5_wall_29, wp_imul (y := zX5_wall) dX5_wall_30, wp_iald (y := zX5_wall) dX5_wall_31, wp_is4 (y := zX5_wall) dX5_wall_32, wp_al3 (y := zX5_wall) dX5_wall_34, wp_getf (y := zX5_wall) kF5_148 dX5_wall_35, wp_iconst (y := zX5_wall) (nI 2) ki_2 dX5_wall_38, wp_il1 (y := zX5_wall) dX5_wall_39, wp_imul (y := zX5_wall) dX5_wall_40, wp_iconst (y := zX5_wall) (nI 1) ki_1 dX5_wall_41, wp_iadd (y := zX5_wall) dX5_wall_42, wp_iald (y := zX5_wall) dX5_wall_43, wp_is5 (y := zX5_wall) dX5_wall_44, wp_al3 (y := zX5_wall) dX5_wall_46, wp_iconst (y := zX5_wall) (nI 2) ki_2 dX5_wall_47, wp_il1 (y := zX5_wall) dX5_wall_48, wp_imul (y := zX5_wall) dX5_wall_49, wp_cv1 (y := zX5_wall) kM5_145 (by decide) dX5_wall_50, (show yo zX2_endOf = 2 from rfl), wp_is6 (y := zX5_wall) dX5_wall_53, wp_al3 (y := zX5_wall) dX5_wall_55, wp_iconst (y := zX5_wall) (nI 2) ki_2 dX5_wall_56, wp_il1 (y := zX5_wall) dX5_wall_57, wp_imul (y := zX5_wall) dX5_wall_58, wp_iconst (y := zX5_wall) (nI 1) ki_1 dX5_wall_59, wp_iadd (y := zX5_wall) dX5_wall_60, wp_cv1 (y := zX5_wall) kM5_145 (by decide) dX5_wall_61, (show yo zX2_endOf = 2 from rfl), wp_is7 (y := zX5_wall) dX5_wall_64, wp_il2 (y := zX5_wall) dX5_wall_66, X.oc, X.g0, X.g1, X.g2, F.oc, F.g0, F.g1, F.g2, F.g3, F.g4, F.g5, F.g6, F.g7, F.g8, F.g9, F.g10, S.oc, S.g0, S.g1, S.g2, S.g3, S.g4, S.g5, S.g6, S.g7, S.a1, S.a2, S.a3, S.a4, S.a5, S.a6, S.a7, S.a8, E1, E3, E4, o0, o1]
    rw [pre]
    dsimp only
    by_cases w0 : what = nI 0
    · subst w0
      rw [if_pos rfl, wp_tsIn (y := zX5_wall) 108 dX5_wall_67 (by decide) rfl (by decide)]
      simp (disch := first | omega | assumption) only [mm_op_some, true_and, and_true, mm_rc_some, mm_rc_none, nI_xor, tw_xor, pk_mul, nI_add, mm_in_t, nI_clamp, ok0, ok1, ok2, ok3, ok4, n1_0, n0_0, n0_zz, n1_zz, bI_eq0, bI_ne0, bI_zz, nI_le_, nI_lt_, nI_eq_, nI_lt0, nI_ge0, nI_gt0, nI_le0, nI_eq0, m1_lt0, m1_ge0, if_true, if_false, not_true, not_false_eq_true, Classical.not_not, true_or, or_true, false_or, n1_1, k10, Bool.true_eq_false, Bool.false_eq_true, Nat.le_refl, and_self, and_false, false_and, or_self, or_false, hf_lt, ce_lt, hf_cl, ce_cl, i_irr, i_rfl, wp_il4 (y := zX5_wall) dX5_wall_108, wp_il5 (y := zX5_wall) dX5_wall_110, wp_cs2 (y := zX5_wall) kM5_151 (by decide) dX5_wall_112, wp_ireti (y := zX5_wall) rfl dX5_wall_115, X.oc, X.g0, X.g1, X.g2, F.oc, F.g0, F.g1, F.g2, F.g3, F.g4, F.g5, F.g6, F.g7, F.g8, F.g9, F.g10, S.oc, S.g0, S.g1, S.g2, S.g3, S.g4, S.g5, S.g6, S.g7, S.a1, S.a2, S.a3, S.a4, S.a5, S.a6, S.a7, S.a8, Emin]
      exact RT_mk R hI_
    · rw [if_neg w0]
      by_cases w1 : what = nI 1
      · subst w1
        rw [if_pos rfl, wp_tsIn (y := zX5_wall) 116 dX5_wall_67 (by decide) rfl (by decide)]
        simp (disch := first | omega | assumption) only [mm_op_some, true_and, and_true, mm_rc_some, mm_rc_none, nI_xor, tw_xor, pk_mul, nI_add, mm_in_t, nI_clamp, ok0, ok1, ok2, ok3, ok4, n1_0, n0_0, n0_zz, n1_zz, bI_eq0, bI_ne0, bI_zz, nI_le_, nI_lt_, nI_eq_, nI_lt0, nI_ge0, nI_gt0, nI_le0, nI_eq0, m1_lt0, m1_ge0, if_true, if_false, not_true, not_false_eq_true, Classical.not_not, true_or, or_true, false_or, n1_1, k10, Bool.true_eq_false, Bool.false_eq_true, Nat.le_refl, and_self, and_false, false_and, or_self, or_false, hf_lt, ce_lt, hf_cl, ce_cl, i_irr, i_rfl, wp_il4 (y := zX5_wall) dX5_wall_116, wp_il5 (y := zX5_wall) dX5_wall_118, wp_cs2 (y := zX5_wall) kM5_156 (by decide) dX5_wall_120, wp_ireti (y := zX5_wall) rfl dX5_wall_123, X.oc, X.g0, X.g1, X.g2, F.oc, F.g0, F.g1, F.g2, F.g3, F.g4, F.g5, F.g6, F.g7, F.g8, F.g9, F.g10, S.oc, S.g0, S.g1, S.g2, S.g3, S.g4, S.g5, S.g6, S.g7, S.a1, S.a2, S.a3, S.a4, S.a5, S.a6, S.a7, S.a8, Emax]
        exact RT_mk R hI_
      · rw [if_neg w1]
        by_cases w2 : what = nI 2
        · subst w2
          rw [if_pos rfl, wp_tsIn (y := zX5_wall) 124 dX5_wall_67 (by decide) rfl (by decide)]
          simp (disch := first | omega | assumption) only [mm_op_some, true_and, and_true, mm_rc_some, mm_rc_none, nI_xor, tw_xor, pk_mul, nI_add, mm_in_t, nI_clamp, ok0, ok1, ok2, ok3, ok4, n1_0, n0_0, n0_zz, n1_zz, bI_eq0, bI_ne0, bI_zz, nI_le_, nI_lt_, nI_eq_, nI_lt0, nI_ge0, nI_gt0, nI_le0, nI_eq0, m1_lt0, m1_ge0, if_true, if_false, not_true, not_false_eq_true, Classical.not_not, true_or, or_true, false_or, n1_1, k10, Bool.true_eq_false, Bool.false_eq_true, Nat.le_refl, and_self, and_false, false_and, or_self, or_false, hf_lt, ce_lt, hf_cl, ce_cl, i_irr, i_rfl, wp_il6 (y := zX5_wall) dX5_wall_124, wp_il7 (y := zX5_wall) dX5_wall_126, wp_cs2 (y := zX5_wall) kM5_151 (by decide) dX5_wall_128, wp_ireti (y := zX5_wall) rfl dX5_wall_131, X.oc, X.g0, X.g1, X.g2, F.oc, F.g0, F.g1, F.g2, F.g3, F.g4, F.g5, F.g6, F.g7, F.g8, F.g9, F.g10, S.oc, S.g0, S.g1, S.g2, S.g3, S.g4, S.g5, S.g6, S.g7, S.a1, S.a2, S.a3, S.a4, S.a5, S.a6, S.a7, S.a8, Emin]
          exact RT_mk R hI_
        · rw [if_neg w2]
          by_cases w3 : what = nI 3
          · subst w3
            rw [if_pos rfl, wp_tsIn (y := zX5_wall) 132 dX5_wall_67 (by decide) rfl (by decide)]
            simp (disch := first | omega | assumption) only [mm_op_some, true_and, and_true, mm_rc_some, mm_rc_none, nI_xor, tw_xor, pk_mul, nI_add, mm_in_t, nI_clamp, ok0, ok1, ok2, ok3, ok4, n1_0, n0_0, n0_zz, n1_zz, bI_eq0, bI_ne0, bI_zz, nI_le_, nI_lt_, nI_eq_, nI_lt0, nI_ge0, nI_gt0, nI_le0, nI_eq0, m1_lt0, m1_ge0, if_true, if_false, not_true, not_false_eq_true, Classical.not_not, true_or, or_true, false_or, n1_1, k10, Bool.true_eq_false, Bool.false_eq_true, Nat.le_refl, and_self, and_false, false_and, or_self, or_false, hf_lt, ce_lt, hf_cl, ce_cl, i_irr, i_rfl, wp_il6 (y := zX5_wall) dX5_wall_132, wp_il7 (y := zX5_wall) dX5_wall_134, wp_cs2 (y := zX5_wall) kM5_156 (by decide) dX5_wall_136, wp_ireti (y := zX5_wall) rfl dX5_wall_139, X.oc, X.g0, X.g1, X.g2, F.oc, F.g0, F.g1, F.g2, F.g3, F.g4, F.g5, F.g6, F.g7, F.g8, F.g9, F.g10, S.oc, S.g0, S.g1, S.g2, S.g3, S.g4, S.g5, S.g6, S.g7, S.a1, S.a2, S.a3, S.a4, S.a5, S.a6, S.a7, S.a8, Emax]
            exact RT_mk R hI_
          · rw [if_neg w3]
            by_cases w4 : what = nI 4
            · subst w4
              rw [if_pos rfl, wp_tsIn (y := zX5_wall) 140 dX5_wall_67 (by decide) rfl (by decide)]
              simp (disch := first | omega | assumption) only [mm_op_some, true_and, and_true, mm_rc_some, mm_rc_none, nI_xor, tw_xor, pk_mul, nI_add, mm_in_t, nI_clamp, ok0, ok1, ok2, ok3, ok4, n1_0, n0_0, n0_zz, n1_zz, bI_eq0, bI_ne0, bI_zz, nI_le_, nI_lt_, nI_eq_, nI_lt0, nI_ge0, nI_gt0, nI_le0, nI_eq0, m1_lt0, m1_ge0, if_true, if_false, not_true, not_false_eq_true, Classical.not_not, true_or, or_true, false_or, n1_1, k10, Bool.true_eq_false, Bool.false_eq_true, Nat.le_refl, and_self, and_false, false_and, or_self, or_false, hf_lt, ce_lt, hf_cl, ce_cl, i_irr, i_rfl, wp_al3 (y := zX5_wall) dX5_wall_140, wp_getf (y := zX5_wall) kF5_63 dX5_wall_141, wp_il1 (y := zX5_wall) dX5_wall_144, wp_iald (y := zX5_wall) dX5_wall_145, wp_ireti (y := zX5_wall) rfl dX5_wall_146, X.oc, X.g0, X.g1, X.g2, F.oc, F.g0, F.g1, F.g2, F.g3, F.g4, F.g5, F.g6, F.g7, F.g8, F.g9, F.g10, S.oc, S.g0, S.g1, S.g2, S.g3, S.g4, S.g5, S.g6, S.g7, S.a1, S.a2, S.a3, S.a4, S.a5, S.a6, S.a7, S.a8, rl, wa_lt, wa_cl]
              exact RT_mk R hI_
            · rw [if_neg w4]
              by_cases w5 : what = nI 5
              · subst w5
                rw [if_pos rfl, wp_tsIn (y := zX5_wall) 147 dX5_wall_67 (by decide) rfl (by decide)]
                cases ec : can s.1 k with
                | true =>
                  rw [ec] at E2
                  simp (disch := first | omega | assumption) only [mm_op_some, true_and, and_true, mm_rc_some, mm_rc_none, nI_xor, tw_xor, pk_mul, nI_add, mm_in_t, nI_clamp, ok0, ok1, ok2, ok3, ok4, n1_0, n0_0, n0_zz, n1_zz, bI_eq0, bI_ne0, bI_zz, nI_le_, nI_lt_, nI_eq_, nI_lt0, nI_ge0, nI_gt0, nI_le0, nI_eq0, m1_lt0, m1_ge0, if_true, if_false, not_true, not_false_eq_true, Classical.not_not, true_or, or_true, false_or, n1_1, k10, Bool.true_eq_false, Bool.false_eq_true, Nat.le_refl, and_self, and_false, false_and, or_self, or_false, hf_lt, ce_lt, hf_cl, ce_cl, i_irr, i_rfl, wp_al3 (y := zX5_wall) dX5_wall_147, wp_il1 (y := zX5_wall) dX5_wall_148, wp_cv1 (y := zX5_wall) kM5_66 (by decide) dX5_wall_149, (show yo zX2_canFlip = 2 from rfl), wp_if_eq (y := zX5_wall) 159 (by decide) dX5_wall_152, wp_iconst (y := zX5_wall) (nI 1) ki_1 dX5_wall_155, wp_goto (y := zX5_wall) 160 (by decide) dX5_wall_156, wp_iconst (y := zX5_wall) (nI 0) ki_0 dX5_wall_159, wp_ireti (y := zX5_wall) rfl dX5_wall_160, X.oc, X.g0, X.g1, X.g2, F.oc, F.g0, F.g1, F.g2, F.g3, F.g4, F.g5, F.g6, F.g7, F.g8, F.g9, F.g10, S.oc, S.g0, S.g1, S.g2, S.g3, S.g4, S.g5, S.g6, S.g7, S.a1, S.a2, S.a3, S.a4, S.a5, S.a6, S.a7, S.a8, E2, E5]
                  exact ⟨rfl, R, hI_⟩
                | false =>
                  rw [ec] at E2
                  simp (disch := first | omega | assumption) only [mm_op_some, true_and, and_true, mm_rc_some, mm_rc_none, nI_xor, tw_xor, pk_mul, nI_add, mm_in_t, nI_clamp, ok0, ok1, ok2, ok3, ok4, n1_0, n0_0, n0_zz, n1_zz, bI_eq0, bI_ne0, bI_zz, nI_le_, nI_lt_, nI_eq_, nI_lt0, nI_ge0, nI_gt0, nI_le0, nI_eq0, m1_lt0, m1_ge0, if_true, if_false, not_true, not_false_eq_true, Classical.not_not, true_or, or_true, false_or, n1_1, k10, Bool.true_eq_false, Bool.false_eq_true, Nat.le_refl, and_self, and_false, false_and, or_self, or_false, hf_lt, ce_lt, hf_cl, ce_cl, i_irr, i_rfl, wp_al3 (y := zX5_wall) dX5_wall_147, wp_il1 (y := zX5_wall) dX5_wall_148, wp_cv1 (y := zX5_wall) kM5_66 (by decide) dX5_wall_149, (show yo zX2_canFlip = 2 from rfl), wp_if_eq (y := zX5_wall) 159 (by decide) dX5_wall_152, wp_iconst (y := zX5_wall) (nI 1) ki_1 dX5_wall_155, wp_goto (y := zX5_wall) 160 (by decide) dX5_wall_156, wp_iconst (y := zX5_wall) (nI 0) ki_0 dX5_wall_159, wp_ireti (y := zX5_wall) rfl dX5_wall_160, X.oc, X.g0, X.g1, X.g2, F.oc, F.g0, F.g1, F.g2, F.g3, F.g4, F.g5, F.g6, F.g7, F.g8, F.g9, F.g10, S.oc, S.g0, S.g1, S.g2, S.g3, S.g4, S.g5, S.g6, S.g7, S.a1, S.a2, S.a3, S.a4, S.a5, S.a6, S.a7, S.a8, E2, E5]
                  exact ⟨rfl, R, hI_⟩
              · rw [if_neg w5]
                by_cases w6 : what = nI 6
                · subst w6
                  rw [if_pos rfl, wp_tsIn (y := zX5_wall) 161 dX5_wall_67 (by decide) rfl (by decide)]
                  cases ec : can s.1 k with
                  | true =>
                    rw [ec] at E2
                    simp (disch := first | omega | assumption) only [mm_op_some, true_and, and_true, mm_rc_some, mm_rc_none, nI_xor, tw_xor, pk_mul, nI_add, mm_in_t, nI_clamp, ok0, ok1, ok2, ok3, ok4, n1_0, n0_0, n0_zz, n1_zz, bI_eq0, bI_ne0, bI_zz, nI_le_, nI_lt_, nI_eq_, nI_lt0, nI_ge0, nI_gt0, nI_le0, nI_eq0, m1_lt0, m1_ge0, if_true, if_false, not_true, not_false_eq_true, Classical.not_not, true_or, or_true, false_or, n1_1, k10, Bool.true_eq_false, Bool.false_eq_true, Nat.le_refl, and_self, and_false, false_and, or_self, or_false, hf_lt, ce_lt, hf_cl, ce_cl, i_irr, i_rfl, wp_al3 (y := zX5_wall) dX5_wall_161, wp_il1 (y := zX5_wall) dX5_wall_162, wp_cv1 (y := zX5_wall) kM5_66 (by decide) dX5_wall_163, (show yo zX2_canFlip = 2 from rfl), wp_if_eq (y := zX5_wall) 181 (by decide) dX5_wall_166, wp_sipush (y := zX5_wall) (nI 1000) ks_1000 dX5_wall_169, wp_al3 (y := zX5_wall) dX5_wall_172, wp_il1 (y := zX5_wall) dX5_wall_173, wp_cv1 (y := zX5_wall) kM5_69 (by decide) dX5_wall_174, (show yo zX2_easing = 2 from rfl), wp_iadd (y := zX5_wall) dX5_wall_177, wp_goto (y := zX5_wall) 182 (by decide) dX5_wall_178, wp_iconst (y := zX5_wall) ((-1)) ki_m1 dX5_wall_181, wp_ireti (y := zX5_wall) rfl dX5_wall_182, X.oc, X.g0, X.g1, X.g2, F.oc, F.g0, F.g1, F.g2, F.g3, F.g4, F.g5, F.g6, F.g7, F.g8, F.g9, F.g10, S.oc, S.g0, S.g1, S.g2, S.g3, S.g4, S.g5, S.g6, S.g7, S.a1, S.a2, S.a3, S.a4, S.a5, S.a6, S.a7, S.a8, E2, E5]
                    exact ⟨rfl, R, hI_⟩
                  | false =>
                    rw [ec] at E2
                    simp (disch := first | omega | assumption) only [mm_op_some, true_and, and_true, mm_rc_some, mm_rc_none, nI_xor, tw_xor, pk_mul, nI_add, mm_in_t, nI_clamp, ok0, ok1, ok2, ok3, ok4, n1_0, n0_0, n0_zz, n1_zz, bI_eq0, bI_ne0, bI_zz, nI_le_, nI_lt_, nI_eq_, nI_lt0, nI_ge0, nI_gt0, nI_le0, nI_eq0, m1_lt0, m1_ge0, if_true, if_false, not_true, not_false_eq_true, Classical.not_not, true_or, or_true, false_or, n1_1, k10, Bool.true_eq_false, Bool.false_eq_true, Nat.le_refl, and_self, and_false, false_and, or_self, or_false, hf_lt, ce_lt, hf_cl, ce_cl, i_irr, i_rfl, wp_al3 (y := zX5_wall) dX5_wall_161, wp_il1 (y := zX5_wall) dX5_wall_162, wp_cv1 (y := zX5_wall) kM5_66 (by decide) dX5_wall_163, (show yo zX2_canFlip = 2 from rfl), wp_if_eq (y := zX5_wall) 181 (by decide) dX5_wall_166, wp_sipush (y := zX5_wall) (nI 1000) ks_1000 dX5_wall_169, wp_al3 (y := zX5_wall) dX5_wall_172, wp_il1 (y := zX5_wall) dX5_wall_173, wp_cv1 (y := zX5_wall) kM5_69 (by decide) dX5_wall_174, (show yo zX2_easing = 2 from rfl), wp_iadd (y := zX5_wall) dX5_wall_177, wp_goto (y := zX5_wall) 182 (by decide) dX5_wall_178, wp_iconst (y := zX5_wall) ((-1)) ki_m1 dX5_wall_181, wp_ireti (y := zX5_wall) rfl dX5_wall_182, X.oc, X.g0, X.g1, X.g2, F.oc, F.g0, F.g1, F.g2, F.g3, F.g4, F.g5, F.g6, F.g7, F.g8, F.g9, F.g10, S.oc, S.g0, S.g1, S.g2, S.g3, S.g4, S.g5, S.g6, S.g7, S.a1, S.a2, S.a3, S.a4, S.a5, S.a6, S.a7, S.a8, E2, E5]
                    exact ⟨rfl, R, hI_⟩
                · rw [if_neg w6]
                  rw [wp_tsOut (y := zX5_wall) 183 dX5_wall_67 (by decide) (by
                      have a0 := int_ne w0
                      rw [show (nI 0).toInt = 0 from rfl] at a0
                      have a1 := int_ne w1
                      rw [show (nI 1).toInt = 1 from rfl] at a1
                      have a2 := int_ne w2
                      rw [show (nI 2).toInt = 2 from rfl] at a2
                      have a3 := int_ne w3
                      rw [show (nI 3).toInt = 3 from rfl] at a3
                      have a4 := int_ne w4
                      rw [show (nI 4).toInt = 4 from rfl] at a4
                      have a5 := int_ne w5
                      rw [show (nI 5).toInt = 5 from rfl] at a5
                      have a6 := int_ne w6
                      rw [show (nI 6).toInt = 6 from rfl] at a6
                      omega)]
                  simp (disch := first | omega | assumption) only [mm_op_some, true_and, and_true, mm_rc_some, mm_rc_none, nI_xor, tw_xor, pk_mul, nI_add, mm_in_t, nI_clamp, ok0, ok1, ok2, ok3, ok4, n1_0, n0_0, n0_zz, n1_zz, bI_eq0, bI_ne0, bI_zz, nI_le_, nI_lt_, nI_eq_, nI_lt0, nI_ge0, nI_gt0, nI_le0, nI_eq0, m1_lt0, m1_ge0, if_true, if_false, not_true, not_false_eq_true, Classical.not_not, true_or, or_true, false_or, n1_1, k10, Bool.true_eq_false, Bool.false_eq_true, Nat.le_refl, and_self, and_false, false_and, or_self, or_false, hf_lt, ce_lt, hf_cl, ce_cl, i_irr, i_rfl, wp_iconst (y := zX5_wall) ((-1)) ki_m1 dX5_wall_183, wp_ireti (y := zX5_wall) rfl dX5_wall_184, X.oc, X.g0, X.g1, X.g2, F.oc, F.g0, F.g1, F.g2, F.g3, F.g4, F.g5, F.g6, F.g7, F.g8, F.g9, F.g10, S.oc, S.g0, S.g1, S.g2, S.g3, S.g4, S.g5, S.g6, S.g7, S.a1, S.a2, S.a3, S.a4, S.a5, S.a6, S.a7, S.a8]
                  exact RT_mk R hI_
end X5C
