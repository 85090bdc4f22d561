section X5E
variable {sh : mm_Sh} {x f p q b : Nat} {μ : mm_U} {M : Ms} {s : Fo} {I : Ms → Prop} {Q : Option Value → mm_U → Prop}
def cdI : Nat → Int32 → Int32 → Int32
  | 0, a, _ => a
  | f + 1, a, b => if 0 < b then cdI f b (a - a / b * b) else a
theorem cd_loop (a0 b0 : Int32) : ∀ (d k : Nat) (a b : Int32) (v : Value), k + d = 100 → wp sh zX5_commonDivisor 7 [.int a0, .int b0, .int a, .int b, .int (nI k), v] [] μ Q = Q (some (.int (cdI d a b))) μ := by
  intro d
  induction d with
  | zero =>
    intro k a b v hk
    have h9 : (100 ≤ k) = True := eq_true (by omega)
    rw [wp_il4 (y := zX5_commonDivisor) dX5_commonDivisor_7]
    simp (disch := first | omega | assumption) only [mm_op_some, true_and, and_true, mm_rc_some, mm_rc_none, nI_xor, tw_xor, pk_mul, nI_add, mm_in_t, nI_clamp, ok0, ok1, ok2, ok3, ok4, n1_0, n0_0, n0_zz, n1_zz, bI_eq0, bI_ne0, bI_zz, nI_le_, nI_lt_, nI_eq_, nI_lt0, nI_ge0, nI_gt0, nI_le0, nI_eq0, m1_lt0, m1_ge0, if_true, if_false, not_true, not_false_eq_true, Classical.not_not, true_or, or_true, false_or, n1_1, k10, Bool.true_eq_false, Bool.false_eq_true, Nat.le_refl, and_self, and_false, false_and, or_self, or_false, hf_lt, ce_lt, hf_cl, ce_cl, i_irr, i_rfl, wp_bipush (y := zX5_commonDivisor) (nI 100) kb_100 dX5_commonDivisor_9, wp_icmp_ge (y := zX5_commonDivisor) 34 (by decide) dX5_commonDivisor_11, wp_il2 (y := zX5_commonDivisor) dX5_commonDivisor_34, wp_ireti (y := zX5_commonDivisor) rfl dX5_commonDivisor_35, h9]
    rfl
  | succ d ih =>
    intro k a b v hk
    have h9 : (100 ≤ k) = False := eq_false (by omega)
    rw [wp_il4 (y := zX5_commonDivisor) dX5_commonDivisor_7]
    unfold cdI
    by_cases hb : 0 < b
    · have hb' : (b ≤ 0) = False := i_nle hb
      have h0 : ¬ b = 0 := fun z => by rw [z] at hb; exact absurd hb (by decide)
      rw [if_pos hb]
      simp (disch := first | omega | assumption) only [mm_op_some, true_and, and_true, mm_rc_some, mm_rc_none, nI_xor, tw_xor, pk_mul, nI_add, mm_in_t, nI_clamp, ok0, ok1, ok2, ok3, ok4, n1_0, n0_0, n0_zz, n1_zz, bI_eq0, bI_ne0, bI_zz, nI_le_, nI_lt_, nI_eq_, nI_lt0, nI_ge0, nI_gt0, nI_le0, nI_eq0, m1_lt0, m1_ge0, if_true, if_false, not_true, not_false_eq_true, Classical.not_not, true_or, or_true, false_or, n1_1, k10, Bool.true_eq_false, Bool.false_eq_true, Nat.le_refl, and_self, and_false, false_and, or_self, or_false, hf_lt, ce_lt, hf_cl, ce_cl, i_irr, i_rfl, wp_bipush (y := zX5_commonDivisor) (nI 100) kb_100 dX5_commonDivisor_9, wp_icmp_ge (y := zX5_commonDivisor) 34 (by decide) dX5_commonDivisor_11, wp_il3 (y := zX5_commonDivisor) dX5_commonDivisor_14, wp_if_le (y := zX5_commonDivisor) 34 (by decide) dX5_commonDivisor_15, wp_il2 (y := zX5_commonDivisor) dX5_commonDivisor_18, wp_il3 (y := zX5_commonDivisor) dX5_commonDivisor_19, wp_irem' (y := zX5_commonDivisor) dX5_commonDivisor_20, wp_is5 (y := zX5_commonDivisor) dX5_commonDivisor_21, wp_il3 (y := zX5_commonDivisor) dX5_commonDivisor_23, wp_is2 (y := zX5_commonDivisor) dX5_commonDivisor_24, wp_il5 (y := zX5_commonDivisor) dX5_commonDivisor_25, wp_is3 (y := zX5_commonDivisor) dX5_commonDivisor_27, wp_inc4 (y := zX5_commonDivisor) (nI 1) ki_1 dX5_commonDivisor_28, wp_goto (y := zX5_commonDivisor) 7 (by decide) dX5_commonDivisor_31, h9, hb']
      exact ih (k + 1) _ _ _ (by omega)
    · have hb' : (b ≤ 0) = True := i_le hb
      rw [if_neg hb]
      simp (disch := first | omega | assumption) only [mm_op_some, true_and, and_true, mm_rc_some, mm_rc_none, nI_xor, tw_xor, pk_mul, nI_add, mm_in_t, nI_clamp, ok0, ok1, ok2, ok3, ok4, n1_0, n0_0, n0_zz, n1_zz, bI_eq0, bI_ne0, bI_zz, nI_le_, nI_lt_, nI_eq_, nI_lt0, nI_ge0, nI_gt0, nI_le0, nI_eq0, m1_lt0, m1_ge0, if_true, if_false, not_true, not_false_eq_true, Classical.not_not, true_or, or_true, false_or, n1_1, k10, Bool.true_eq_false, Bool.false_eq_true, Nat.le_refl, and_self, and_false, false_and, or_self, or_false, hf_lt, ce_lt, hf_cl, ce_cl, i_irr, i_rfl, wp_bipush (y := zX5_commonDivisor) (nI 100) kb_100 dX5_commonDivisor_9, wp_icmp_ge (y := zX5_commonDivisor) 34 (by decide) dX5_commonDivisor_11, wp_il3 (y := zX5_commonDivisor) dX5_commonDivisor_14, wp_if_le (y := zX5_commonDivisor) 34 (by decide) dX5_commonDivisor_15, wp_il2 (y := zX5_commonDivisor) dX5_commonDivisor_34, wp_ireti (y := zX5_commonDivisor) rfl dX5_commonDivisor_35, h9, hb']
theorem x_commonDivisor (a b : Int32) : cl sh zX5_commonDivisor [.int a, .int b] μ Q = Q (some (.int (cdI 100 a b))) μ := by
  show wp sh zX5_commonDivisor 0 [.int a, .int b, .null, .null, .null, .null] [] μ Q = _
  simp (disch := first | omega | assumption) only [mm_op_some, true_and, and_true, mm_rc_some, mm_rc_none, nI_xor, tw_xor, pk_mul, nI_add, mm_in_t, nI_clamp, ok0, ok1, ok2, ok3, ok4, n1_0, n0_0, n0_zz, n1_zz, bI_eq0, bI_ne0, bI_zz, nI_le_, nI_lt_, nI_eq_, nI_lt0, nI_ge0, nI_gt0, nI_le0, nI_eq0, m1_lt0, m1_ge0, if_true, if_false, not_true, not_false_eq_true, Classical.not_not, true_or, or_true, false_or, n1_1, k10, Bool.true_eq_false, Bool.false_eq_true, Nat.le_refl, and_self, and_false, false_and, or_self, or_false, hf_lt, ce_lt, hf_cl, ce_cl, i_irr, i_rfl, wp_il0 (y := zX5_commonDivisor) dX5_commonDivisor_0, wp_is2 (y := zX5_commonDivisor) dX5_commonDivisor_1, wp_il1 (y := zX5_commonDivisor) dX5_commonDivisor_2, wp_is3 (y := zX5_commonDivisor) dX5_commonDivisor_3, wp_iconst (y := zX5_commonDivisor) (nI 0) ki_0 dX5_commonDivisor_4, wp_is4 (y := zX5_commonDivisor) dX5_commonDivisor_5]
  exact cd_loop a b 100 0 a b _ rfl
def sAA (M : Ms) (n : Int32) : Int32 := it (fun i a => if lv M (wl (hI i)) = true then (if nI (sd M (ow M (hI i))) = n then a + nI (sd M (ow M (tw (hI i)))) else a) else a) 288 0 (nI 0)
def a_about (s : Fo) (n what : Int32) : Int32 := if 0 < sK s.1 n (fun _ => nI 1) * n then (if 0 < cdI 100 (sAA s.1 n) (sK s.1 n (fun _ => nI 1) * n) then (if what = nI 0 then sAA s.1 n / cdI 100 (sAA s.1 n) (sK s.1 n (fun _ => nI 1) * n) else if what = nI 1 then sK s.1 n (fun _ => nI 1) * n / cdI 100 (sAA s.1 n) (sK s.1 n (fun _ => nI 1) * n) else -1) else -1) else -1
theorem x_about (X : XSh sh x f p q) (G : GoodX I) (R : RepF s μ f) (hI_ : I s.1) (n what : Int32) : cl sh zX5_about [.ref x, .int n, .int what] μ (RT I f (a_about s n what, s)) := by
  obtain ⟨F, P, W, d1, d2⟩ := X.2
  have S := F.2.1
  have Soc := S.oc
  obtain ⟨B, L⟩ := G.1.1 _ hI_
  obtain ⟨H, O⟩ := G.2.2.1 _ hI_
  show wp sh zX5_about 0 [.ref x, .int n, .int what, .null, .null, .null] [] μ _
  unfold a_about
  have E1 : ∀ Q', cl sh zX2_howMany [.ref (f + 1), .int n] μ Q' = Q' (some (.int (sK s.1 n (fun _ => nI 1)))) μ := fun Q' => c_howMany S R.1 B n
  have E2 : ∀ Q', cl sh zX2_sidesAboutAll [.ref (f + 1), .int n] μ Q' = Q' (some (.int (sAA s.1 n))) μ := fun Q' => c_sidesAboutAll S R.1 n
  have E3 : ∀ a b Q', cl sh zX5_commonDivisor [.int a, .int b] μ Q' = Q' (some (.int (cdI 100 a b))) μ := fun a b Q' => x_commonDivisor a b
  generalize sK s.1 n (fun _ => nI 1) = k at E1 ⊢
  generalize sAA s.1 n = u at E2 ⊢
  by_cases h1 : 0 < k * n
  · rw [if_pos h1]
    by_cases h2 : 0 < cdI 100 u (k * n)
    · rw [if_pos h2]
      have pre : ∀ QQ, wp sh zX5_about 0 [.ref x, .int n, .int what, .null, .null, .null] [] μ QQ = wp sh zX5_about 49 [.ref x, .int n, .int what, .int (k * n), .int u, .int (cdI 100 u (k * n))] [.int what] μ QQ := by
        intro QQ
        simp (disch := first | omega | assumption) only [mm_op_some, true_and, and_true, mm_rc_some, ok0, ok1, ok2, n1_0, if_true, if_false, wp_al0 (y := zX5_about) dX5_about_0, wp_getf (y := zX5_about) kF5_10 dX5_about_1, wp_getf (y := zX5_about) kF5_46 dX5_about_4, wp_il1 (y := zX5_about) dX5_about_7, wp_cv1 (y := zX5_about) kM5_186 (by decide) dX5_about_8, (show yo zX2_howMany = 2 from rfl), wp_il1 (y := zX5_about) dX5_about_11, wp_imul (y := zX5_about) dX5_about_12, wp_is3 (y := zX5_about) dX5_about_13, wp_il3 (y := zX5_about) dX5_about_14, wp_if_gt (y := zX5_about) 20 (by decide) dX5_about_15, wp_al0 (y := zX5_about) dX5_about_20, wp_getf (y := zX5_about) kF5_10 dX5_about_21, wp_getf (y := zX5_about) kF5_46 dX5_about_24, wp_il1 (y := zX5_about) dX5_about_27, wp_cv1 (y := zX5_about) kM5_189 (by decide) dX5_about_28, (show yo zX2_sidesAboutAll = 2 from rfl), wp_is4 (y := zX5_about) dX5_about_31, wp_il4 (y := zX5_about) dX5_about_33, wp_il3 (y := zX5_about) dX5_about_35, wp_cs2 (y := zX5_about) kM5_192 (by decide) dX5_about_36, wp_is5 (y := zX5_about) dX5_about_39, wp_il5 (y := zX5_about) dX5_about_41, wp_if_gt (y := zX5_about) 48 (by decide) dX5_about_43, wp_il2 (y := zX5_about) dX5_about_48, X.oc, X.g0, X.g1, X.g2, F.oc, F.g0, F.g1, F.g2, F.g3, F.g4, F.g5, F.g6, F.g7, F.g8, F.g9, F.g10, Soc, E1, E2, E3, h1, h2]
      rw [pre]
      generalize cdI 100 u (k * n) = g at h2 ⊢
      have g0 : ¬ g = 0 := fun z => by rw [z] at h2; exact absurd h2 (by decide)
      by_cases w0 : what = nI 0
      · subst w0
        rw [if_pos rfl, wp_ls (y := zX5_about) 76 dX5_about_49 (by decide) rfl (by decide)]
        simp (disch := first | omega | assumption) only [wp_il4 (y := zX5_about) dX5_about_76, wp_il5 (y := zX5_about) dX5_about_78, wp_idiv' (y := zX5_about) dX5_about_80, wp_ireti (y := zX5_about) rfl dX5_about_81]
        exact ⟨rfl, R, hI_⟩
      · rw [if_neg w0]
        by_cases w1 : what = nI 1
        · subst w1
          rw [if_pos rfl, wp_ls (y := zX5_about) 82 dX5_about_49 (by decide) rfl (by decide)]
          simp (disch := first | omega | assumption) only [wp_il3 (y := zX5_about) dX5_about_82, wp_il5 (y := zX5_about) dX5_about_83, wp_idiv' (y := zX5_about) dX5_about_85, wp_ireti (y := zX5_about) rfl dX5_about_86]
          exact ⟨rfl, R, hI_⟩
        · rw [if_neg w1]
          rw [wp_ls (y := zX5_about) 87 dX5_about_49 (by decide) (ls2 _ _ _ w0 w1) (by decide)]
          simp (disch := first | omega | assumption) only [mm_op_some, true_and, and_true, mm_rc_some, mm_rc_none, nI_xor, tw_xor, pk_mul, nI_add, mm_in_t, nI_clamp, ok0, ok1, ok2, ok3, ok4, n1_0, n0_0, n0_zz, n1_zz, bI_eq0, bI_ne0, bI_zz, nI_le_, nI_lt_, nI_eq_, nI_lt0, nI_ge0, nI_gt0, nI_le0, nI_eq0, m1_lt0, m1_ge0, if_true, if_false, not_true, not_false_eq_true, Classical.not_not, true_or, or_true, false_or, n1_1, k10, Bool.true_eq_false, Bool.false_eq_true, Nat.le_refl, and_self, and_false, false_and, or_self, or_false, hf_lt, ce_lt, hf_cl, ce_cl, i_irr, i_rfl, wp_iconst (y := zX5_about) ((-1)) ki_m1 dX5_about_87, wp_ireti (y := zX5_about) rfl dX5_about_88, X.oc, X.g0, X.g1, X.g2, F.oc, F.g0, F.g1, F.g2, F.g3, F.g4, F.g5, F.g6, F.g7, F.g8, F.g9, F.g10, S.oc, S.g0, S.g1, S.g2, S.g3, S.g4, S.g5, S.g6, S.g7, S.a1, S.a2, S.a3, S.a4, S.a5, S.a6, S.a7, S.a8]
          exact RT_mk R hI_
    · rw [if_neg h2]
      simp (disch := first | omega | assumption) only [mm_op_some, true_and, and_true, mm_rc_some, ok0, ok1, ok2, n1_0, if_true, if_false, wp_al0 (y := zX5_about) dX5_about_0, wp_getf (y := zX5_about) kF5_10 dX5_about_1, wp_getf (y := zX5_about) kF5_46 dX5_about_4, wp_il1 (y := zX5_about) dX5_about_7, wp_cv1 (y := zX5_about) kM5_186 (by decide) dX5_about_8, (show yo zX2_howMany = 2 from rfl), wp_il1 (y := zX5_about) dX5_about_11, wp_imul (y := zX5_about) dX5_about_12, wp_is3 (y := zX5_about) dX5_about_13, wp_il3 (y := zX5_about) dX5_about_14, wp_if_gt (y := zX5_about) 20 (by decide) dX5_about_15, wp_al0 (y := zX5_about) dX5_about_20, wp_getf (y := zX5_about) kF5_10 dX5_about_21, wp_getf (y := zX5_about) kF5_46 dX5_about_24, wp_il1 (y := zX5_about) dX5_about_27, wp_cv1 (y := zX5_about) kM5_189 (by decide) dX5_about_28, (show yo zX2_sidesAboutAll = 2 from rfl), wp_is4 (y := zX5_about) dX5_about_31, wp_il4 (y := zX5_about) dX5_about_33, wp_il3 (y := zX5_about) dX5_about_35, wp_cs2 (y := zX5_about) kM5_192 (by decide) dX5_about_36, wp_is5 (y := zX5_about) dX5_about_39, wp_il5 (y := zX5_about) dX5_about_41, wp_if_gt (y := zX5_about) 48 (by decide) dX5_about_43, wp_iconst (y := zX5_about) ((-1)) ki_m1 dX5_about_46, wp_ireti (y := zX5_about) rfl dX5_about_47, X.oc, X.g0, X.g1, X.g2, F.oc, F.g0, F.g1, F.g2, F.g3, F.g4, F.g5, F.g6, F.g7, F.g8, F.g9, F.g10, Soc, E1, E2, E3, h1, h2]
      exact ⟨rfl, R, hI_⟩
  · rw [if_neg h1]
    simp (disch := first | omega | assumption) only [mm_op_some, true_and, and_true, mm_rc_some, ok0, ok1, ok2, n1_0, if_true, if_false, wp_al0 (y := zX5_about) dX5_about_0, wp_getf (y := zX5_about) kF5_10 dX5_about_1, wp_getf (y := zX5_about) kF5_46 dX5_about_4, wp_il1 (y := zX5_about) dX5_about_7, wp_cv1 (y := zX5_about) kM5_186 (by decide) dX5_about_8, (show yo zX2_howMany = 2 from rfl), wp_il1 (y := zX5_about) dX5_about_11, wp_imul (y := zX5_about) dX5_about_12, wp_is3 (y := zX5_about) dX5_about_13, wp_il3 (y := zX5_about) dX5_about_14, wp_if_gt (y := zX5_about) 20 (by decide) dX5_about_15, wp_iconst (y := zX5_about) ((-1)) ki_m1 dX5_about_18, wp_ireti (y := zX5_about) rfl dX5_about_19, X.oc, X.g0, X.g1, X.g2, F.oc, F.g0, F.g1, F.g2, F.g3, F.g4, F.g5, F.g6, F.g7, F.g8, F.g9, F.g10, Soc, E1, h1]
    exact ⟨rfl, R, hI_⟩
def a_kind (s : Fo) (n what : Int32) : Int32 := if what = nI 0 then sK s.1 n (fun _ => nI 1) else if what = nI 1 then sK s.1 n (ar s.1) else if what = nI 2 then sAA s.1 n else -2147483648
theorem x_kind (X : XSh sh x f p q) (G : GoodX I) (R : RepF s μ f) (hI_ : I s.1) (n what : Int32) : cl sh zX5_kind [.ref x, .int n, .int what] μ (RT I f (a_kind s n what, s)) := by
  obtain ⟨F, P, W, d1, d2⟩ := X.2
  have S := F.2.1
  have Soc := S.oc
  obtain ⟨B, L⟩ := G.1.1 _ hI_
  obtain ⟨H, O⟩ := G.2.2.1 _ hI_
  show wp sh zX5_kind 0 [.ref x, .int n, .int what] [] μ _
  unfold a_kind
  have E1 : ∀ Q', cl sh zX2_howMany [.ref (f + 1), .int n] μ Q' = Q' (some (.int (sK s.1 n (fun _ => nI 1)))) μ := fun Q' => c_howMany S R.1 B n
  have E2 : ∀ Q', cl sh zX2_sidesAboutAll [.ref (f + 1), .int n] μ Q' = Q' (some (.int (sAA s.1 n))) μ := fun Q' => c_sidesAboutAll S R.1 n
  have E3 : ∀ Q', cl sh zX2_areaOfAll [.ref (f + 1), .int n] μ Q' = Q' (some (.int (sK s.1 n (ar s.1)))) μ := fun Q' => c_areaOfAll S R.1 B n
  simp (disch := first | omega | assumption) only [wp_il2 (y := zX5_kind) dX5_kind_0]
  by_cases w0 : what = nI 0
  · subst w0
    rw [if_pos rfl, wp_tsIn (y := zX5_kind) 28 dX5_kind_1 (by decide) rfl (by decide)]
    simp (disch := first | omega | assumption) only [mm_op_some, true_and, and_true, mm_rc_some, mm_rc_none, nI_xor, tw_xor, pk_mul, nI_add, mm_in_t, nI_clamp, ok0, ok1, ok2, ok3, ok4, n1_0, n0_0, n0_zz, n1_zz, bI_eq0, bI_ne0, bI_zz, nI_le_, nI_lt_, nI_eq_, nI_lt0, nI_ge0, nI_gt0, nI_le0, nI_eq0, m1_lt0, m1_ge0, if_true, if_false, not_true, not_false_eq_true, Classical.not_not, true_or, or_true, false_or, n1_1, k10, Bool.true_eq_false, Bool.false_eq_true, Nat.le_refl, and_self, and_false, false_and, or_self, or_false, hf_lt, ce_lt, hf_cl, ce_cl, i_irr, i_rfl, wp_al0 (y := zX5_kind) dX5_kind_28, wp_getf (y := zX5_kind) kF5_10 dX5_kind_29, wp_getf (y := zX5_kind) kF5_46 dX5_kind_32, wp_il1 (y := zX5_kind) dX5_kind_35, wp_cv1 (y := zX5_kind) kM5_186 (by decide) dX5_kind_36, (show yo zX2_howMany = 2 from rfl), wp_ireti (y := zX5_kind) rfl dX5_kind_39, X.oc, X.g0, X.g1, X.g2, F.oc, F.g0, F.g1, F.g2, F.g3, F.g4, F.g5, F.g6, F.g7, F.g8, F.g9, F.g10, S.oc, S.g0, S.g1, S.g2, S.g3, S.g4, S.g5, S.g6, S.g7, S.a1, S.a2, S.a3, S.a4, S.a5, S.a6, S.a7, S.a8, E1]
    exact RT_mk R hI_
  · rw [if_neg w0]
    by_cases w1 : what = nI 1
    · subst w1
      rw [if_pos rfl, wp_tsIn (y := zX5_kind) 40 dX5_kind_1 (by decide) rfl (by decide)]
      simp (disch := first | omega | assumption) only [mm_op_some, true_and, and_true, mm_rc_some, mm_rc_none, nI_xor, tw_xor, pk_mul, nI_add, mm_in_t, nI_clamp, ok0, ok1, ok2, ok3, ok4, n1_0, n0_0, n0_zz, n1_zz, bI_eq0, bI_ne0, bI_zz, nI_le_, nI_lt_, nI_eq_, nI_lt0, nI_ge0, nI_gt0, nI_le0, nI_eq0, m1_lt0, m1_ge0, if_true, if_false, not_true, not_false_eq_true, Classical.not_not, true_or, or_true, false_or, n1_1, k10, Bool.true_eq_false, Bool.false_eq_true, Nat.le_refl, and_self, and_false, false_and, or_self, or_false, hf_lt, ce_lt, hf_cl, ce_cl, i_irr, i_rfl, wp_al0 (y := zX5_kind) dX5_kind_40, wp_getf (y := zX5_kind) kF5_10 dX5_kind_41, wp_getf (y := zX5_kind) kF5_46 dX5_kind_44, wp_il1 (y := zX5_kind) dX5_kind_47, wp_cv1 (y := zX5_kind) kM5_195 (by decide) dX5_kind_48, (show yo zX2_areaOfAll = 2 from rfl), wp_ireti (y := zX5_kind) rfl dX5_kind_51, X.oc, X.g0, X.g1, X.g2, F.oc, F.g0, F.g1, F.g2, F.g3, F.g4, F.g5, F.g6, F.g7, F.g8, F.g9, F.g10, S.oc, S.g0, S.g1, S.g2, S.g3, S.g4, S.g5, S.g6, S.g7, S.a1, S.a2, S.a3, S.a4, S.a5, S.a6, S.a7, S.a8, E3]
      exact RT_mk R hI_
    · rw [if_neg w1]
      by_cases w2 : what = nI 2
      · subst w2
        rw [if_pos rfl, wp_tsIn (y := zX5_kind) 52 dX5_kind_1 (by decide) rfl (by decide)]
        simp (disch := first | omega | assumption) only [mm_op_some, true_and, and_true, mm_rc_some, mm_rc_none, nI_xor, tw_xor, pk_mul, nI_add, mm_in_t, nI_clamp, ok0, ok1, ok2, ok3, ok4, n1_0, n0_0, n0_zz, n1_zz, bI_eq0, bI_ne0, bI_zz, nI_le_, nI_lt_, nI_eq_, nI_lt0, nI_ge0, nI_gt0, nI_le0, nI_eq0, m1_lt0, m1_ge0, if_true, if_false, not_true, not_false_eq_true, Classical.not_not, true_or, or_true, false_or, n1_1, k10, Bool.true_eq_false, Bool.false_eq_true, Nat.le_refl, and_self, and_false, false_and, or_self, or_false, hf_lt, ce_lt, hf_cl, ce_cl, i_irr, i_rfl, wp_al0 (y := zX5_kind) dX5_kind_52, wp_getf (y := zX5_kind) kF5_10 dX5_kind_53, wp_getf (y := zX5_kind) kF5_46 dX5_kind_56, wp_il1 (y := zX5_kind) dX5_kind_59, wp_cv1 (y := zX5_kind) kM5_189 (by decide) dX5_kind_60, (show yo zX2_sidesAboutAll = 2 from rfl), wp_ireti (y := zX5_kind) rfl dX5_kind_63, X.oc, X.g0, X.g1, X.g2, F.oc, F.g0, F.g1, F.g2, F.g3, F.g4, F.g5, F.g6, F.g7, F.g8, F.g9, F.g10, S.oc, S.g0, S.g1, S.g2, S.g3, S.g4, S.g5, S.g6, S.g7, S.a1, S.a2, S.a3, S.a4, S.a5, S.a6, S.a7, S.a8, E2]
        exact RT_mk R hI_
      · rw [if_neg w2]
        rw [wp_tsOut (y := zX5_kind) 64 dX5_kind_1 (by decide) (by
            have a0 := int_ne w0
            rw [show (nI 0).toInt = 0 from rfl] at a0
            have a1 := int_ne w1
            rw [show (nI 1).toInt = 1 from rfl] at a1
            have a2 := int_ne w2
            rw [show (nI 2).toInt = 2 from rfl] at a2
            omega)]
        simp (disch := first | omega | assumption) only [mm_op_some, true_and, and_true, mm_rc_some, mm_rc_none, nI_xor, tw_xor, pk_mul, nI_add, mm_in_t, nI_clamp, ok0, ok1, ok2, ok3, ok4, n1_0, n0_0, n0_zz, n1_zz, bI_eq0, bI_ne0, bI_zz, nI_le_, nI_lt_, nI_eq_, nI_lt0, nI_ge0, nI_gt0, nI_le0, nI_eq0, m1_lt0, m1_ge0, if_true, if_false, not_true, not_false_eq_true, Classical.not_not, true_or, or_true, false_or, n1_1, k10, Bool.true_eq_false, Bool.false_eq_true, Nat.le_refl, and_self, and_false, false_and, or_self, or_false, hf_lt, ce_lt, hf_cl, ce_cl, i_irr, i_rfl, wp_ldc (y := zX5_kind) kC5_141 dX5_kind_64, wp_ireti (y := zX5_kind) rfl dX5_kind_66, X.oc, X.g0, X.g1, X.g2, F.oc, F.g0, F.g1, F.g2, F.g3, F.g4, F.g5, F.g6, F.g7, F.g8, F.g9, F.g10, S.oc, S.g0, S.g1, S.g2, S.g3, S.g4, S.g5, S.g6, S.g7, S.a1, S.a2, S.a3, S.a4, S.a5, S.a6, S.a7, S.a8]
        exact RT_mk R hI_
def prS (M : Ms) (n m : Int32) (i : Nat) (a : Int32) : Int32 := if lv M (wI i) = true then (if nI (sd M (ow M (h0 (wI i)))) = n ∧ nI (sd M (ow M (h1 (wI i)))) = m ∨ nI (sd M (ow M (h0 (wI i)))) = m ∧ nI (sd M (ow M (h1 (wI i)))) = n then a + nI 1 else a) else a
def a_pairs (s : Fo) (n m : Int32) : Int32 := it (prS s.1 n m) 144 0 (nI 0)
theorem x_pairs (X : XSh sh x f p q) (G : GoodX I) (R : RepF s μ f) (hI_ : I s.1) (n m : Int32) : cl sh zX5_pairs [.ref x, .int n, .int m] μ (RT I f (a_pairs s n m, s)) := by
  obtain ⟨F, P, W, d1, d2⟩ := X.2
  have S := F.2.1
  have Soc := S.oc
  obtain ⟨B, L⟩ := G.1.1 _ hI_
  obtain ⟨H, O⟩ := G.2.2.1 _ hI_
  show wp sh zX5_pairs 0 [.ref x, .int n, .int m, .null, .null, .null, .null, .null] [] μ _
  unfold a_pairs
  simp (disch := first | omega | assumption) only [mm_op_some, true_and, and_true, mm_rc_some, mm_rc_none, nI_xor, tw_xor, pk_mul, nI_add, mm_in_t, nI_clamp, ok0, ok1, ok2, ok3, ok4, n1_0, n0_0, n0_zz, n1_zz, bI_eq0, bI_ne0, bI_zz, nI_le_, nI_lt_, nI_eq_, nI_lt0, nI_ge0, nI_gt0, nI_le0, nI_eq0, m1_lt0, m1_ge0, if_true, if_false, not_true, not_false_eq_true, Classical.not_not, true_or, or_true, false_or, n1_1, k10, Bool.true_eq_false, Bool.false_eq_true, Nat.le_refl, and_self, and_false, false_and, or_self, or_false, hf_lt, ce_lt, hf_cl, ce_cl, i_irr, i_rfl, wp_al0 (y := zX5_pairs) dX5_pairs_0, wp_getf (y := zX5_pairs) kF5_10 dX5_pairs_1, wp_getf (y := zX5_pairs) kF5_46 dX5_pairs_4, wp_as3 (y := zX5_pairs) dX5_pairs_7, wp_iconst (y := zX5_pairs) (nI 0) ki_0 dX5_pairs_8, wp_is4 (y := zX5_pairs) dX5_pairs_9, wp_iconst (y := zX5_pairs) (nI 0) ki_0 dX5_pairs_11, wp_is5 (y := zX5_pairs) dX5_pairs_12, X.oc, X.g0, X.g1, X.g2, F.oc, F.g0, F.g1, F.g2, F.g3, F.g4, F.g5, F.g6, F.g7, F.g8, F.g9, F.g10]
  generalize hq : RT I f (it (prS s.1 n m) 144 0 (nI 0), s) = QQ
  refine Eq.mpr (lp 144 (fun i (a : Int32 × Value × Value) => wp sh zX5_pairs 14 [.ref x, .int n, .int m, .ref (f + 1), .int a.1, .int (nI i), a.2.1, a.2.2] [] μ QQ) (fun i a => (prS s.1 n m i a.1, if lv s.1 (wI i) = true then (.int (nI (sd s.1 (ow s.1 (h0 (wI i))))), .int (nI (sd s.1 (ow s.1 (h1 (wI i)))))) else a.2)) (fun i a hi => ?_) (nI 0, .null, .null)) ?_
  · obtain ⟨a, v6, v7⟩ := a
    dsimp only
    have h9 : (144 ≤ i) = False := eq_false (by omega)
    have iv := wI_lt hi
    rw [wp_il5 (y := zX5_pairs) dX5_pairs_14]
    unfold prS
    by_cases hc : lv s.1 (wI i) = true
    · rw [if_pos hc, if_pos hc]
      have E1 : ∀ Q', cl sh zX2_hasWall [.ref (f + 1), .int (nI i)] μ Q' = Q' (some (.int (nI 1))) μ := fun Q' => c_hasWall1 S R.1 hi hc
      have l0 : lv s.1 (wl (h0 (wI i))) = true := by rw [wl_h0]; exact hc
      have l1 : lv s.1 (wl (h1 (wI i))) = true := by rw [wl_h1]; exact hc
      have o0 : μ (f + 1 + 1) (2 * i) = nI (ow s.1 (h0 (wI i))).val := by
        have := (R.1.1 _ l0).1
        rw [h0_val, iv] at this
        exact this
      have o1 : μ (f + 1 + 1) (2 * i + 1) = nI (ow s.1 (h1 (wI i))).val := by
        have := (R.1.1 _ l1).1
        rw [h1_val, iv] at this
        exact this
      have t0 := R.1.2.2.2.1 (ow s.1 (h0 (wI i)))
      have t1 := R.1.2.2.2.1 (ow s.1 (h1 (wI i)))
      have pre : ∀ QQ, wp sh zX5_pairs (14 + 2) [.ref x, .int n, .int m, .ref (f + 1), .int a, .int (nI i), v6, v7] [.int (nI i)] μ QQ = wp sh zX5_pairs 65 [.ref x, .int n, .int m, .ref (f + 1), .int a, .int (nI i), .int (nI (sd s.1 (ow s.1 (h0 (wI i))))), .int (nI (sd s.1 (ow s.1 (h1 (wI i)))))] [] μ QQ := by
        intro QQ
        simp (disch := first | omega | assumption) only [mm_op_some, true_and, and_true, mm_rc_some, mm_rc_none, nI_xor, tw_xor, pk_mul, nI_add, mm_in_t, nI_clamp, ok0, ok1, ok2, ok3, ok4, n1_0, n0_0, n0_zz, n1_zz, bI_eq0, bI_ne0, bI_zz, nI_le_, nI_lt_, nI_eq_, nI_lt0, nI_ge0, nI_gt0, nI_le0, nI_eq0, m1_lt0, m1_ge0, if_true, if_false, not_true, not_false_eq_true, Classical.not_not, true_or, or_true, false_or, n1_1, k10, Bool.true_eq_false, Bool.false_eq_true, Nat.le_refl, and_self, and_false, false_and, or_self, or_false, hf_lt, ce_lt, hf_cl, ce_cl, i_irr, i_rfl, wp_sipush (y := zX5_pairs) (nI 144) ks_144 dX5_pairs_16, wp_icmp_ge (y := zX5_pairs) 98 (by decide) dX5_pairs_19, wp_al3 (y := zX5_pairs) dX5_pairs_22, wp_il5 (y := zX5_pairs) dX5_pairs_23, wp_cv1 (y := zX5_pairs) kM5_60 (by decide) dX5_pairs_25, (show yo zX2_hasWall = 2 from rfl), wp_if_eq (y := zX5_pairs) 92 (by decide) dX5_pairs_28, wp_al3 (y := zX5_pairs) dX5_pairs_31, wp_getf (y := zX5_pairs) kF5_127 dX5_pairs_32, wp_al3 (y := zX5_pairs) dX5_pairs_35, wp_getf (y := zX5_pairs) kF5_148 dX5_pairs_36, wp_iconst (y := zX5_pairs) (nI 2) ki_2 dX5_pairs_39, wp_il5 (y := zX5_pairs) dX5_pairs_40, wp_imul (y := zX5_pairs) dX5_pairs_42, wp_iald (y := zX5_pairs) dX5_pairs_43, wp_iald (y := zX5_pairs) dX5_pairs_44, wp_is6 (y := zX5_pairs) dX5_pairs_45, wp_al3 (y := zX5_pairs) dX5_pairs_47, wp_getf (y := zX5_pairs) kF5_127 dX5_pairs_48, wp_al3 (y := zX5_pairs) dX5_pairs_51, wp_getf (y := zX5_pairs) kF5_148 dX5_pairs_52, wp_iconst (y := zX5_pairs) (nI 2) ki_2 dX5_pairs_55, wp_il5 (y := zX5_pairs) dX5_pairs_56, wp_imul (y := zX5_pairs) dX5_pairs_58, wp_iconst (y := zX5_pairs) (nI 1) ki_1 dX5_pairs_59, wp_iadd (y := zX5_pairs) dX5_pairs_60, wp_iald (y := zX5_pairs) dX5_pairs_61, wp_iald (y := zX5_pairs) dX5_pairs_62, wp_is7 (y := zX5_pairs) dX5_pairs_63, S.oc, S.g0, S.g1, S.g2, S.g3, S.g4, S.g5, S.g6, S.g7, S.a1, S.a2, S.a3, S.a4, S.a5, S.a6, S.a7, S.a8, E1, h9, o0, o1, t0, t1]
      rw [pre]
      generalize nI (sd s.1 (ow s.1 (h0 (wI i)))) = u
      generalize nI (sd s.1 (ow s.1 (h1 (wI i)))) = v
      have yes : wp sh zX5_pairs 89 [.ref x, .int n, .int m, .ref (f + 1), .int a, .int (nI i), .int u, .int v] [] μ QQ = wp sh zX5_pairs 14 [.ref x, .int n, .int m, .ref (f + 1), .int (a + nI 1), .int (nI (i + 1)), .int u, .int v] [] μ QQ := by
        simp (disch := first | omega | assumption) only [nI_add, wp_inc4 (y := zX5_pairs) (nI 1) ki_1 dX5_pairs_89, wp_inc5 (y := zX5_pairs) (nI 1) ki_1 dX5_pairs_92, wp_goto (y := zX5_pairs) 14 (by decide) dX5_pairs_95]
      have no : wp sh zX5_pairs 92 [.ref x, .int n, .int m, .ref (f + 1), .int a, .int (nI i), .int u, .int v] [] μ QQ = wp sh zX5_pairs 14 [.ref x, .int n, .int m, .ref (f + 1), .int a, .int (nI (i + 1)), .int u, .int v] [] μ QQ := by
        simp (disch := first | omega | assumption) only [nI_add, wp_inc5 (y := zX5_pairs) (nI 1) ki_1 dX5_pairs_92, wp_goto (y := zX5_pairs) 14 (by decide) dX5_pairs_95]
      by_cases h1 : u = n
      · by_cases h2 : v = m
        · rw [if_pos (Or.inl ⟨h1, h2⟩)]
          simp (disch := first | omega | assumption) only [wp_il6 (y := zX5_pairs) dX5_pairs_65, wp_il1 (y := zX5_pairs) dX5_pairs_67, wp_icmp_ne (y := zX5_pairs) 77 (by decide) dX5_pairs_68, wp_il7 (y := zX5_pairs) dX5_pairs_71, wp_il2 (y := zX5_pairs) dX5_pairs_73, wp_icmp_eq (y := zX5_pairs) 89 (by decide) dX5_pairs_74, h1, h2, not_true, if_true, if_false] at yes ⊢
          exact yes
        · by_cases h3 : u = m
          · by_cases h4 : v = n
            · exact absurd (h4.trans (h1.symm.trans h3)) h2
            · rw [if_neg (fun z => z.elim (fun t => h2 t.2) (fun t => h4 t.2)), ← no]
              have e1 := eq_true h1
              have e3 := eq_true h3
              simp (disch := first | omega | assumption) only [wp_il6 (y := zX5_pairs) dX5_pairs_65, wp_il1 (y := zX5_pairs) dX5_pairs_67, wp_icmp_ne (y := zX5_pairs) 77 (by decide) dX5_pairs_68, wp_il7 (y := zX5_pairs) dX5_pairs_71, wp_il2 (y := zX5_pairs) dX5_pairs_73, wp_icmp_eq (y := zX5_pairs) 89 (by decide) dX5_pairs_74, wp_il6 (y := zX5_pairs) dX5_pairs_77, wp_il2 (y := zX5_pairs) dX5_pairs_79, wp_icmp_ne (y := zX5_pairs) 92 (by decide) dX5_pairs_80, wp_il7 (y := zX5_pairs) dX5_pairs_83, wp_il1 (y := zX5_pairs) dX5_pairs_85, wp_icmp_ne (y := zX5_pairs) 92 (by decide) dX5_pairs_86, e1, h2, e3, h4, not_true, not_false_eq_true, if_true, if_false]
          · rw [if_neg (fun z => z.elim (fun t => h2 t.2) (fun t => h3 t.1)), ← no]
            have e1 := eq_true h1
            simp (disch := first | omega | assumption) only [wp_il6 (y := zX5_pairs) dX5_pairs_65, wp_il1 (y := zX5_pairs) dX5_pairs_67, wp_icmp_ne (y := zX5_pairs) 77 (by decide) dX5_pairs_68, wp_il7 (y := zX5_pairs) dX5_pairs_71, wp_il2 (y := zX5_pairs) dX5_pairs_73, wp_icmp_eq (y := zX5_pairs) 89 (by decide) dX5_pairs_74, wp_il6 (y := zX5_pairs) dX5_pairs_77, wp_il2 (y := zX5_pairs) dX5_pairs_79, wp_icmp_ne (y := zX5_pairs) 92 (by decide) dX5_pairs_80, e1, h2, h3, not_true, not_false_eq_true, if_true, if_false]
      · by_cases h3 : u = m
        · by_cases h4 : v = n
          · rw [if_pos (Or.inr ⟨h3, h4⟩), ← yes]
            have e3 := eq_true h3
            have e4 := eq_true h4
            simp (disch := first | omega | assumption) only [wp_il6 (y := zX5_pairs) dX5_pairs_65, wp_il1 (y := zX5_pairs) dX5_pairs_67, wp_icmp_ne (y := zX5_pairs) 77 (by decide) dX5_pairs_68, wp_il7 (y := zX5_pairs) dX5_pairs_71, wp_il2 (y := zX5_pairs) dX5_pairs_73, wp_icmp_eq (y := zX5_pairs) 89 (by decide) dX5_pairs_74, wp_il6 (y := zX5_pairs) dX5_pairs_77, wp_il2 (y := zX5_pairs) dX5_pairs_79, wp_icmp_ne (y := zX5_pairs) 92 (by decide) dX5_pairs_80, wp_il7 (y := zX5_pairs) dX5_pairs_83, wp_il1 (y := zX5_pairs) dX5_pairs_85, wp_icmp_ne (y := zX5_pairs) 92 (by decide) dX5_pairs_86, h1, e3, e4, not_true, not_false_eq_true, if_true, if_false]
          · rw [if_neg (fun z => z.elim (fun t => h1 t.1) (fun t => h4 t.2)), ← no]
            have e3 := eq_true h3
            simp (disch := first | omega | assumption) only [wp_il6 (y := zX5_pairs) dX5_pairs_65, wp_il1 (y := zX5_pairs) dX5_pairs_67, wp_icmp_ne (y := zX5_pairs) 77 (by decide) dX5_pairs_68, wp_il7 (y := zX5_pairs) dX5_pairs_71, wp_il2 (y := zX5_pairs) dX5_pairs_73, wp_icmp_eq (y := zX5_pairs) 89 (by decide) dX5_pairs_74, wp_il6 (y := zX5_pairs) dX5_pairs_77, wp_il2 (y := zX5_pairs) dX5_pairs_79, wp_icmp_ne (y := zX5_pairs) 92 (by decide) dX5_pairs_80, wp_il7 (y := zX5_pairs) dX5_pairs_83, wp_il1 (y := zX5_pairs) dX5_pairs_85, wp_icmp_ne (y := zX5_pairs) 92 (by decide) dX5_pairs_86, h1, e3, h4, not_true, not_false_eq_true, if_true, if_false]
        · rw [if_neg (fun z => z.elim (fun t => h1 t.1) (fun t => h3 t.1)), ← no]
          simp (disch := first | omega | assumption) only [wp_il6 (y := zX5_pairs) dX5_pairs_65, wp_il1 (y := zX5_pairs) dX5_pairs_67, wp_icmp_ne (y := zX5_pairs) 77 (by decide) dX5_pairs_68, wp_il7 (y := zX5_pairs) dX5_pairs_71, wp_il2 (y := zX5_pairs) dX5_pairs_73, wp_icmp_eq (y := zX5_pairs) 89 (by decide) dX5_pairs_74, wp_il6 (y := zX5_pairs) dX5_pairs_77, wp_il2 (y := zX5_pairs) dX5_pairs_79, wp_icmp_ne (y := zX5_pairs) 92 (by decide) dX5_pairs_80, h1, h3, not_true, not_false_eq_true, if_true, if_false]
    · rw [if_neg hc, if_neg hc]
      have E1 : ∀ Q', cl sh zX2_hasWall [.ref (f + 1), .int (nI i)] μ Q' = Q' (some (.int (nI 0))) μ := fun Q' => c_hasWall0 S R.1 hi hc
      simp (disch := first | omega | assumption) only [mm_op_some, true_and, and_true, mm_rc_some, mm_rc_none, nI_xor, tw_xor, pk_mul, nI_add, mm_in_t, nI_clamp, ok0, ok1, ok2, ok3, ok4, n1_0, n0_0, n0_zz, n1_zz, bI_eq0, bI_ne0, bI_zz, nI_le_, nI_lt_, nI_eq_, nI_lt0, nI_ge0, nI_gt0, nI_le0, nI_eq0, m1_lt0, m1_ge0, if_true, if_false, not_true, not_false_eq_true, Classical.not_not, true_or, or_true, false_or, n1_1, k10, Bool.true_eq_false, Bool.false_eq_true, Nat.le_refl, and_self, and_false, false_and, or_self, or_false, hf_lt, ce_lt, hf_cl, ce_cl, i_irr, i_rfl, wp_sipush (y := zX5_pairs) (nI 144) ks_144 dX5_pairs_16, wp_icmp_ge (y := zX5_pairs) 98 (by decide) dX5_pairs_19, wp_al3 (y := zX5_pairs) dX5_pairs_22, wp_il5 (y := zX5_pairs) dX5_pairs_23, wp_cv1 (y := zX5_pairs) kM5_60 (by decide) dX5_pairs_25, (show yo zX2_hasWall = 2 from rfl), wp_if_eq (y := zX5_pairs) 92 (by decide) dX5_pairs_28, wp_inc5 (y := zX5_pairs) (nI 1) ki_1 dX5_pairs_92, wp_goto (y := zX5_pairs) 14 (by decide) dX5_pairs_95, S.oc, S.g0, S.g1, S.g2, S.g3, S.g4, S.g5, S.g6, S.g7, S.a1, S.a2, S.a3, S.a4, S.a5, S.a6, S.a7, S.a8, E1, h9]
  · rw [wp_il5 (y := zX5_pairs) dX5_pairs_14]
    simp (disch := first | omega | assumption) only [mm_op_some, true_and, and_true, mm_rc_some, mm_rc_none, nI_xor, tw_xor, pk_mul, nI_add, mm_in_t, nI_clamp, ok0, ok1, ok2, ok3, ok4, n1_0, n0_0, n0_zz, n1_zz, bI_eq0, bI_ne0, bI_zz, nI_le_, nI_lt_, nI_eq_, nI_lt0, nI_ge0, nI_gt0, nI_le0, nI_eq0, m1_lt0, m1_ge0, if_true, if_false, not_true, not_false_eq_true, Classical.not_not, true_or, or_true, false_or, n1_1, k10, Bool.true_eq_false, Bool.false_eq_true, Nat.le_refl, and_self, and_false, false_and, or_self, or_false, hf_lt, ce_lt, hf_cl, ce_cl, i_irr, i_rfl, wp_sipush (y := zX5_pairs) (nI 144) ks_144 dX5_pairs_16, wp_icmp_ge (y := zX5_pairs) 98 (by decide) dX5_pairs_19, wp_il4 (y := zX5_pairs) dX5_pairs_98, wp_ireti (y := zX5_pairs) rfl dX5_pairs_100]
    rw [it_fst (f := prS s.1 n m), ← hq]
    exact ⟨rfl, R, hI_⟩
def rkg (M : Ms) (c : Ce) : Int32 := it (fun i a => if 0 < sd M (cI i) then (if ar M (cI i) < ar M c then a + nI 1 else if ar M (cI i) = ar M c then (if i < c.val then a + nI 1 else a) else a) else a) 48 0 (nI 0)
def a_ranked (s : Fo) (i : Int32) : Int32 := fo (fd (fun k => decide (0 < sd s.1 (cI k)) && decide (rkg s.1 (cI k) = i)) 48 0)
theorem x_ranked (X : XSh sh x f p q) (G : GoodX I) (R : RepF s μ f) (hI_ : I s.1) (i : Int32) : cl sh zX5_ranked [.ref x, .int i] μ (RT I f (a_ranked s i, s)) := by
  obtain ⟨F, P, W, d1, d2⟩ := X.2
  have S := F.2.1
  have Soc := S.oc
  obtain ⟨B, L⟩ := G.1.1 _ hI_
  obtain ⟨H, O⟩ := G.2.2.1 _ hI_
  show wp sh zX5_ranked 0 [.ref x, .int i, .null] [] μ _
  unfold a_ranked
  simp (disch := first | omega | assumption) only [wp_iconst (y := zX5_ranked) (nI 0) ki_0 dX5_ranked_0, wp_is2 (y := zX5_ranked) dX5_ranked_1]
  generalize hq : RT I f (fo (fd (fun k => decide (0 < sd s.1 (cI k)) && decide (rkg s.1 (cI k) = i)) 48 0), s) = QQ
  refine Eq.mpr (lpf 48 (fun k => wp sh zX5_ranked 2 [.ref x, .int i, .int (nI k)] [] μ QQ) (fun k => decide (0 < sd s.1 (cI k)) && decide (rkg s.1 (cI k) = i)) (fun k => QQ (some (.int (nI k))) μ) (fun k hk => ?_)) ?_
  · have h9 : (48 ≤ k) = False := eq_false (by omega)
    have kv := cI_lt hk
    rw [wp_il2 (y := zX5_ranked) dX5_ranked_2]
    by_cases h1 : 0 < sd s.1 (cI k)
    · have E1 : ∀ Q', cl sh zX2_hasCell [.ref (f + 1), .int (nI k)] μ Q' = Q' (some (.int (nI 1))) μ := fun Q' => c_hasCell1 S R.1 B hk h1
      have E2 : ∀ Q', cl sh zX2_rankOf [.ref (f + 1), .int (nI k)] μ Q' = Q' (some (.int (rkg s.1 (cI k)))) μ := fun Q' => by
        have := c_rankOf (Q := Q') S R.1 B (cI k) h1
        rw [kv] at this
        unfold rkg
        rw [kv]
        exact this
      by_cases h2 : rkg s.1 (cI k) = i
      · have h2' := eq_true h2
        simp (disch := first | omega | assumption) only [mm_op_some, true_and, and_true, mm_rc_some, mm_rc_none, nI_xor, tw_xor, pk_mul, nI_add, mm_in_t, nI_clamp, ok0, ok1, ok2, ok3, ok4, n1_0, n0_0, n0_zz, n1_zz, bI_eq0, bI_ne0, bI_zz, nI_le_, nI_lt_, nI_eq_, nI_lt0, nI_ge0, nI_gt0, nI_le0, nI_eq0, m1_lt0, m1_ge0, if_true, if_false, not_true, not_false_eq_true, Classical.not_not, true_or, or_true, false_or, n1_1, k10, Bool.true_eq_false, Bool.false_eq_true, Nat.le_refl, and_self, and_false, false_and, or_self, or_false, hf_lt, ce_lt, hf_cl, ce_cl, i_irr, i_rfl, wp_bipush (y := zX5_ranked) (nI 48) kb_48 dX5_ranked_3, wp_icmp_ge (y := zX5_ranked) 45 (by decide) dX5_ranked_5, wp_al0 (y := zX5_ranked) dX5_ranked_8, wp_getf (y := zX5_ranked) kF5_10 dX5_ranked_9, wp_getf (y := zX5_ranked) kF5_46 dX5_ranked_12, wp_il2 (y := zX5_ranked) dX5_ranked_15, wp_cv1 (y := zX5_ranked) kM5_50 (by decide) dX5_ranked_16, (show yo zX2_hasCell = 2 from rfl), wp_if_eq (y := zX5_ranked) 39 (by decide) dX5_ranked_19, wp_al0 (y := zX5_ranked) dX5_ranked_22, wp_getf (y := zX5_ranked) kF5_10 dX5_ranked_23, wp_getf (y := zX5_ranked) kF5_46 dX5_ranked_26, wp_il2 (y := zX5_ranked) dX5_ranked_29, wp_cv1 (y := zX5_ranked) kM5_198 (by decide) dX5_ranked_30, (show yo zX2_rankOf = 2 from rfl), wp_il1 (y := zX5_ranked) dX5_ranked_33, wp_icmp_ne (y := zX5_ranked) 39 (by decide) dX5_ranked_34, wp_il2 (y := zX5_ranked) dX5_ranked_37, wp_ireti (y := zX5_ranked) rfl dX5_ranked_38, X.oc, X.g0, X.g1, X.g2, F.oc, F.g0, F.g1, F.g2, F.g3, F.g4, F.g5, F.g6, F.g7, F.g8, F.g9, F.g10, Soc, h9, E1, E2, h2', h1, decide_true, Bool.and_self]
      · simp (disch := first | omega | assumption) only [mm_op_some, true_and, and_true, mm_rc_some, mm_rc_none, nI_xor, tw_xor, pk_mul, nI_add, mm_in_t, nI_clamp, ok0, ok1, ok2, ok3, ok4, n1_0, n0_0, n0_zz, n1_zz, bI_eq0, bI_ne0, bI_zz, nI_le_, nI_lt_, nI_eq_, nI_lt0, nI_ge0, nI_gt0, nI_le0, nI_eq0, m1_lt0, m1_ge0, if_true, if_false, not_true, not_false_eq_true, Classical.not_not, true_or, or_true, false_or, n1_1, k10, Bool.true_eq_false, Bool.false_eq_true, Nat.le_refl, and_self, and_false, false_and, or_self, or_false, hf_lt, ce_lt, hf_cl, ce_cl, i_irr, i_rfl, wp_bipush (y := zX5_ranked) (nI 48) kb_48 dX5_ranked_3, wp_icmp_ge (y := zX5_ranked) 45 (by decide) dX5_ranked_5, wp_al0 (y := zX5_ranked) dX5_ranked_8, wp_getf (y := zX5_ranked) kF5_10 dX5_ranked_9, wp_getf (y := zX5_ranked) kF5_46 dX5_ranked_12, wp_il2 (y := zX5_ranked) dX5_ranked_15, wp_cv1 (y := zX5_ranked) kM5_50 (by decide) dX5_ranked_16, (show yo zX2_hasCell = 2 from rfl), wp_if_eq (y := zX5_ranked) 39 (by decide) dX5_ranked_19, wp_al0 (y := zX5_ranked) dX5_ranked_22, wp_getf (y := zX5_ranked) kF5_10 dX5_ranked_23, wp_getf (y := zX5_ranked) kF5_46 dX5_ranked_26, wp_il2 (y := zX5_ranked) dX5_ranked_29, wp_cv1 (y := zX5_ranked) kM5_198 (by decide) dX5_ranked_30, (show yo zX2_rankOf = 2 from rfl), wp_il1 (y := zX5_ranked) dX5_ranked_33, wp_icmp_ne (y := zX5_ranked) 39 (by decide) dX5_ranked_34, wp_inc2 (y := zX5_ranked) (nI 1) ki_1 dX5_ranked_39, wp_goto (y := zX5_ranked) 2 (by decide) dX5_ranked_42, X.oc, X.g0, X.g1, X.g2, F.oc, F.g0, F.g1, F.g2, F.g3, F.g4, F.g5, F.g6, F.g7, F.g8, F.g9, F.g10, Soc, h9, E1, E2, h2, h1, decide_true, decide_false, Bool.and_false]
    · have E1 : ∀ Q', cl sh zX2_hasCell [.ref (f + 1), .int (nI k)] μ Q' = Q' (some (.int (nI 0))) μ := fun Q' => c_hasCell0 S R.1 hk h1
      simp (disch := first | omega | assumption) only [mm_op_some, true_and, and_true, mm_rc_some, mm_rc_none, nI_xor, tw_xor, pk_mul, nI_add, mm_in_t, nI_clamp, ok0, ok1, ok2, ok3, ok4, n1_0, n0_0, n0_zz, n1_zz, bI_eq0, bI_ne0, bI_zz, nI_le_, nI_lt_, nI_eq_, nI_lt0, nI_ge0, nI_gt0, nI_le0, nI_eq0, m1_lt0, m1_ge0, if_true, if_false, not_true, not_false_eq_true, Classical.not_not, true_or, or_true, false_or, n1_1, k10, Bool.true_eq_false, Bool.false_eq_true, Nat.le_refl, and_self, and_false, false_and, or_self, or_false, hf_lt, ce_lt, hf_cl, ce_cl, i_irr, i_rfl, wp_bipush (y := zX5_ranked) (nI 48) kb_48 dX5_ranked_3, wp_icmp_ge (y := zX5_ranked) 45 (by decide) dX5_ranked_5, wp_al0 (y := zX5_ranked) dX5_ranked_8, wp_getf (y := zX5_ranked) kF5_10 dX5_ranked_9, wp_getf (y := zX5_ranked) kF5_46 dX5_ranked_12, wp_il2 (y := zX5_ranked) dX5_ranked_15, wp_cv1 (y := zX5_ranked) kM5_50 (by decide) dX5_ranked_16, (show yo zX2_hasCell = 2 from rfl), wp_if_eq (y := zX5_ranked) 39 (by decide) dX5_ranked_19, wp_inc2 (y := zX5_ranked) (nI 1) ki_1 dX5_ranked_39, wp_goto (y := zX5_ranked) 2 (by decide) dX5_ranked_42, X.oc, X.g0, X.g1, X.g2, F.oc, F.g0, F.g1, F.g2, F.g3, F.g4, F.g5, F.g6, F.g7, F.g8, F.g9, F.g10, Soc, h9, E1, h1, decide_false, Bool.false_and]
  · rw [← hq]
    cases fd (fun k => decide (0 < sd s.1 (cI k)) && decide (rkg s.1 (cI k) = i)) 48 0 with
    | some j => exact ⟨rfl, R, hI_⟩
    | none =>
      dsimp only
      rw [wp_il2 (y := zX5_ranked) dX5_ranked_2]
      simp (disch := first | omega | assumption) only [mm_op_some, true_and, and_true, mm_rc_some, mm_rc_none, nI_xor, tw_xor, pk_mul, nI_add, mm_in_t, nI_clamp, ok0, ok1, ok2, ok3, ok4, n1_0, n0_0, n0_zz, n1_zz, bI_eq0, bI_ne0, bI_zz, nI_le_, nI_lt_, nI_eq_, nI_lt0, nI_ge0, nI_gt0, nI_le0, nI_eq0, m1_lt0, m1_ge0, if_true, if_false, not_true, not_false_eq_true, Classical.not_not, true_or, or_true, false_or, n1_1, k10, Bool.true_eq_false, Bool.false_eq_true, Nat.le_refl, and_self, and_false, false_and, or_self, or_false, hf_lt, ce_lt, hf_cl, ce_cl, i_irr, i_rfl, wp_bipush (y := zX5_ranked) (nI 48) kb_48 dX5_ranked_3, wp_icmp_ge (y := zX5_ranked) 45 (by decide) dX5_ranked_5, wp_iconst (y := zX5_ranked) ((-1)) ki_m1 dX5_ranked_45, wp_ireti (y := zX5_ranked) rfl dX5_ranked_46]
      exact ⟨rfl, R, hI_⟩
end X5E
