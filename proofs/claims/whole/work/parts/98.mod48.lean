section MFS
variable {sh : mm_Sh} {m : Nat} {M : Ms} {μ : mm_U} {s : Fo} {Q : Option Value → mm_U → Prop}
theorem RepM.fa {b : Nat} {μ' : mm_U} (hb : m + 2 ≤ b) (R : RepM s μ m) (F : FrA μ μ' b) : RepM s μ' m := by
  unfold RepM
  rw [F (m + 1) (by omega), F m (by omega)]
  exact R
theorem mt_fa {b : Nat} {v : Int32} {μ' : mm_U} (hb : m + 7 ≤ b) (g0 : μ m 7 = nI 0) (R : RepM s μ m) (J : Inv s.1) (F : FrA (mu μ m (upd (μ m) 0 (nI 0))) μ' b) : MT m μ (v, s) (some (.int v)) μ' :=
  ⟨rfl, (R.mu0 (nI 0)).fa (by omega) F, J, by rw [F m (by omega), mu_s, upd_n _ _ (by omega)]; exact g0, by rw [F m (by omega), mu_s, upd_s], fun a h1 h2 => by rw [F a (by omega), mu_n _ _ (by omega)]⟩
theorem Inv.spp (J : Inv M) {least : Int32} {c v : Ce} {e : Nat} (hc : 0 < sd M c) (h : (spF M least c (fun _ => none)).1 v = some e) : 0 < sd M v := by
  have D := J.spd (least := least) c
  cases e with
  | zero => rw [(D.1 v).mp h]; exact hc
  | succ e =>
    obtain ⟨u, _, g, lg, _, og, _⟩ := D.2.1 v e h
    rw [← og]
    exact J.owl _ (LvH_tw.mpr lg)
theorem m_far (O : MoSh sh m) (R : RepM s μ m) (J : Inv s.1) (g0 : μ m 7 = nI 0) (x y : Int32) : cl sh zX6_far [.ref m, .int x, .int y] μ (MT m μ (a_far s x y, s)) := by
  have R0 := R.mu0 (nI 0)
  have A := R0.1
  show wp sh zX6_far 0 [.ref m, .int x, .int y] [] μ _
  unfold a_far
  cases ex : ceO s.1 x with
  | none =>
    have E1 : ∀ Q', cl sh zX6_isCell [.ref m, .int x] (mu μ m (upd (μ m) 0 (nI 0))) Q' = Q' (some (.int (nI 0))) (mu μ m (upd (μ m) 0 (nI 0))) := fun Q' => m_isCellN O A J.sdb ex
    have fin : MT m μ ((-1 : Int32), s) (some (.int (-1))) (mu μ m (upd (μ m) 0 (nI 0))) := mt_fa (b := m + 7) (by omega) g0 R J (FrA.refl _ _)
    dsimp only
    generalize MT m μ ((-1 : Int32), s) = QQ at fin ⊢
    simp (disch := first | omega | assumption) only [mm_op_some, true_and, and_true, mm_rc_some, mm_rc_none, pk_mul, nI_add, mm_in_t, nI_clamp, ok0, ok1, ok2, ok3, ok4, n1_0, n0_0, nI_le_, nI_lt_, if_true, if_false, not_true, not_false_eq_true, ce_lt, ce_cl, hf_lt, hf_cl, n0_zz, wp_al0 (y := zX6_far) dX6_far_0, wp_iconst (y := zX6_far) (nI 0) ki_0 dX6_far_1, wp_putf (y := zX6_far) kF6_44 rfl dX6_far_2, wp_al0 (y := zX6_far) dX6_far_5, wp_il1 (y := zX6_far) dX6_far_6, wp_cv1 (y := zX6_far) kM6_93 (by decide) dX6_far_7, (show yo zX6_isCell = 6 from rfl), wp_if_eq (y := zX6_far) 21 (by decide) dX6_far_10, wp_iconst (y := zX6_far) ((-1)) ki_m1 dX6_far_21, wp_ireti (y := zX6_far) rfl dX6_far_22, O.oc, O.g0, O.g1, O.g2, O.g3, O.g4, O.g5, O.g6, O.g7, O.g9, O.g10, O.g11, O.p0, O.p7, O.a1, O.a2, O.a3, O.a4, O.a5, O.a6, O.a7, O.a8, O.a9, E1]
    exact fin
  | some a =>
    obtain ⟨rfl, ha⟩ := ceO_some ex
    have E1 : ∀ Q', cl sh zX6_isCell [.ref m, .int (nI a.val)] (mu μ m (upd (μ m) 0 (nI 0))) Q' = Q' (some (.int (nI 1))) (mu μ m (upd (μ m) 0 (nI 0))) := fun Q' => m_isCellS O A J.sdb ha
    cases ey : ceO s.1 y with
    | none =>
      have E2 : ∀ Q', cl sh zX6_isCell [.ref m, .int y] (mu μ m (upd (μ m) 0 (nI 0))) Q' = Q' (some (.int (nI 0))) (mu μ m (upd (μ m) 0 (nI 0))) := fun Q' => m_isCellN O A J.sdb ey
      have fin : MT m μ ((-1 : Int32), s) (some (.int (-1))) (mu μ m (upd (μ m) 0 (nI 0))) := mt_fa (b := m + 7) (by omega) g0 R J (FrA.refl _ _)
      dsimp only
      generalize MT m μ ((-1 : Int32), s) = QQ at fin ⊢
      simp (disch := first | omega | assumption) only [mm_op_some, true_and, and_true, mm_rc_some, mm_rc_none, pk_mul, nI_add, mm_in_t, nI_clamp, ok0, ok1, ok2, ok3, ok4, n1_0, n0_0, nI_le_, nI_lt_, if_true, if_false, not_true, not_false_eq_true, ce_lt, ce_cl, hf_lt, hf_cl, n0_zz, n1_zz, wp_al0 (y := zX6_far) dX6_far_0, wp_iconst (y := zX6_far) (nI 0) ki_0 dX6_far_1, wp_putf (y := zX6_far) kF6_44 rfl dX6_far_2, wp_al0 (y := zX6_far) dX6_far_5, wp_il1 (y := zX6_far) dX6_far_6, wp_cv1 (y := zX6_far) kM6_93 (by decide) dX6_far_7, (show yo zX6_isCell = 6 from rfl), wp_if_eq (y := zX6_far) 21 (by decide) dX6_far_10, wp_al0 (y := zX6_far) dX6_far_13, wp_il2 (y := zX6_far) dX6_far_14, wp_cv1 (y := zX6_far) kM6_93 (by decide) dX6_far_15, (show yo zX6_isCell = 6 from rfl), wp_if_ne (y := zX6_far) 23 (by decide) dX6_far_18, wp_iconst (y := zX6_far) ((-1)) ki_m1 dX6_far_21, wp_ireti (y := zX6_far) rfl dX6_far_22, O.oc, O.g0, O.g1, O.g2, O.g3, O.g4, O.g5, O.g6, O.g7, O.g9, O.g10, O.g11, O.p0, O.p7, O.a1, O.a2, O.a3, O.a4, O.a5, O.a6, O.a7, O.a8, O.a9, E1, E2]
      exact fin
    | some b =>
      obtain ⟨rfl, hb⟩ := ceO_some ey
      have E2 : ∀ Q', cl sh zX6_isCell [.ref m, .int (nI b.val)] (mu μ m (upd (μ m) 0 (nI 0))) Q' = Q' (some (.int (nI 1))) (mu μ m (upd (μ m) 0 (nI 0))) := fun Q' => m_isCellS O A J.sdb hb
      have fin : ∀ v μ', FrA (mu μ m (upd (μ m) 0 (nI 0))) μ' (m + 7) → MT m μ (v, s) (some (.int v)) μ' := fun v μ' F => mt_fa (b := m + 7) (by omega) g0 R J F
      dsimp only
      have fin := fin (fo ((spF s.1 (nI 0) a (fun _ => none)).1 b))
      generalize MT m μ (fo ((spF s.1 (nI 0) a (fun _ => none)).1 b), s) = QQ at fin ⊢
      simp (disch := first | omega | assumption) only [mm_op_some, true_and, and_true, mm_rc_some, mm_rc_none, pk_mul, nI_add, mm_in_t, nI_clamp, ok0, ok1, ok2, ok3, ok4, n1_0, n0_0, nI_le_, nI_lt_, if_true, if_false, not_true, not_false_eq_true, ce_lt, ce_cl, hf_lt, hf_cl, n0_zz, n1_zz, wp_al0 (y := zX6_far) dX6_far_0, wp_iconst (y := zX6_far) (nI 0) ki_0 dX6_far_1, wp_putf (y := zX6_far) kF6_44 rfl dX6_far_2, wp_al0 (y := zX6_far) dX6_far_5, wp_il1 (y := zX6_far) dX6_far_6, wp_cv1 (y := zX6_far) kM6_93 (by decide) dX6_far_7, (show yo zX6_isCell = 6 from rfl), wp_if_eq (y := zX6_far) 21 (by decide) dX6_far_10, wp_al0 (y := zX6_far) dX6_far_13, wp_il2 (y := zX6_far) dX6_far_14, wp_cv1 (y := zX6_far) kM6_93 (by decide) dX6_far_15, (show yo zX6_isCell = 6 from rfl), wp_if_ne (y := zX6_far) 23 (by decide) dX6_far_18, wp_al0 (y := zX6_far) dX6_far_23, wp_il1 (y := zX6_far) dX6_far_24, wp_cv1 (y := zX6_far) kM6_261 (by decide) dX6_far_25, (show yo zX6_layFar = 6 from rfl), O.oc, O.g0, O.g1, O.g2, O.g3, O.g4, O.g5, O.g6, O.g7, O.g9, O.g10, O.g11, O.p0, O.p7, O.a1, O.a2, O.a3, O.a4, O.a5, O.a6, O.a7, O.a8, O.a9, E1, E2]
      refine cl_mono (m_layFar O A J a) ?_
      rintro r μ1 ⟨rfl, F1, r1, b1⟩
      have q1 := r1 b
      simp (disch := first | omega | assumption) only [mm_op_some, true_and, and_true, mm_rc_some, mm_rc_none, pk_mul, nI_add, mm_in_t, nI_clamp, ok0, ok1, ok2, ok3, ok4, n1_0, n0_0, nI_le_, nI_lt_, if_true, if_false, not_true, not_false_eq_true, ce_lt, ce_cl, hf_lt, hf_cl, n0_zz, n1_zz, wp_al0 (y := zX6_far) dX6_far_28, wp_getf (y := zX6_far) kF6_31 dX6_far_29, wp_il2 (y := zX6_far) dX6_far_32, wp_iald (y := zX6_far) dX6_far_33, wp_ireti (y := zX6_far) rfl dX6_far_34, O.oc, O.g0, O.g1, O.g2, O.g3, O.g4, O.g5, O.g6, O.g7, O.g9, O.g10, O.g11, O.p0, O.p7, O.a1, O.a2, O.a3, O.a4, O.a5, O.a6, O.a7, O.a8, O.a9, q1]
      exact fin _ F1
theorem m_shell (O : MoSh sh m) (R : RepM s μ m) (J : Inv s.1) (g0 : μ m 7 = nI 0) (x y : Int32) : cl sh zX6_shell [.ref m, .int x, .int y] μ (MT m μ (a_shell s x y, s)) := by
  have R0 := R.mu0 (nI 0)
  have A := R0.1
  show wp sh zX6_shell 0 [.ref m, .int x, .int y, .null, .null] [] μ _
  unfold a_shell
  cases ex : ceO s.1 x with
  | none =>
    have E1 : ∀ Q', cl sh zX6_isCell [.ref m, .int x] (mu μ m (upd (μ m) 0 (nI 0))) Q' = Q' (some (.int (nI 0))) (mu μ m (upd (μ m) 0 (nI 0))) := fun Q' => m_isCellN O A J.sdb ex
    have fin : MT m μ ((-1 : Int32), s) (some (.int (-1))) (mu μ m (upd (μ m) 0 (nI 0))) := mt_fa (b := m + 7) (by omega) g0 R J (FrA.refl _ _)
    dsimp only
    generalize MT m μ ((-1 : Int32), s) = QQ at fin ⊢
    simp (disch := first | omega | assumption) only [mm_op_some, true_and, and_true, mm_rc_some, mm_rc_none, pk_mul, nI_add, mm_in_t, nI_clamp, ok0, ok1, ok2, ok3, ok4, n1_0, n0_0, nI_le_, nI_lt_, if_true, if_false, not_true, not_false_eq_true, ce_lt, ce_cl, hf_lt, hf_cl, n0_zz, wp_al0 (y := zX6_shell) dX6_shell_0, wp_iconst (y := zX6_shell) (nI 0) ki_0 dX6_shell_1, wp_putf (y := zX6_shell) kF6_44 rfl dX6_shell_2, wp_al0 (y := zX6_shell) dX6_shell_5, wp_il1 (y := zX6_shell) dX6_shell_6, wp_cv1 (y := zX6_shell) kM6_93 (by decide) dX6_shell_7, (show yo zX6_isCell = 6 from rfl), wp_if_eq (y := zX6_shell) 17 (by decide) dX6_shell_10, wp_iconst (y := zX6_shell) ((-1)) ki_m1 dX6_shell_17, wp_ireti (y := zX6_shell) rfl dX6_shell_18, O.oc, O.g0, O.g1, O.g2, O.g3, O.g4, O.g5, O.g6, O.g7, O.g9, O.g10, O.g11, O.p0, O.p7, O.a1, O.a2, O.a3, O.a4, O.a5, O.a6, O.a7, O.a8, O.a9, E1]
    exact fin
  | some a =>
    obtain ⟨rfl, ha⟩ := ceO_some ex
    have E1 : ∀ Q', cl sh zX6_isCell [.ref m, .int (nI a.val)] (mu μ m (upd (μ m) 0 (nI 0))) Q' = Q' (some (.int (nI 1))) (mu μ m (upd (μ m) 0 (nI 0))) := fun Q' => m_isCellS O A J.sdb ha
    dsimp only
    by_cases hy : y < 0
    · rw [if_pos hy]
      have hy' : ((0 : Int32) ≤ y) = False := eq_false (fun q => by rw [Int32.le_iff_toInt_le] at q; rw [Int32.lt_iff_toInt_lt] at hy; omega)
      have fin : MT m μ ((-1 : Int32), s) (some (.int (-1))) (mu μ m (upd (μ m) 0 (nI 0))) := mt_fa (b := m + 7) (by omega) g0 R J (FrA.refl _ _)
      generalize MT m μ ((-1 : Int32), s) = QQ at fin ⊢
      simp (disch := first | omega | assumption) only [mm_op_some, true_and, and_true, mm_rc_some, mm_rc_none, pk_mul, nI_add, mm_in_t, nI_clamp, ok0, ok1, ok2, ok3, ok4, n1_0, n0_0, nI_le_, nI_lt_, if_true, if_false, not_true, not_false_eq_true, ce_lt, ce_cl, hf_lt, hf_cl, n0_zz, n1_zz, wp_al0 (y := zX6_shell) dX6_shell_0, wp_iconst (y := zX6_shell) (nI 0) ki_0 dX6_shell_1, wp_putf (y := zX6_shell) kF6_44 rfl dX6_shell_2, wp_al0 (y := zX6_shell) dX6_shell_5, wp_il1 (y := zX6_shell) dX6_shell_6, wp_cv1 (y := zX6_shell) kM6_93 (by decide) dX6_shell_7, (show yo zX6_isCell = 6 from rfl), wp_if_eq (y := zX6_shell) 17 (by decide) dX6_shell_10, wp_il2 (y := zX6_shell) dX6_shell_13, wp_if_ge (y := zX6_shell) 19 (by decide) dX6_shell_14, wp_iconst (y := zX6_shell) ((-1)) ki_m1 dX6_shell_17, wp_ireti (y := zX6_shell) rfl dX6_shell_18, O.oc, O.g0, O.g1, O.g2, O.g3, O.g4, O.g5, O.g6, O.g7, O.g9, O.g10, O.g11, O.p0, O.p7, O.a1, O.a2, O.a3, O.a4, O.a5, O.a6, O.a7, O.a8, O.a9, E1, hy']
      exact fin
    · rw [if_neg hy]
      have hy' : ((0 : Int32) ≤ y) = True := eq_true (by rw [Int32.le_iff_toInt_le]; rw [Int32.lt_iff_toInt_lt] at hy; omega)
      have fin : ∀ v μ', FrA (mu μ m (upd (μ m) 0 (nI 0))) μ' (m + 7) → MT m μ (v, s) (some (.int v)) μ' := fun v μ' F => mt_fa (b := m + 7) (by omega) g0 R J F
      have fin := fin (it (cntD (spF s.1 (nI 0) a (fun _ => none)).1 y) 48 0 (nI 0))
      generalize MT m μ (it (cntD (spF s.1 (nI 0) a (fun _ => none)).1 y) 48 0 (nI 0), s) = QQ at fin ⊢
      simp (disch := first | omega | assumption) only [mm_op_some, true_and, and_true, mm_rc_some, mm_rc_none, pk_mul, nI_add, mm_in_t, nI_clamp, ok0, ok1, ok2, ok3, ok4, n1_0, n0_0, nI_le_, nI_lt_, if_true, if_false, not_true, not_false_eq_true, ce_lt, ce_cl, hf_lt, hf_cl, n0_zz, n1_zz, wp_al0 (y := zX6_shell) dX6_shell_0, wp_iconst (y := zX6_shell) (nI 0) ki_0 dX6_shell_1, wp_putf (y := zX6_shell) kF6_44 rfl dX6_shell_2, wp_al0 (y := zX6_shell) dX6_shell_5, wp_il1 (y := zX6_shell) dX6_shell_6, wp_cv1 (y := zX6_shell) kM6_93 (by decide) dX6_shell_7, (show yo zX6_isCell = 6 from rfl), wp_if_eq (y := zX6_shell) 17 (by decide) dX6_shell_10, wp_il2 (y := zX6_shell) dX6_shell_13, wp_if_ge (y := zX6_shell) 19 (by decide) dX6_shell_14, wp_al0 (y := zX6_shell) dX6_shell_19, wp_il1 (y := zX6_shell) dX6_shell_20, wp_cv1 (y := zX6_shell) kM6_261 (by decide) dX6_shell_21, (show yo zX6_layFar = 6 from rfl), O.oc, O.g0, O.g1, O.g2, O.g3, O.g4, O.g5, O.g6, O.g7, O.g9, O.g10, O.g11, O.p0, O.p7, O.a1, O.a2, O.a3, O.a4, O.a5, O.a6, O.a7, O.a8, O.a9, E1, hy']
      refine cl_mono (m_layFar O A J a) ?_
      rintro r μ1 ⟨rfl, F1, r1, b1⟩
      have A1 : MeR s.1 (μ1 (m + 1)) := by rw [F1 (m + 1) (by omega)]; exact A
      have key : ∀ k i acc, i + k = 48 → wp sh zX6_shell 29 [.ref m, .int (nI a.val), .int y, .int acc, .int (nI i)] [] μ1 QQ = QQ (some (.int (it (cntD (spF s.1 (nI 0) a (fun _ => none)).1 y) k i acc))) μ1 := by
        intro k
        induction k with
        | zero =>
          intro i acc hi
          have e : i = 48 := by omega
          rw [e, wp_il4 (y := zX6_shell) dX6_shell_29]
          simp (disch := first | omega | assumption) only [mm_op_some, true_and, and_true, mm_rc_some, mm_rc_none, pk_mul, nI_add, mm_in_t, nI_clamp, ok0, ok1, ok2, ok3, ok4, n1_0, n0_0, nI_le_, nI_lt_, if_true, if_false, not_true, not_false_eq_true, ce_lt, ce_cl, hf_lt, hf_cl, wp_bipush (y := zX6_shell) (nI 48) kb_48 dX6_shell_31, wp_icmp_ge (y := zX6_shell) 70 (by decide) dX6_shell_33, wp_il3 (y := zX6_shell) dX6_shell_70, wp_ireti (y := zX6_shell) rfl dX6_shell_71, Nat.le_refl]
          rfl
        | succ k ih =>
          intro i acc hi
          have hi' : i < 48 := by omega
          have h9 : (48 ≤ i) = False := eq_false (by omega)
          have iv := cI_lt hi'
          rw [wp_il4 (y := zX6_shell) dX6_shell_29]
          show _ = QQ (some (.int (it (cntD (spF s.1 (nI 0) a (fun _ => none)).1 y) k (i + 1) (cntD (spF s.1 (nI 0) a (fun _ => none)).1 y i acc)))) μ1
          unfold cntD
          have q1 := r1 (cI i)
          rw [iv] at q1
          by_cases hl : 0 < sd s.1 (cI i)
          · have E0 : ∀ Q', cl sh zX6_isCell [.ref m, .int (nI i)] μ1 Q' = Q' (some (.int (nI 1))) μ1 := fun Q' => m_isCell1 O A1 J.sdb hi' hl
            by_cases p : fo ((spF s.1 (nI 0) a (fun _ => none)).1 (cI i)) = y
            · have p' := eq_true p
              rw [if_pos p]
              simp (disch := first | omega | assumption) only [mm_op_some, true_and, and_true, mm_rc_some, mm_rc_none, pk_mul, nI_add, mm_in_t, nI_clamp, ok0, ok1, ok2, ok3, ok4, n1_0, n0_0, nI_le_, nI_lt_, if_true, if_false, not_true, not_false_eq_true, ce_lt, ce_cl, hf_lt, hf_cl, n0_zz, n1_zz, wp_bipush (y := zX6_shell) (nI 48) kb_48 dX6_shell_31, wp_icmp_ge (y := zX6_shell) 70 (by decide) dX6_shell_33, wp_il3 (y := zX6_shell) dX6_shell_36, wp_al0 (y := zX6_shell) dX6_shell_37, wp_il4 (y := zX6_shell) dX6_shell_38, wp_cv1 (y := zX6_shell) kM6_93 (by decide) dX6_shell_40, (show yo zX6_isCell = 6 from rfl), wp_if_eq (y := zX6_shell) 61 (by decide) dX6_shell_43, wp_al0 (y := zX6_shell) dX6_shell_46, wp_getf (y := zX6_shell) kF6_31 dX6_shell_47, wp_il4 (y := zX6_shell) dX6_shell_50, wp_iald (y := zX6_shell) dX6_shell_52, wp_il2 (y := zX6_shell) dX6_shell_53, wp_icmp_ne (y := zX6_shell) 61 (by decide) dX6_shell_54, wp_iconst (y := zX6_shell) (nI 1) ki_1 dX6_shell_57, wp_goto (y := zX6_shell) 62 (by decide) dX6_shell_58, wp_iadd (y := zX6_shell) dX6_shell_62, wp_is3 (y := zX6_shell) dX6_shell_63, wp_inc4 (y := zX6_shell) (nI 1) ki_1 dX6_shell_64, wp_goto (y := zX6_shell) 29 (by decide) dX6_shell_67, O.oc, O.g0, O.g1, O.g2, O.g3, O.g4, O.g5, O.g6, O.g7, O.g9, O.g10, O.g11, O.p0, O.p7, O.a1, O.a2, O.a3, O.a4, O.a5, O.a6, O.a7, O.a8, O.a9, E0, h9, q1, p']
              exact ih (i + 1) _ (by omega)
            · have p' := eq_false p
              rw [if_neg p]
              simp (disch := first | omega | assumption) only [mm_op_some, true_and, and_true, mm_rc_some, mm_rc_none, pk_mul, nI_add, mm_in_t, nI_clamp, ok0, ok1, ok2, ok3, ok4, n1_0, n0_0, nI_le_, nI_lt_, if_true, if_false, not_true, not_false_eq_true, ce_lt, ce_cl, hf_lt, hf_cl, n0_zz, n1_zz, wp_bipush (y := zX6_shell) (nI 48) kb_48 dX6_shell_31, wp_icmp_ge (y := zX6_shell) 70 (by decide) dX6_shell_33, wp_il3 (y := zX6_shell) dX6_shell_36, wp_al0 (y := zX6_shell) dX6_shell_37, wp_il4 (y := zX6_shell) dX6_shell_38, wp_cv1 (y := zX6_shell) kM6_93 (by decide) dX6_shell_40, (show yo zX6_isCell = 6 from rfl), wp_if_eq (y := zX6_shell) 61 (by decide) dX6_shell_43, wp_al0 (y := zX6_shell) dX6_shell_46, wp_getf (y := zX6_shell) kF6_31 dX6_shell_47, wp_il4 (y := zX6_shell) dX6_shell_50, wp_iald (y := zX6_shell) dX6_shell_52, wp_il2 (y := zX6_shell) dX6_shell_53, wp_icmp_ne (y := zX6_shell) 61 (by decide) dX6_shell_54, wp_iconst (y := zX6_shell) (nI 0) ki_0 dX6_shell_61, wp_iadd (y := zX6_shell) dX6_shell_62, wp_is3 (y := zX6_shell) dX6_shell_63, wp_inc4 (y := zX6_shell) (nI 1) ki_1 dX6_shell_64, wp_goto (y := zX6_shell) 29 (by decide) dX6_shell_67, O.oc, O.g0, O.g1, O.g2, O.g3, O.g4, O.g5, O.g6, O.g7, O.g9, O.g10, O.g11, O.p0, O.p7, O.a1, O.a2, O.a3, O.a4, O.a5, O.a6, O.a7, O.a8, O.a9, E0, h9, q1, p']
              rw [show acc + nI 0 = acc from Int32.add_zero acc]
              exact ih (i + 1) _ (by omega)
          · have E0 : ∀ Q', cl sh zX6_isCell [.ref m, .int (nI i)] μ1 Q' = Q' (some (.int (nI 0))) μ1 := fun Q' => m_isCell0 O A1 J.sdb hi' hl
            have p : ¬ fo ((spF s.1 (nI 0) a (fun _ => none)).1 (cI i)) = y := fun q => by
              cases z : (spF s.1 (nI 0) a (fun _ => none)).1 (cI i) with
              | none => rw [z] at q; exact hy (by rw [← q]; decide)
              | some e => exact hl (J.spp ha z)
            rw [if_neg p]
            simp (disch := first | omega | assumption) only [mm_op_some, true_and, and_true, mm_rc_some, mm_rc_none, pk_mul, nI_add, mm_in_t, nI_clamp, ok0, ok1, ok2, ok3, ok4, n1_0, n0_0, nI_le_, nI_lt_, if_true, if_false, not_true, not_false_eq_true, ce_lt, ce_cl, hf_lt, hf_cl, n0_zz, n1_zz, wp_bipush (y := zX6_shell) (nI 48) kb_48 dX6_shell_31, wp_icmp_ge (y := zX6_shell) 70 (by decide) dX6_shell_33, wp_il3 (y := zX6_shell) dX6_shell_36, wp_al0 (y := zX6_shell) dX6_shell_37, wp_il4 (y := zX6_shell) dX6_shell_38, wp_cv1 (y := zX6_shell) kM6_93 (by decide) dX6_shell_40, (show yo zX6_isCell = 6 from rfl), wp_if_eq (y := zX6_shell) 61 (by decide) dX6_shell_43, wp_iconst (y := zX6_shell) (nI 0) ki_0 dX6_shell_61, wp_iadd (y := zX6_shell) dX6_shell_62, wp_is3 (y := zX6_shell) dX6_shell_63, wp_inc4 (y := zX6_shell) (nI 1) ki_1 dX6_shell_64, wp_goto (y := zX6_shell) 29 (by decide) dX6_shell_67, O.oc, O.g0, O.g1, O.g2, O.g3, O.g4, O.g5, O.g6, O.g7, O.g9, O.g10, O.g11, O.p0, O.p7, O.a1, O.a2, O.a3, O.a4, O.a5, O.a6, O.a7, O.a8, O.a9, E0, h9]
            rw [show acc + nI 0 = acc from Int32.add_zero acc]
            exact ih (i + 1) _ (by omega)
      simp (disch := first | omega | assumption) only [mm_op_some, true_and, and_true, mm_rc_some, mm_rc_none, pk_mul, nI_add, mm_in_t, nI_clamp, ok0, ok1, ok2, ok3, ok4, n1_0, n0_0, nI_le_, nI_lt_, if_true, if_false, not_true, not_false_eq_true, ce_lt, ce_cl, hf_lt, hf_cl, n0_zz, n1_zz, wp_iconst (y := zX6_shell) (nI 0) ki_0 dX6_shell_24, wp_is3 (y := zX6_shell) dX6_shell_25, wp_iconst (y := zX6_shell) (nI 0) ki_0 dX6_shell_26, wp_is4 (y := zX6_shell) dX6_shell_27, O.oc, O.g0, O.g1, O.g2, O.g3, O.g4, O.g5, O.g6, O.g7, O.g9, O.g10, O.g11, O.p0, O.p7, O.a1, O.a2, O.a3, O.a4, O.a5, O.a6, O.a7, O.a8, O.a9]
      rw [key 48 0 (nI 0) (by omega)]
      exact fin _ F1
theorem cntD_nn (f : Ce → Option Nat) (x : Int32) (i : Nat) : it (cntD f x) i 0 (nI 0) = nI (sm i (fun j => b1 (decide (fo (f (cI j)) = x)))) := by
  rw [← it_cnt]
  exact it_congr i 0 _ (fun j a _ _ => by
    unfold cntD
    by_cases h : fo (f (cI j)) = x
    · rw [if_pos h, if_pos (decide_eq_true h)]
    · rw [if_neg h, if_neg (fun q => h (of_decide_eq_true q))])
theorem whi_neg (f : Ce → Option Nat) (x y : Int32) (h : y < 0) : fd (whiP f x y) 48 0 = none := by
  cases e : fd (whiP f x y) 48 0 with
  | none => rfl
  | some j =>
    obtain ⟨p1, _, p3, _⟩ := fd_some e
    have := (of_decide_eq_true p1).2
    rw [cntD_nn] at this
    have b : sm j (fun j => b1 (decide (fo (f (cI j)) = x))) ≤ j * 1 := sm_le j (fun j _ => b1_le _)
    rw [← this, Int32.lt_iff_toInt_lt, nI_toInt (by omega), show (0 : Int32).toInt = 0 from rfl] at h
    omega
theorem m_shellOf (O : MoSh sh m) (R : RepM s μ m) (J : Inv s.1) (g0 : μ m 7 = nI 0) (x y z : Int32) : cl sh zX6_shellOf [.ref m, .int x, .int y, .int z] μ (MT m μ (a_shellOf s x y z, s)) := by
  have R0 := R.mu0 (nI 0)
  have A := R0.1
  show wp sh zX6_shellOf 0 [.ref m, .int x, .int y, .int z, .null, .null] [] μ _
  unfold a_shellOf
  cases ex : ceO s.1 x with
  | none =>
    have E1 : ∀ Q', cl sh zX6_isCell [.ref m, .int x] (mu μ m (upd (μ m) 0 (nI 0))) Q' = Q' (some (.int (nI 0))) (mu μ m (upd (μ m) 0 (nI 0))) := fun Q' => m_isCellN O A J.sdb ex
    have fin : MT m μ ((-1 : Int32), s) (some (.int (-1))) (mu μ m (upd (μ m) 0 (nI 0))) := mt_fa (b := m + 7) (by omega) g0 R J (FrA.refl _ _)
    dsimp only
    generalize MT m μ ((-1 : Int32), s) = QQ at fin ⊢
    simp (disch := first | omega | assumption) only [mm_op_some, true_and, and_true, mm_rc_some, mm_rc_none, pk_mul, nI_add, mm_in_t, nI_clamp, ok0, ok1, ok2, ok3, ok4, n1_0, n0_0, nI_le_, nI_lt_, if_true, if_false, not_true, not_false_eq_true, ce_lt, ce_cl, hf_lt, hf_cl, n0_zz, wp_al0 (y := zX6_shellOf) dX6_shellOf_0, wp_iconst (y := zX6_shellOf) (nI 0) ki_0 dX6_shellOf_1, wp_putf (y := zX6_shellOf) kF6_44 rfl dX6_shellOf_2, wp_al0 (y := zX6_shellOf) dX6_shellOf_5, wp_il1 (y := zX6_shellOf) dX6_shellOf_6, wp_cv1 (y := zX6_shellOf) kM6_93 (by decide) dX6_shellOf_7, (show yo zX6_isCell = 6 from rfl), wp_if_eq (y := zX6_shellOf) 17 (by decide) dX6_shellOf_10, wp_iconst (y := zX6_shellOf) ((-1)) ki_m1 dX6_shellOf_17, wp_ireti (y := zX6_shellOf) rfl dX6_shellOf_18, O.oc, O.g0, O.g1, O.g2, O.g3, O.g4, O.g5, O.g6, O.g7, O.g9, O.g10, O.g11, O.p0, O.p7, O.a1, O.a2, O.a3, O.a4, O.a5, O.a6, O.a7, O.a8, O.a9, E1]
    exact fin
  | some a =>
    obtain ⟨rfl, ha⟩ := ceO_some ex
    have E1 : ∀ Q', cl sh zX6_isCell [.ref m, .int (nI a.val)] (mu μ m (upd (μ m) 0 (nI 0))) Q' = Q' (some (.int (nI 1))) (mu μ m (upd (μ m) 0 (nI 0))) := fun Q' => m_isCellS O A J.sdb ha
    dsimp only
    by_cases hy : y < 0
    · rw [if_pos hy]
      have hy' : ((0 : Int32) ≤ y) = False := eq_false (fun q => by rw [Int32.le_iff_toInt_le] at q; rw [Int32.lt_iff_toInt_lt] at hy; omega)
      have fin : MT m μ ((-1 : Int32), s) (some (.int (-1))) (mu μ m (upd (μ m) 0 (nI 0))) := mt_fa (b := m + 7) (by omega) g0 R J (FrA.refl _ _)
      generalize MT m μ ((-1 : Int32), s) = QQ at fin ⊢
      simp (disch := first | omega | assumption) only [mm_op_some, true_and, and_true, mm_rc_some, mm_rc_none, pk_mul, nI_add, mm_in_t, nI_clamp, ok0, ok1, ok2, ok3, ok4, n1_0, n0_0, nI_le_, nI_lt_, if_true, if_false, not_true, not_false_eq_true, ce_lt, ce_cl, hf_lt, hf_cl, n0_zz, n1_zz, wp_al0 (y := zX6_shellOf) dX6_shellOf_0, wp_iconst (y := zX6_shellOf) (nI 0) ki_0 dX6_shellOf_1, wp_putf (y := zX6_shellOf) kF6_44 rfl dX6_shellOf_2, wp_al0 (y := zX6_shellOf) dX6_shellOf_5, wp_il1 (y := zX6_shellOf) dX6_shellOf_6, wp_cv1 (y := zX6_shellOf) kM6_93 (by decide) dX6_shellOf_7, (show yo zX6_isCell = 6 from rfl), wp_if_eq (y := zX6_shellOf) 17 (by decide) dX6_shellOf_10, wp_il2 (y := zX6_shellOf) dX6_shellOf_13, wp_if_ge (y := zX6_shellOf) 19 (by decide) dX6_shellOf_14, wp_iconst (y := zX6_shellOf) ((-1)) ki_m1 dX6_shellOf_17, wp_ireti (y := zX6_shellOf) rfl dX6_shellOf_18, O.oc, O.g0, O.g1, O.g2, O.g3, O.g4, O.g5, O.g6, O.g7, O.g9, O.g10, O.g11, O.p0, O.p7, O.a1, O.a2, O.a3, O.a4, O.a5, O.a6, O.a7, O.a8, O.a9, E1, hy']
      exact fin
    · rw [if_neg hy]
      have hy' : ((0 : Int32) ≤ y) = True := eq_true (by rw [Int32.le_iff_toInt_le]; rw [Int32.lt_iff_toInt_lt] at hy; omega)
      have ez : (if z < 0 then (-1 : Int32) else fo (fd (whiP (spF s.1 (nI 0) a (fun _ => none)).1 y z) 48 0)) = fo (fd (whiP (spF s.1 (nI 0) a (fun _ => none)).1 y z) 48 0) := by
        by_cases hz : z < 0
        · rw [if_pos hz, whi_neg _ _ _ hz]
          rfl
        · rw [if_neg hz]
      rw [ez]
      have fin : ∀ v μ', FrA (mu μ m (upd (μ m) 0 (nI 0))) μ' (m + 7) → MT m μ (v, s) (some (.int v)) μ' := fun v μ' F => mt_fa (b := m + 7) (by omega) g0 R J F
      have fin := fin (fo (fd (whiP (spF s.1 (nI 0) a (fun _ => none)).1 y z) 48 0))
      generalize MT m μ (fo (fd (whiP (spF s.1 (nI 0) a (fun _ => none)).1 y z) 48 0), s) = QQ at fin ⊢
      simp (disch := first | omega | assumption) only [mm_op_some, true_and, and_true, mm_rc_some, mm_rc_none, pk_mul, nI_add, mm_in_t, nI_clamp, ok0, ok1, ok2, ok3, ok4, n1_0, n0_0, nI_le_, nI_lt_, if_true, if_false, not_true, not_false_eq_true, ce_lt, ce_cl, hf_lt, hf_cl, n0_zz, n1_zz, wp_al0 (y := zX6_shellOf) dX6_shellOf_0, wp_iconst (y := zX6_shellOf) (nI 0) ki_0 dX6_shellOf_1, wp_putf (y := zX6_shellOf) kF6_44 rfl dX6_shellOf_2, wp_al0 (y := zX6_shellOf) dX6_shellOf_5, wp_il1 (y := zX6_shellOf) dX6_shellOf_6, wp_cv1 (y := zX6_shellOf) kM6_93 (by decide) dX6_shellOf_7, (show yo zX6_isCell = 6 from rfl), wp_if_eq (y := zX6_shellOf) 17 (by decide) dX6_shellOf_10, wp_il2 (y := zX6_shellOf) dX6_shellOf_13, wp_if_ge (y := zX6_shellOf) 19 (by decide) dX6_shellOf_14, wp_al0 (y := zX6_shellOf) dX6_shellOf_19, wp_il1 (y := zX6_shellOf) dX6_shellOf_20, wp_cv1 (y := zX6_shellOf) kM6_261 (by decide) dX6_shellOf_21, (show yo zX6_layFar = 6 from rfl), O.oc, O.g0, O.g1, O.g2, O.g3, O.g4, O.g5, O.g6, O.g7, O.g9, O.g10, O.g11, O.p0, O.p7, O.a1, O.a2, O.a3, O.a4, O.a5, O.a6, O.a7, O.a8, O.a9, E1, hy']
      refine cl_mono (m_layFar O A J a) ?_
      rintro r μ1 ⟨rfl, F1, r1, b1⟩
      have A1 : MeR s.1 (μ1 (m + 1)) := by rw [F1 (m + 1) (by omega)]; exact A
      have key : ∀ k i, i + k = 48 → wp sh zX6_shellOf 30 [.ref m, .int (nI a.val), .int y, .int z, .int (it (cntD (spF s.1 (nI 0) a (fun _ => none)).1 y) i 0 (nI 0)), .int (nI i)] [] μ1 QQ = QQ (some (.int (fo (fd (whiP (spF s.1 (nI 0) a (fun _ => none)).1 y z) k i)))) μ1 := by
        intro k
        induction k with
        | zero =>
          intro i hi
          have e : i = 48 := by omega
          rw [e, wp_il5 (y := zX6_shellOf) dX6_shellOf_30]
          simp (disch := first | omega | assumption) only [mm_op_some, true_and, and_true, mm_rc_some, mm_rc_none, pk_mul, nI_add, mm_in_t, nI_clamp, ok0, ok1, ok2, ok3, ok4, n1_0, n0_0, nI_le_, nI_lt_, if_true, if_false, not_true, not_false_eq_true, ce_lt, ce_cl, hf_lt, hf_cl, wp_bipush (y := zX6_shellOf) (nI 48) kb_48 dX6_shellOf_32, wp_icmp_ge (y := zX6_shellOf) 75 (by decide) dX6_shellOf_34, wp_iconst (y := zX6_shellOf) ((-1)) ki_m1 dX6_shellOf_75, wp_ireti (y := zX6_shellOf) rfl dX6_shellOf_76, Nat.le_refl]
          rfl
        | succ k ih =>
          intro i hi
          have hi' : i < 48 := by omega
          have h9 : (48 ≤ i) = False := eq_false (by omega)
          have iv := cI_lt hi'
          rw [wp_il5 (y := zX6_shellOf) dX6_shellOf_30]
          have nxt := ih (i + 1) (by omega)
          rw [it_last0] at nxt
          unfold fd
          unfold cntD at nxt
          have q1 := r1 (cI i)
          rw [iv] at q1
          have w : whiP (spF s.1 (nI 0) a (fun _ => none)).1 y z i = decide (fo ((spF s.1 (nI 0) a (fun _ => none)).1 (cI i)) = y ∧ it (cntD (spF s.1 (nI 0) a (fun _ => none)).1 y) i 0 (nI 0) = z) := rfl
          rw [w]
          by_cases p : fo ((spF s.1 (nI 0) a (fun _ => none)).1 (cI i)) = y
          · have p' := eq_true p
            have hl : 0 < sd s.1 (cI i) := by
              cases z : (spF s.1 (nI 0) a (fun _ => none)).1 (cI i) with
              | none => rw [z] at p; exact absurd (show y < 0 by rw [← p]; decide) hy
              | some e => exact J.spp ha z
            have E0 : ∀ Q', cl sh zX6_isCell [.ref m, .int (nI i)] μ1 Q' = Q' (some (.int (nI 1))) μ1 := fun Q' => m_isCell1 O A1 J.sdb hi' hl
            rw [if_pos p] at nxt
            change wp sh zX6_shellOf 30 [.ref m, .int (nI a.val), .int y, .int z, .int (it (cntD (spF s.1 (nI 0) a (fun _ => none)).1 y) i 0 (nI 0) + nI 1), .int (nI (i + 1))] [] μ1 QQ = _ at nxt
            generalize it (cntD (spF s.1 (nI 0) a (fun _ => none)).1 y) i 0 (nI 0) = cc at nxt ⊢
            by_cases p2 : cc = z
            · have p2' := eq_true p2
              rw [decide_eq_true ⟨p, p2⟩, if_pos rfl]
              simp (disch := first | omega | assumption) only [mm_op_some, true_and, and_true, mm_rc_some, mm_rc_none, pk_mul, nI_add, mm_in_t, nI_clamp, ok0, ok1, ok2, ok3, ok4, n1_0, n0_0, nI_le_, nI_lt_, if_true, if_false, not_true, not_false_eq_true, ce_lt, ce_cl, hf_lt, hf_cl, n0_zz, n1_zz, wp_bipush (y := zX6_shellOf) (nI 48) kb_48 dX6_shellOf_32, wp_icmp_ge (y := zX6_shellOf) 75 (by decide) dX6_shellOf_34, wp_al0 (y := zX6_shellOf) dX6_shellOf_37, wp_il5 (y := zX6_shellOf) dX6_shellOf_38, wp_cv1 (y := zX6_shellOf) kM6_93 (by decide) dX6_shellOf_40, (show yo zX6_isCell = 6 from rfl), wp_if_eq (y := zX6_shellOf) 69 (by decide) dX6_shellOf_43, wp_al0 (y := zX6_shellOf) dX6_shellOf_46, wp_getf (y := zX6_shellOf) kF6_31 dX6_shellOf_47, wp_il5 (y := zX6_shellOf) dX6_shellOf_50, wp_iald (y := zX6_shellOf) dX6_shellOf_52, wp_il2 (y := zX6_shellOf) dX6_shellOf_53, wp_icmp_ne (y := zX6_shellOf) 69 (by decide) dX6_shellOf_54, wp_il4 (y := zX6_shellOf) dX6_shellOf_57, wp_il3 (y := zX6_shellOf) dX6_shellOf_59, wp_icmp_ne (y := zX6_shellOf) 66 (by decide) dX6_shellOf_60, wp_il5 (y := zX6_shellOf) dX6_shellOf_63, wp_ireti (y := zX6_shellOf) rfl dX6_shellOf_65, O.oc, O.g0, O.g1, O.g2, O.g3, O.g4, O.g5, O.g6, O.g7, O.g9, O.g10, O.g11, O.p0, O.p7, O.a1, O.a2, O.a3, O.a4, O.a5, O.a6, O.a7, O.a8, O.a9, E0, h9, q1, p', p2']
              rfl
            · have p2' := eq_false p2
              rw [decide_eq_false (fun t => p2 t.2), if_neg (by decide)]
              simp (disch := first | omega | assumption) only [mm_op_some, true_and, and_true, mm_rc_some, mm_rc_none, pk_mul, nI_add, mm_in_t, nI_clamp, ok0, ok1, ok2, ok3, ok4, n1_0, n0_0, nI_le_, nI_lt_, if_true, if_false, not_true, not_false_eq_true, ce_lt, ce_cl, hf_lt, hf_cl, n0_zz, n1_zz, wp_bipush (y := zX6_shellOf) (nI 48) kb_48 dX6_shellOf_32, wp_icmp_ge (y := zX6_shellOf) 75 (by decide) dX6_shellOf_34, wp_al0 (y := zX6_shellOf) dX6_shellOf_37, wp_il5 (y := zX6_shellOf) dX6_shellOf_38, wp_cv1 (y := zX6_shellOf) kM6_93 (by decide) dX6_shellOf_40, (show yo zX6_isCell = 6 from rfl), wp_if_eq (y := zX6_shellOf) 69 (by decide) dX6_shellOf_43, wp_al0 (y := zX6_shellOf) dX6_shellOf_46, wp_getf (y := zX6_shellOf) kF6_31 dX6_shellOf_47, wp_il5 (y := zX6_shellOf) dX6_shellOf_50, wp_iald (y := zX6_shellOf) dX6_shellOf_52, wp_il2 (y := zX6_shellOf) dX6_shellOf_53, wp_icmp_ne (y := zX6_shellOf) 69 (by decide) dX6_shellOf_54, wp_il4 (y := zX6_shellOf) dX6_shellOf_57, wp_il3 (y := zX6_shellOf) dX6_shellOf_59, wp_icmp_ne (y := zX6_shellOf) 66 (by decide) dX6_shellOf_60, wp_inc4 (y := zX6_shellOf) (nI 1) ki_1 dX6_shellOf_66, wp_inc5 (y := zX6_shellOf) (nI 1) ki_1 dX6_shellOf_69, wp_goto (y := zX6_shellOf) 30 (by decide) dX6_shellOf_72, O.oc, O.g0, O.g1, O.g2, O.g3, O.g4, O.g5, O.g6, O.g7, O.g9, O.g10, O.g11, O.p0, O.p7, O.a1, O.a2, O.a3, O.a4, O.a5, O.a6, O.a7, O.a8, O.a9, E0, h9, q1, p', p2']
              exact nxt
          · have p' := eq_false p
            rw [if_neg p] at nxt
            change wp sh zX6_shellOf 30 [.ref m, .int (nI a.val), .int y, .int z, .int (it (cntD (spF s.1 (nI 0) a (fun _ => none)).1 y) i 0 (nI 0)), .int (nI (i + 1))] [] μ1 QQ = _ at nxt
            rw [decide_eq_false (fun t => p t.1), if_neg (by decide)]
            by_cases hl : 0 < sd s.1 (cI i)
            · have E0 : ∀ Q', cl sh zX6_isCell [.ref m, .int (nI i)] μ1 Q' = Q' (some (.int (nI 1))) μ1 := fun Q' => m_isCell1 O A1 J.sdb hi' hl
              simp (disch := first | omega | assumption) only [mm_op_some, true_and, and_true, mm_rc_some, mm_rc_none, pk_mul, nI_add, mm_in_t, nI_clamp, ok0, ok1, ok2, ok3, ok4, n1_0, n0_0, nI_le_, nI_lt_, if_true, if_false, not_true, not_false_eq_true, ce_lt, ce_cl, hf_lt, hf_cl, n0_zz, n1_zz, wp_bipush (y := zX6_shellOf) (nI 48) kb_48 dX6_shellOf_32, wp_icmp_ge (y := zX6_shellOf) 75 (by decide) dX6_shellOf_34, wp_al0 (y := zX6_shellOf) dX6_shellOf_37, wp_il5 (y := zX6_shellOf) dX6_shellOf_38, wp_cv1 (y := zX6_shellOf) kM6_93 (by decide) dX6_shellOf_40, (show yo zX6_isCell = 6 from rfl), wp_if_eq (y := zX6_shellOf) 69 (by decide) dX6_shellOf_43, wp_al0 (y := zX6_shellOf) dX6_shellOf_46, wp_getf (y := zX6_shellOf) kF6_31 dX6_shellOf_47, wp_il5 (y := zX6_shellOf) dX6_shellOf_50, wp_iald (y := zX6_shellOf) dX6_shellOf_52, wp_il2 (y := zX6_shellOf) dX6_shellOf_53, wp_icmp_ne (y := zX6_shellOf) 69 (by decide) dX6_shellOf_54, wp_inc5 (y := zX6_shellOf) (nI 1) ki_1 dX6_shellOf_69, wp_goto (y := zX6_shellOf) 30 (by decide) dX6_shellOf_72, O.oc, O.g0, O.g1, O.g2, O.g3, O.g4, O.g5, O.g6, O.g7, O.g9, O.g10, O.g11, O.p0, O.p7, O.a1, O.a2, O.a3, O.a4, O.a5, O.a6, O.a7, O.a8, O.a9, E0, h9, q1, p']
              exact nxt
            · have E0 : ∀ Q', cl sh zX6_isCell [.ref m, .int (nI i)] μ1 Q' = Q' (some (.int (nI 0))) μ1 := fun Q' => m_isCell0 O A1 J.sdb hi' hl
              simp (disch := first | omega | assumption) only [mm_op_some, true_and, and_true, mm_rc_some, mm_rc_none, pk_mul, nI_add, mm_in_t, nI_clamp, ok0, ok1, ok2, ok3, ok4, n1_0, n0_0, nI_le_, nI_lt_, if_true, if_false, not_true, not_false_eq_true, ce_lt, ce_cl, hf_lt, hf_cl, n0_zz, n1_zz, wp_bipush (y := zX6_shellOf) (nI 48) kb_48 dX6_shellOf_32, wp_icmp_ge (y := zX6_shellOf) 75 (by decide) dX6_shellOf_34, wp_al0 (y := zX6_shellOf) dX6_shellOf_37, wp_il5 (y := zX6_shellOf) dX6_shellOf_38, wp_cv1 (y := zX6_shellOf) kM6_93 (by decide) dX6_shellOf_40, (show yo zX6_isCell = 6 from rfl), wp_if_eq (y := zX6_shellOf) 69 (by decide) dX6_shellOf_43, wp_inc5 (y := zX6_shellOf) (nI 1) ki_1 dX6_shellOf_69, wp_goto (y := zX6_shellOf) 30 (by decide) dX6_shellOf_72, O.oc, O.g0, O.g1, O.g2, O.g3, O.g4, O.g5, O.g6, O.g7, O.g9, O.g10, O.g11, O.p0, O.p7, O.a1, O.a2, O.a3, O.a4, O.a5, O.a6, O.a7, O.a8, O.a9, E0, h9]
              exact nxt
      simp (disch := first | omega | assumption) only [mm_op_some, true_and, and_true, mm_rc_some, mm_rc_none, pk_mul, nI_add, mm_in_t, nI_clamp, ok0, ok1, ok2, ok3, ok4, n1_0, n0_0, nI_le_, nI_lt_, if_true, if_false, not_true, not_false_eq_true, ce_lt, ce_cl, hf_lt, hf_cl, n0_zz, n1_zz, wp_iconst (y := zX6_shellOf) (nI 0) ki_0 dX6_shellOf_24, wp_is4 (y := zX6_shellOf) dX6_shellOf_25, wp_iconst (y := zX6_shellOf) (nI 0) ki_0 dX6_shellOf_27, wp_is5 (y := zX6_shellOf) dX6_shellOf_28, O.oc, O.g0, O.g1, O.g2, O.g3, O.g4, O.g5, O.g6, O.g7, O.g9, O.g10, O.g11, O.p0, O.p7, O.a1, O.a2, O.a3, O.a4, O.a5, O.a6, O.a7, O.a8, O.a9]
      have k0 := key 48 0 (by omega)
      change wp sh zX6_shellOf 30 [.ref m, .int (nI a.val), .int y, .int z, .int (nI 0), .int (nI 0)] [] μ1 QQ = _ at k0
      rw [k0]
      exact fin _ F1
end MFS
