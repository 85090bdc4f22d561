section MAM
variable {sh : mm_Sh} {m : Nat} {M N : Ms} {μ : mm_U} {s : Fo} {Q : Option Value → mm_U → Prop}
theorem al8 (J : Inv M) (hne : NE M) : it (fun i a => imax a (nI (sd M (cI i)))) 48 0 (nI 0) = it (fun i a => if 0 < sd M (cI i) then imax a (nI (sd M (cI i))) else a) 48 0 (-2147483648) := by
  have key : ∀ n, n ≤ 48 → (it (fun i a => imax a (nI (sd M (cI i)))) n 0 (nI 0) = it (fun i a => if 0 < sd M (cI i) then imax a (nI (sd M (cI i))) else a) n 0 (-2147483648) ∧ 0 ≤ (it (fun i a => imax a (nI (sd M (cI i)))) n 0 (nI 0)).toInt) ∨ ((∀ k, k < n → sd M (cI k) = 0) ∧ it (fun i a => imax a (nI (sd M (cI i)))) n 0 (nI 0) = nI 0 ∧ it (fun i a => if 0 < sd M (cI i) then imax a (nI (sd M (cI i))) else a) n 0 (-2147483648) = -2147483648) := by
    intro n
    induction n with
    | zero => intro _; exact Or.inr ⟨fun k hk => by omega, rfl, rfl⟩
    | succ n ih =>
      intro hn
      rw [it_last0, it_last0]
      have b := J.sdb (cI n)
      have tb : (nI (sd M (cI n))).toInt = sd M (cI n) := nI_toInt (by omega)
      rcases ih (by omega) with ⟨e, h⟩ | ⟨hz, e1, e2⟩
      · refine Or.inl ?_
        rw [← e]
        generalize it (fun i a => imax a (nI (sd M (cI i)))) n 0 (nI 0) = A at h ⊢
        by_cases q : 0 < sd M (cI n)
        · rw [if_pos q]
          refine ⟨rfl, ?_⟩
          unfold imax
          split
          · rw [tb]; omega
          · exact h
        · rw [if_neg q]
          have z : ¬ A < nI (sd M (cI n)) := by rw [Int32.lt_iff_toInt_lt, tb]; omega
          unfold imax
          rw [if_neg z]
          exact ⟨rfl, h⟩
      · rw [e1, e2]
        by_cases q : 0 < sd M (cI n)
        · refine Or.inl ?_
          rw [if_pos q]
          have z1 : nI 0 < nI (sd M (cI n)) := by rw [Int32.lt_iff_toInt_lt, tb, nI_toInt (by omega)]; omega
          have z2 : (-2147483648 : Int32) < nI (sd M (cI n)) := by
            rw [Int32.lt_iff_toInt_lt, tb]
            have : (-2147483648 : Int32).toInt = -2147483648 := rfl
            omega
          unfold imax
          rw [if_pos z1, if_pos z2]
          exact ⟨rfl, by rw [tb]; omega⟩
        · refine Or.inr ⟨fun k hk => ?_, ?_, ?_⟩
          · by_cases y : k = n
            · rw [y]; omega
            · exact hz k (by omega)
          · have z : sd M (cI n) = 0 := by omega
            rw [z]
            rfl
          · rw [if_neg q]
  rcases key 48 (Nat.le_refl _) with h | ⟨hz, _, _⟩
  · exact h.1
  · obtain ⟨c, hc⟩ := hne
    have := hz c.val c.isLt
    rw [cI_val] at this
    omega
theorem al9 (J : Inv M) (hne : NE M) : it (fun i a => if 0 < sd M (cI i) then imin a (nI (sd M (cI i))) else a) 48 0 (nI 288) = it (fun i a => if 0 < sd M (cI i) then imin a (nI (sd M (cI i))) else a) 48 0 2147483647 := by
  have key : ∀ n, n ≤ 48 → (it (fun i a => if 0 < sd M (cI i) then imin a (nI (sd M (cI i))) else a) n 0 (nI 288) = it (fun i a => if 0 < sd M (cI i) then imin a (nI (sd M (cI i))) else a) n 0 2147483647) ∨ ((∀ k, k < n → sd M (cI k) = 0) ∧ it (fun i a => if 0 < sd M (cI i) then imin a (nI (sd M (cI i))) else a) n 0 (nI 288) = nI 288 ∧ it (fun i a => if 0 < sd M (cI i) then imin a (nI (sd M (cI i))) else a) n 0 2147483647 = 2147483647) := by
    intro n
    induction n with
    | zero => intro _; exact Or.inr ⟨fun k hk => by omega, rfl, rfl⟩
    | succ n ih =>
      intro hn
      rw [it_last0, it_last0]
      have b := J.sdb (cI n)
      have tb : (nI (sd M (cI n))).toInt = sd M (cI n) := nI_toInt (by omega)
      rcases ih (by omega) with e | ⟨hz, e1, e2⟩
      · exact Or.inl (by rw [e])
      · rw [e1, e2]
        by_cases q : 0 < sd M (cI n)
        · refine Or.inl ?_
          rw [if_pos q, if_pos q]
          have z2 : nI (sd M (cI n)) < (2147483647 : Int32) := by
            rw [Int32.lt_iff_toInt_lt, tb]
            have : (2147483647 : Int32).toInt = 2147483647 := rfl
            omega
          unfold imin
          rw [if_pos z2]
          by_cases y : sd M (cI n) = 288
          · rw [y]; rfl
          · rw [if_pos (by rw [Int32.lt_iff_toInt_lt, tb, nI_toInt (by omega)]; omega)]
        · refine Or.inr ⟨fun k hk => ?_, ?_, ?_⟩
          · by_cases y : k = n
            · rw [y]; omega
            · exact hz k (by omega)
          · rw [if_neg q]
          · rw [if_neg q]
  rcases key 48 (Nat.le_refl _) with h | ⟨hz, _, _⟩
  · exact h
  · obtain ⟨c, hc⟩ := hne
    have := hz c.val c.isLt
    rw [cI_val] at this
    omega
theorem m_all (O : MoSh sh m) (R : RepM s μ m) (J : Inv s.1) (hne : NE s.1) (g0 : μ m 7 = nI 0) (what : Int32) : cl sh zX6_all [.ref m, .int what] μ (MT m μ (a_all s what, s)) := by
  have R0 := R.mu0 (nI 0)
  have ES : ∀ Q', cl sh zX6_strain [.ref m] (mu μ m (upd (μ m) 0 (nI 0))) Q' = Q' (some (.int (stn s.1))) (mu μ m (upd (μ m) 0 (nI 0))) := fun Q' => m_strain O R0.1 J
  have EL : ∀ Q', cl sh zX6_ofWalls [.ref m, .int (nI 1)] (mu μ m (upd (μ m) 0 (nI 0))) Q' = Q' (some (.int (sW s.1 (ln s.1)))) (mu μ m (upd (μ m) 0 (nI 0))) := fun Q' => m_ofWallsL O R0.1 J
  have EN : ∀ Q', cl sh zX6_ofWalls [.ref m, .int (nI 0)] (mu μ m (upd (μ m) 0 (nI 0))) Q' = Q' (some (.int (it (fun i a => if lv s.1 (wI i) = true then (if can s.1 (wI i) = true then a + nI 1 else a) else a) 144 0 (nI 0)))) (mu μ m (upd (μ m) 0 (nI 0))) := fun Q' => m_ofWallsS O R0.1 J
  have EE : ∀ Q', cl sh zX6_easier [.ref m] (mu μ m (upd (μ m) 0 (nI 0))) Q' = Q' (some (.int (es s.1).1)) (mu μ m (upd (μ m) 0 (nI 0))) := fun Q' => m_easier O R0.1 J
  have EO1 : ∀ Q', cl sh zX6_ofCells [.ref m, .int (nI 1)] (mu μ m (upd (μ m) 0 (nI 0))) Q' = Q' (some (.int (sC s.1 (tn s.1)))) (mu μ m (upd (μ m) 0 (nI 0))) := fun Q' => m_ofCells1 O R0.1 J
  have EO2 : ∀ Q', cl sh zX6_ofCells [.ref m, .int (nI 2)] (mu μ m (upd (μ m) 0 (nI 0))) Q' = Q' (some (.int (sC s.1 (ar s.1)))) (mu μ m (upd (μ m) 0 (nI 0))) := fun Q' => m_ofCells2 O R0.1 J
  have EO3 := fun Q' => m_ofCells3 (Q := Q') O R0.1 J
  have EO4 := fun Q' => m_ofCells4 (Q := Q') O R0.1 J
  have EO8 := fun Q' => m_ofCells8 (Q := Q') O R0.1 J
  have EO9 := fun Q' => m_ofCells9 (Q := Q') O R0.1 J
  have pre : ∀ QQ, cl sh zX6_all [.ref m, .int what] μ QQ = wp sh zX6_all 6 [.ref m, .int what] [.int what] (mu μ m (upd (μ m) 0 (nI 0))) QQ := by
    intro QQ
    show wp sh zX6_all 0 [.ref m, .int what] [] μ QQ = _
    simp (disch := first | omega | assumption) only [mm_op_some, true_and, and_true, mm_rc_some, mm_rc_none, pk_mul, nI_add, mm_in_t, nI_clamp, ok0, ok1, ok2, ok3, ok4, n1_0, n0_0, nI_le_, nI_lt_, if_true, if_false, not_true, not_false_eq_true, ce_lt, ce_cl, hf_lt, hf_cl, wp_al0 (y := zX6_all) dX6_all_0, wp_iconst (y := zX6_all) (nI 0) ki_0 dX6_all_1, wp_putf (y := zX6_all) kF6_44 rfl dX6_all_2, wp_il1 (y := zX6_all) dX6_all_5, O.oc, O.g0, O.g1, O.g2, O.g3, O.g4, O.g5, O.g6, O.g7, O.g9, O.g10, O.g11, O.p0, O.p7, O.a1, O.a2, O.a3, O.a4, O.a5, O.a6, O.a7, O.a8, O.a9]
  rw [pre]
  unfold a_all
  by_cases w0 : what = nI 0
  · subst w0
    rw [if_pos rfl, wp_tsIn (y := zX6_all) 52 dX6_all_6 (by decide) rfl (by decide)]
    simp (disch := first | omega | assumption) only [mm_op_some, true_and, and_true, mm_rc_some, mm_rc_none, pk_mul, nI_add, mm_in_t, nI_clamp, ok0, ok1, ok2, ok3, ok4, n1_0, n0_0, nI_le_, nI_lt_, if_true, if_false, not_true, not_false_eq_true, ce_lt, ce_cl, hf_lt, hf_cl, n0_zz, n1_zz, bI_zz, true_and, wp_al0 (y := zX6_all) dX6_all_52, wp_cv0 (y := zX6_all) kM6_288 (by decide) dX6_all_53, (show yo zX6_strain = 6 from rfl), wp_ireti (y := zX6_all) rfl dX6_all_56, O.oc, O.g0, O.g1, O.g2, O.g3, O.g4, O.g5, O.g6, O.g7, O.g9, O.g10, O.g11, O.p0, O.p7, O.a1, O.a2, O.a3, O.a4, O.a5, O.a6, O.a7, O.a8, O.a9, ES]
    exact mt_ro g0 rfl (RO.refl _ _) rfl R0 J
  · rw [if_neg w0]
    by_cases w1 : what = nI 1
    · subst w1
      rw [if_pos rfl, wp_tsIn (y := zX6_all) 83 dX6_all_6 (by decide) rfl (by decide)]
      have ee : mm_isin (nI 1).toInt64 1 9 = nI 1 := by decide
      simp (disch := first | omega | assumption) only [mm_op_some, true_and, and_true, mm_rc_some, mm_rc_none, pk_mul, nI_add, mm_in_t, nI_clamp, ok0, ok1, ok2, ok3, ok4, n1_0, n0_0, nI_le_, nI_lt_, if_true, if_false, not_true, not_false_eq_true, ce_lt, ce_cl, hf_lt, hf_cl, n0_zz, n1_zz, bI_zz, true_and, wp_il1 (y := zX6_all) dX6_all_83, wp_i2l (y := zX6_all) dX6_all_84, wp_lconst (y := zX6_all) (1) kl_1 dX6_all_85, wp_ldc2 (y := zX6_all) kL6_56 dX6_all_86, wp_in (y := zX6_all) rfl kP6_48 (by decide) dX6_all_89, wp_if_eq (y := zX6_all) 103 (by decide) dX6_all_92, wp_al0 (y := zX6_all) dX6_all_95, wp_il1 (y := zX6_all) dX6_all_96, wp_cv1 (y := zX6_all) kM6_295 (by decide) dX6_all_97, (show yo zX6_ofCells = 6 from rfl), wp_goto (y := zX6_all) 105 (by decide) dX6_all_100, wp_ireti (y := zX6_all) rfl dX6_all_105, O.oc, O.g0, O.g1, O.g2, O.g3, O.g4, O.g5, O.g6, O.g7, O.g9, O.g10, O.g11, O.p0, O.p7, O.a1, O.a2, O.a3, O.a4, O.a5, O.a6, O.a7, O.a8, O.a9, ee, EO1]
      exact mt_ro g0 rfl (RO.refl _ _) rfl R0 J
    · rw [if_neg w1]
      by_cases w2 : what = nI 2
      · subst w2
        rw [if_pos rfl, wp_tsIn (y := zX6_all) 83 dX6_all_6 (by decide) rfl (by decide)]
        have ee : mm_isin (nI 2).toInt64 1 9 = nI 1 := by decide
        simp (disch := first | omega | assumption) only [mm_op_some, true_and, and_true, mm_rc_some, mm_rc_none, pk_mul, nI_add, mm_in_t, nI_clamp, ok0, ok1, ok2, ok3, ok4, n1_0, n0_0, nI_le_, nI_lt_, if_true, if_false, not_true, not_false_eq_true, ce_lt, ce_cl, hf_lt, hf_cl, n0_zz, n1_zz, bI_zz, true_and, wp_il1 (y := zX6_all) dX6_all_83, wp_i2l (y := zX6_all) dX6_all_84, wp_lconst (y := zX6_all) (1) kl_1 dX6_all_85, wp_ldc2 (y := zX6_all) kL6_56 dX6_all_86, wp_in (y := zX6_all) rfl kP6_48 (by decide) dX6_all_89, wp_if_eq (y := zX6_all) 103 (by decide) dX6_all_92, wp_al0 (y := zX6_all) dX6_all_95, wp_il1 (y := zX6_all) dX6_all_96, wp_cv1 (y := zX6_all) kM6_295 (by decide) dX6_all_97, (show yo zX6_ofCells = 6 from rfl), wp_goto (y := zX6_all) 105 (by decide) dX6_all_100, wp_ireti (y := zX6_all) rfl dX6_all_105, O.oc, O.g0, O.g1, O.g2, O.g3, O.g4, O.g5, O.g6, O.g7, O.g9, O.g10, O.g11, O.p0, O.p7, O.a1, O.a2, O.a3, O.a4, O.a5, O.a6, O.a7, O.a8, O.a9, ee, EO2]
        exact mt_ro g0 rfl (RO.refl _ _) rfl R0 J
      · rw [if_neg w2]
        by_cases w3 : what = nI 3
        · subst w3
          rw [if_pos rfl, wp_tsIn (y := zX6_all) 83 dX6_all_6 (by decide) rfl (by decide)]
          have ee : mm_isin (nI 3).toInt64 1 9 = nI 1 := by decide
          simp (disch := first | omega | assumption) only [mm_op_some, true_and, and_true, mm_rc_some, mm_rc_none, pk_mul, nI_add, mm_in_t, nI_clamp, ok0, ok1, ok2, ok3, ok4, n1_0, n0_0, nI_le_, nI_lt_, if_true, if_false, not_true, not_false_eq_true, ce_lt, ce_cl, hf_lt, hf_cl, n0_zz, n1_zz, bI_zz, true_and, wp_il1 (y := zX6_all) dX6_all_83, wp_i2l (y := zX6_all) dX6_all_84, wp_lconst (y := zX6_all) (1) kl_1 dX6_all_85, wp_ldc2 (y := zX6_all) kL6_56 dX6_all_86, wp_in (y := zX6_all) rfl kP6_48 (by decide) dX6_all_89, wp_if_eq (y := zX6_all) 103 (by decide) dX6_all_92, wp_al0 (y := zX6_all) dX6_all_95, wp_il1 (y := zX6_all) dX6_all_96, wp_cv1 (y := zX6_all) kM6_295 (by decide) dX6_all_97, (show yo zX6_ofCells = 6 from rfl), wp_goto (y := zX6_all) 105 (by decide) dX6_all_100, wp_ireti (y := zX6_all) rfl dX6_all_105, O.oc, O.g0, O.g1, O.g2, O.g3, O.g4, O.g5, O.g6, O.g7, O.g9, O.g10, O.g11, O.p0, O.p7, O.a1, O.a2, O.a3, O.a4, O.a5, O.a6, O.a7, O.a8, O.a9, ee, EO3]
          exact mt_ro g0 rfl (RO.refl _ _) rfl R0 J
        · rw [if_neg w3]
          by_cases w4 : what = nI 4
          · subst w4
            rw [if_pos rfl, wp_tsIn (y := zX6_all) 83 dX6_all_6 (by decide) rfl (by decide)]
            have ee : mm_isin (nI 4).toInt64 1 9 = nI 1 := by decide
            simp (disch := first | omega | assumption) only [mm_op_some, true_and, and_true, mm_rc_some, mm_rc_none, pk_mul, nI_add, mm_in_t, nI_clamp, ok0, ok1, ok2, ok3, ok4, n1_0, n0_0, nI_le_, nI_lt_, if_true, if_false, not_true, not_false_eq_true, ce_lt, ce_cl, hf_lt, hf_cl, n0_zz, n1_zz, bI_zz, true_and, wp_il1 (y := zX6_all) dX6_all_83, wp_i2l (y := zX6_all) dX6_all_84, wp_lconst (y := zX6_all) (1) kl_1 dX6_all_85, wp_ldc2 (y := zX6_all) kL6_56 dX6_all_86, wp_in (y := zX6_all) rfl kP6_48 (by decide) dX6_all_89, wp_if_eq (y := zX6_all) 103 (by decide) dX6_all_92, wp_al0 (y := zX6_all) dX6_all_95, wp_il1 (y := zX6_all) dX6_all_96, wp_cv1 (y := zX6_all) kM6_295 (by decide) dX6_all_97, (show yo zX6_ofCells = 6 from rfl), wp_goto (y := zX6_all) 105 (by decide) dX6_all_100, wp_ireti (y := zX6_all) rfl dX6_all_105, O.oc, O.g0, O.g1, O.g2, O.g3, O.g4, O.g5, O.g6, O.g7, O.g9, O.g10, O.g11, O.p0, O.p7, O.a1, O.a2, O.a3, O.a4, O.a5, O.a6, O.a7, O.a8, O.a9, ee, EO4]
            exact mt_ro g0 rfl (RO.refl _ _) rfl R0 J
          · rw [if_neg w4]
            by_cases w5 : what = nI 5
            · subst w5
              rw [if_pos rfl, wp_tsIn (y := zX6_all) 57 dX6_all_6 (by decide) rfl (by decide)]
              simp (disch := first | omega | assumption) only [mm_op_some, true_and, and_true, mm_rc_some, mm_rc_none, pk_mul, nI_add, mm_in_t, nI_clamp, ok0, ok1, ok2, ok3, ok4, n1_0, n0_0, nI_le_, nI_lt_, if_true, if_false, not_true, not_false_eq_true, ce_lt, ce_cl, hf_lt, hf_cl, n0_zz, n1_zz, bI_zz, true_and, wp_al0 (y := zX6_all) dX6_all_57, wp_iconst (y := zX6_all) (nI 1) ki_1 dX6_all_58, wp_cv1 (y := zX6_all) kM6_291 (by decide) dX6_all_59, (show yo zX6_ofWalls = 6 from rfl), wp_ireti (y := zX6_all) rfl dX6_all_62, O.oc, O.g0, O.g1, O.g2, O.g3, O.g4, O.g5, O.g6, O.g7, O.g9, O.g10, O.g11, O.p0, O.p7, O.a1, O.a2, O.a3, O.a4, O.a5, O.a6, O.a7, O.a8, O.a9, EL]
              exact mt_ro g0 rfl (RO.refl _ _) rfl R0 J
            · rw [if_neg w5]
              by_cases w6 : what = nI 6
              · subst w6
                rw [if_pos rfl, wp_tsIn (y := zX6_all) 63 dX6_all_6 (by decide) rfl (by decide)]
                by_cases hz : (es s.1).1 < 0
                · have e1 : (es s.1).1 = -1 := es_m1 hz
                  rw [if_pos hz]
                  have q : ((es s.1).1 = -1) = True := eq_true e1
                  simp (disch := first | omega | assumption) only [mm_op_some, true_and, and_true, mm_rc_some, mm_rc_none, pk_mul, nI_add, mm_in_t, nI_clamp, ok0, ok1, ok2, ok3, ok4, n1_0, n0_0, nI_le_, nI_lt_, if_true, if_false, not_true, not_false_eq_true, ce_lt, ce_cl, hf_lt, hf_cl, n0_zz, n1_zz, bI_zz, true_and, wp_al0 (y := zX6_all) dX6_all_63, wp_cv0 (y := zX6_all) kM6_231 (by decide) dX6_all_64, (show yo zX6_easier = 6 from rfl), wp_iconst (y := zX6_all) ((-1)) ki_m1 dX6_all_67, wp_icmp_ne (y := zX6_all) 75 (by decide) dX6_all_68, wp_iconst (y := zX6_all) (nI 1) ki_1 dX6_all_71, wp_goto (y := zX6_all) 76 (by decide) dX6_all_72, wp_ireti (y := zX6_all) rfl dX6_all_76, O.oc, O.g0, O.g1, O.g2, O.g3, O.g4, O.g5, O.g6, O.g7, O.g9, O.g10, O.g11, O.p0, O.p7, O.a1, O.a2, O.a3, O.a4, O.a5, O.a6, O.a7, O.a8, O.a9, EE, q]
                  exact mt_ro g0 rfl (RO.refl _ _) rfl R0 J
                · rw [if_neg hz]
                  have q : ((es s.1).1 = -1) = False := eq_false (fun e => hz (by rw [e]; decide))
                  simp (disch := first | omega | assumption) only [mm_op_some, true_and, and_true, mm_rc_some, mm_rc_none, pk_mul, nI_add, mm_in_t, nI_clamp, ok0, ok1, ok2, ok3, ok4, n1_0, n0_0, nI_le_, nI_lt_, if_true, if_false, not_true, not_false_eq_true, ce_lt, ce_cl, hf_lt, hf_cl, n0_zz, n1_zz, bI_zz, true_and, wp_al0 (y := zX6_all) dX6_all_63, wp_cv0 (y := zX6_all) kM6_231 (by decide) dX6_all_64, (show yo zX6_easier = 6 from rfl), wp_iconst (y := zX6_all) ((-1)) ki_m1 dX6_all_67, wp_icmp_ne (y := zX6_all) 75 (by decide) dX6_all_68, wp_iconst (y := zX6_all) (nI 0) ki_0 dX6_all_75, wp_ireti (y := zX6_all) rfl dX6_all_76, O.oc, O.g0, O.g1, O.g2, O.g3, O.g4, O.g5, O.g6, O.g7, O.g9, O.g10, O.g11, O.p0, O.p7, O.a1, O.a2, O.a3, O.a4, O.a5, O.a6, O.a7, O.a8, O.a9, EE, q]
                  exact mt_ro g0 rfl (RO.refl _ _) rfl R0 J
              · rw [if_neg w6]
                by_cases w7 : what = nI 7
                · subst w7
                  rw [if_pos rfl, wp_tsIn (y := zX6_all) 77 dX6_all_6 (by decide) rfl (by decide)]
                  simp (disch := first | omega | assumption) only [mm_op_some, true_and, and_true, mm_rc_some, mm_rc_none, pk_mul, nI_add, mm_in_t, nI_clamp, ok0, ok1, ok2, ok3, ok4, n1_0, n0_0, nI_le_, nI_lt_, if_true, if_false, not_true, not_false_eq_true, ce_lt, ce_cl, hf_lt, hf_cl, n0_zz, n1_zz, bI_zz, true_and, wp_al0 (y := zX6_all) dX6_all_77, wp_iconst (y := zX6_all) (nI 0) ki_0 dX6_all_78, wp_cv1 (y := zX6_all) kM6_291 (by decide) dX6_all_79, (show yo zX6_ofWalls = 6 from rfl), wp_ireti (y := zX6_all) rfl dX6_all_82, O.oc, O.g0, O.g1, O.g2, O.g3, O.g4, O.g5, O.g6, O.g7, O.g9, O.g10, O.g11, O.p0, O.p7, O.a1, O.a2, O.a3, O.a4, O.a5, O.a6, O.a7, O.a8, O.a9, EN]
                  exact mt_ro g0 rfl (RO.refl _ _) rfl R0 J
                · rw [if_neg w7]
                  by_cases w8 : what = nI 8
                  · subst w8
                    rw [if_pos rfl, wp_tsOut (y := zX6_all) 83 dX6_all_6 (by decide) (by decide)]
                    rw [al8 J hne]
                    have ee : mm_isin (nI 8).toInt64 1 9 = nI 1 := by decide
                    simp (disch := first | omega | assumption) only [mm_op_some, true_and, and_true, mm_rc_some, mm_rc_none, pk_mul, nI_add, mm_in_t, nI_clamp, ok0, ok1, ok2, ok3, ok4, n1_0, n0_0, nI_le_, nI_lt_, if_true, if_false, not_true, not_false_eq_true, ce_lt, ce_cl, hf_lt, hf_cl, n0_zz, n1_zz, bI_zz, true_and, wp_il1 (y := zX6_all) dX6_all_83, wp_i2l (y := zX6_all) dX6_all_84, wp_lconst (y := zX6_all) (1) kl_1 dX6_all_85, wp_ldc2 (y := zX6_all) kL6_56 dX6_all_86, wp_in (y := zX6_all) rfl kP6_48 (by decide) dX6_all_89, wp_if_eq (y := zX6_all) 103 (by decide) dX6_all_92, wp_al0 (y := zX6_all) dX6_all_95, wp_il1 (y := zX6_all) dX6_all_96, wp_cv1 (y := zX6_all) kM6_295 (by decide) dX6_all_97, (show yo zX6_ofCells = 6 from rfl), wp_goto (y := zX6_all) 105 (by decide) dX6_all_100, wp_ireti (y := zX6_all) rfl dX6_all_105, O.oc, O.g0, O.g1, O.g2, O.g3, O.g4, O.g5, O.g6, O.g7, O.g9, O.g10, O.g11, O.p0, O.p7, O.a1, O.a2, O.a3, O.a4, O.a5, O.a6, O.a7, O.a8, O.a9, ee, EO8]
                    exact mt_ro g0 rfl (RO.refl _ _) rfl R0 J
                  · rw [if_neg w8]
                    by_cases w9 : what = nI 9
                    · subst w9
                      rw [if_pos rfl, wp_tsOut (y := zX6_all) 83 dX6_all_6 (by decide) (by decide)]
                      rw [al9 J hne]
                      have ee : mm_isin (nI 9).toInt64 1 9 = nI 1 := by decide
                      simp (disch := first | omega | assumption) only [mm_op_some, true_and, and_true, mm_rc_some, mm_rc_none, pk_mul, nI_add, mm_in_t, nI_clamp, ok0, ok1, ok2, ok3, ok4, n1_0, n0_0, nI_le_, nI_lt_, if_true, if_false, not_true, not_false_eq_true, ce_lt, ce_cl, hf_lt, hf_cl, n0_zz, n1_zz, bI_zz, true_and, wp_il1 (y := zX6_all) dX6_all_83, wp_i2l (y := zX6_all) dX6_all_84, wp_lconst (y := zX6_all) (1) kl_1 dX6_all_85, wp_ldc2 (y := zX6_all) kL6_56 dX6_all_86, wp_in (y := zX6_all) rfl kP6_48 (by decide) dX6_all_89, wp_if_eq (y := zX6_all) 103 (by decide) dX6_all_92, wp_al0 (y := zX6_all) dX6_all_95, wp_il1 (y := zX6_all) dX6_all_96, wp_cv1 (y := zX6_all) kM6_295 (by decide) dX6_all_97, (show yo zX6_ofCells = 6 from rfl), wp_goto (y := zX6_all) 105 (by decide) dX6_all_100, wp_ireti (y := zX6_all) rfl dX6_all_105, O.oc, O.g0, O.g1, O.g2, O.g3, O.g4, O.g5, O.g6, O.g7, O.g9, O.g10, O.g11, O.p0, O.p7, O.a1, O.a2, O.a3, O.a4, O.a5, O.a6, O.a7, O.a8, O.a9, ee, EO9]
                      exact mt_ro g0 rfl (RO.refl _ _) rfl R0 J
                    · rw [if_neg w9]
                      have hts : what.toInt < 0 ∨ 9 < what.toInt := by
                        rcases Int.lt_or_le what.toInt 0 with q | q
                        · exact Or.inl q
                        · rcases Int.lt_or_le 9 what.toInt with q2 | q2
                          · exact Or.inr q2
                          · exfalso
                            have hh : ∀ j : Nat, j < 10 → what.toInt = j → what = nI j := fun j hj e => Int32.toInt_inj.mp (by rw [e, nI_toInt (by omega)])
                            have : what.toInt = 0 ∨ what.toInt = 1 ∨ what.toInt = 2 ∨ what.toInt = 3 ∨ what.toInt = 4 ∨ what.toInt = 5 ∨ what.toInt = 6 ∨ what.toInt = 7 ∨ what.toInt = 8 ∨ what.toInt = 9 := by omega
                            rcases this with e | e | e | e | e | e | e | e | e | e
                            · exact w0 (hh 0 (by omega) e)
                            · exact w1 (hh 1 (by omega) e)
                            · exact w2 (hh 2 (by omega) e)
                            · exact w3 (hh 3 (by omega) e)
                            · exact w4 (hh 4 (by omega) e)
                            · exact w5 (hh 5 (by omega) e)
                            · exact w6 (hh 6 (by omega) e)
                            · exact w7 (hh 7 (by omega) e)
                            · exact w8 (hh 8 (by omega) e)
                            · exact w9 (hh 9 (by omega) e)
                      rw [wp_tsOut (y := zX6_all) 83 dX6_all_6 (by decide) (by omega)]
                      have ee : mm_isin what.toInt64 1 9 = nI 0 := isin_f (fun q => by
                        have z1 : (1 : Int64).toInt = 1 := rfl
                        have z2 : (9 : Int64).toInt = 9 := rfl
                        rw [z1, z2] at q
                        omega)
                      simp (disch := first | omega | assumption) only [mm_op_some, true_and, and_true, mm_rc_some, mm_rc_none, pk_mul, nI_add, mm_in_t, nI_clamp, ok0, ok1, ok2, ok3, ok4, n1_0, n0_0, nI_le_, nI_lt_, if_true, if_false, not_true, not_false_eq_true, ce_lt, ce_cl, hf_lt, hf_cl, n0_zz, n1_zz, bI_zz, true_and, wp_il1 (y := zX6_all) dX6_all_83, wp_i2l (y := zX6_all) dX6_all_84, wp_lconst (y := zX6_all) (1) kl_1 dX6_all_85, wp_ldc2 (y := zX6_all) kL6_56 dX6_all_86, wp_in (y := zX6_all) rfl kP6_48 (by decide) dX6_all_89, wp_if_eq (y := zX6_all) 103 (by decide) dX6_all_92, wp_ldc (y := zX6_all) kC6_252 dX6_all_103, wp_ireti (y := zX6_all) rfl dX6_all_105, O.oc, O.g0, O.g1, O.g2, O.g3, O.g4, O.g5, O.g6, O.g7, O.g9, O.g10, O.g11, O.p0, O.p7, O.a1, O.a2, O.a3, O.a4, O.a5, O.a6, O.a7, O.a8, O.a9, ee]
                      exact mt_ro g0 rfl (RO.refl _ _) rfl R0 J
end MAM
