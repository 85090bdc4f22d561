theorem wB_ex {M : Ms} {c d : Ce} (h : 0 < wB M c d) : ∃ w : Wa, bt M w c d = true := by
  unfold wB at h
  have e := it_cnt (fun i => bt M (wI i) c d) 144
  rw [e] at h
  rcases Nat.eq_zero_or_pos (sm 144 (fun i => b1 (bt M (wI i) c d))) with z | z
  · rw [z] at h
    exact absurd h (by decide)
  · obtain ⟨j, _, hj⟩ := sm_pos 144 z
    refine ⟨wI j, ?_⟩
    cases q : bt M (wI j) c d with
    | true => rfl
    | false => rw [q] at hj; exact absurd hj (by decide)
theorem Inv.wB_l {M : Ms} (J : Inv M) {c d : Ce} (h : 0 < wB M c d) : 0 < sd M c ∧ 0 < sd M d ∧ c ≠ d := by
  obtain ⟨w, hw⟩ := wB_ex h
  unfold bt at hw
  rw [Bool.and_eq_true] at hw
  have la : LvH M (h0 w) := LvH_h0.mpr hw.1
  have lb : LvH M (h1 w) := LvH_h1.mpr hw.1
  have p0 := J.pos la
  have p1 := J.pos lb
  have ne := J.2.2.1 (h0 w) la
  rw [tw_h0] at ne
  rcases of_decide_eq_true hw.2 with ⟨e1, e2⟩ | ⟨e1, e2⟩
  · rw [e1] at p0 ne
    rw [e2] at p1 ne
    exact ⟨by omega, by omega, fun e => ne e.symm⟩
  · rw [e1] at p0 ne
    rw [e2] at p1 ne
    exact ⟨by omega, by omega, ne⟩
section MMU
variable {sh : mm_Sh} {m : Nat} {M N : Ms} {μ : mm_U} {s : Fo} {Q : Option Value → mm_U → Prop}
theorem m_mutual (O : MoSh sh m) (R : RepM s μ m) (J : Inv s.1) (g0 : μ m 7 = nI 0) (x y : Int32) : cl sh zX6_mutual [.ref m, .int x, .int y] μ (MT m μ (a_mutual s x y, s)) := by
  have R0 := R.mu0 (nI 0)
  have A := R0.1
  show wp sh zX6_mutual 0 [.ref m, .int x, .int y, .null, .null] [] μ _
  have bad : ∀ QQ, QQ = MT m μ ((-1 : Int32), s) → wp sh zX6_mutual 26 [.ref m, .int x, .int y, .null, .null] [] (mu μ m (upd (μ m) 0 (nI 0))) QQ := fun QQ e => by
    simp (disch := first | omega | assumption) only [mm_op_some, true_and, and_true, mm_rc_some, mm_rc_none, pk_mul, nI_add, mm_in_t, nI_clamp, ok0, ok1, ok2, ok3, ok4, n1_0, n0_0, nI_le_, nI_lt_, if_true, if_false, not_true, not_false_eq_true, ce_lt, ce_cl, hf_lt, hf_cl, wp_iconst (y := zX6_mutual) ((-1)) ki_m1 dX6_mutual_26, wp_ireti (y := zX6_mutual) rfl dX6_mutual_27]
    rw [e]
    exact mt_ro g0 rfl (RO.refl _ _) rfl R0 J
  unfold a_mutual
  cases e : two s.1 x y with
  | none =>
    have bad := bad _ rfl
    dsimp only
    generalize MT m μ ((-1 : Int32), s) = QQ at bad ⊢
    unfold two at e
    cases ex : ceO s.1 x with
    | none =>
      have E1 : ∀ Q', cl sh zX6_isCell [.ref m, .int x] (mu μ m (upd (μ m) 0 (nI 0))) Q' = Q' (some (.int (nI 0))) (mu μ m (upd (μ m) 0 (nI 0))) := fun Q' => m_isCellN O A J.sdb ex
      simp (disch := first | omega | assumption) only [mm_op_some, true_and, and_true, mm_rc_some, mm_rc_none, pk_mul, nI_add, mm_in_t, nI_clamp, ok0, ok1, ok2, ok3, ok4, n1_0, n0_0, nI_le_, nI_lt_, if_true, if_false, not_true, not_false_eq_true, ce_lt, ce_cl, hf_lt, hf_cl, n0_zz, wp_al0 (y := zX6_mutual) dX6_mutual_0, wp_iconst (y := zX6_mutual) (nI 0) ki_0 dX6_mutual_1, wp_putf (y := zX6_mutual) kF6_44 rfl dX6_mutual_2, wp_al0 (y := zX6_mutual) dX6_mutual_5, wp_il1 (y := zX6_mutual) dX6_mutual_6, wp_cv1 (y := zX6_mutual) kM6_93 (by decide) dX6_mutual_7, (show yo zX6_isCell = 6 from rfl), wp_if_eq (y := zX6_mutual) 26 (by decide) dX6_mutual_10, O.oc, O.g0, O.g1, O.g2, O.g3, O.g4, O.g5, O.g6, O.g7, O.g9, O.g10, O.g11, O.p0, O.p7, O.a1, O.a2, O.a3, O.a4, O.a5, O.a6, O.a7, O.a8, O.a9, E1]
      exact bad
    | some a =>
      obtain ⟨rfl, ha⟩ := ceO_some ex
      have E1 : ∀ Q', cl sh zX6_isCell [.ref m, .int (nI a.val)] (mu μ m (upd (μ m) 0 (nI 0))) Q' = Q' (some (.int (nI 1))) (mu μ m (upd (μ m) 0 (nI 0))) := fun Q' => m_isCellS O A J.sdb ha
      cases ey : ceO s.1 y with
      | none =>
        have E2 : ∀ Q', cl sh zX6_isCell [.ref m, .int y] (mu μ m (upd (μ m) 0 (nI 0))) Q' = Q' (some (.int (nI 0))) (mu μ m (upd (μ m) 0 (nI 0))) := fun Q' => m_isCellN O A J.sdb ey
        simp (disch := first | omega | assumption) only [mm_op_some, true_and, and_true, mm_rc_some, mm_rc_none, pk_mul, nI_add, mm_in_t, nI_clamp, ok0, ok1, ok2, ok3, ok4, n1_0, n0_0, nI_le_, nI_lt_, if_true, if_false, not_true, not_false_eq_true, ce_lt, ce_cl, hf_lt, hf_cl, n0_zz, n1_zz, wp_al0 (y := zX6_mutual) dX6_mutual_0, wp_iconst (y := zX6_mutual) (nI 0) ki_0 dX6_mutual_1, wp_putf (y := zX6_mutual) kF6_44 rfl dX6_mutual_2, wp_al0 (y := zX6_mutual) dX6_mutual_5, wp_il1 (y := zX6_mutual) dX6_mutual_6, wp_cv1 (y := zX6_mutual) kM6_93 (by decide) dX6_mutual_7, (show yo zX6_isCell = 6 from rfl), wp_if_eq (y := zX6_mutual) 26 (by decide) dX6_mutual_10, wp_al0 (y := zX6_mutual) dX6_mutual_13, wp_il2 (y := zX6_mutual) dX6_mutual_14, wp_cv1 (y := zX6_mutual) kM6_93 (by decide) dX6_mutual_15, (show yo zX6_isCell = 6 from rfl), wp_if_eq (y := zX6_mutual) 26 (by decide) dX6_mutual_18, O.oc, O.g0, O.g1, O.g2, O.g3, O.g4, O.g5, O.g6, O.g7, O.g9, O.g10, O.g11, O.p0, O.p7, O.a1, O.a2, O.a3, O.a4, O.a5, O.a6, O.a7, O.a8, O.a9, E1, E2]
        exact bad
      | some b =>
        obtain ⟨rfl, hb⟩ := ceO_some ey
        have E2 : ∀ Q', cl sh zX6_isCell [.ref m, .int (nI b.val)] (mu μ m (upd (μ m) 0 (nI 0))) Q' = Q' (some (.int (nI 1))) (mu μ m (upd (μ m) 0 (nI 0))) := fun Q' => m_isCellS O A J.sdb hb
        have q : (nI a.val = nI b.val) = True := eq_true (Classical.byContradiction (fun h => by
          rw [if_neg h, ex, ey] at e
          cases e))
        simp (disch := first | omega | assumption) only [mm_op_some, true_and, and_true, mm_rc_some, mm_rc_none, pk_mul, nI_add, mm_in_t, nI_clamp, ok0, ok1, ok2, ok3, ok4, n1_0, n0_0, nI_le_, nI_lt_, if_true, if_false, not_true, not_false_eq_true, ce_lt, ce_cl, hf_lt, hf_cl, n0_zz, n1_zz, wp_al0 (y := zX6_mutual) dX6_mutual_0, wp_iconst (y := zX6_mutual) (nI 0) ki_0 dX6_mutual_1, wp_putf (y := zX6_mutual) kF6_44 rfl dX6_mutual_2, wp_al0 (y := zX6_mutual) dX6_mutual_5, wp_il1 (y := zX6_mutual) dX6_mutual_6, wp_cv1 (y := zX6_mutual) kM6_93 (by decide) dX6_mutual_7, (show yo zX6_isCell = 6 from rfl), wp_if_eq (y := zX6_mutual) 26 (by decide) dX6_mutual_10, wp_al0 (y := zX6_mutual) dX6_mutual_13, wp_il2 (y := zX6_mutual) dX6_mutual_14, wp_cv1 (y := zX6_mutual) kM6_93 (by decide) dX6_mutual_15, (show yo zX6_isCell = 6 from rfl), wp_if_eq (y := zX6_mutual) 26 (by decide) dX6_mutual_18, wp_il1 (y := zX6_mutual) dX6_mutual_21, wp_il2 (y := zX6_mutual) dX6_mutual_22, wp_icmp_ne (y := zX6_mutual) 28 (by decide) dX6_mutual_23, O.oc, O.g0, O.g1, O.g2, O.g3, O.g4, O.g5, O.g6, O.g7, O.g9, O.g10, O.g11, O.p0, O.p7, O.a1, O.a2, O.a3, O.a4, O.a5, O.a6, O.a7, O.a8, O.a9, E1, E2, q]
        exact bad
  | some ab =>
    obtain ⟨a, b⟩ := ab
    obtain ⟨rfl, ha, rfl, hb, hab⟩ := two_some e
    have E1 : ∀ Q', cl sh zX6_isCell [.ref m, .int (nI a.val)] (mu μ m (upd (μ m) 0 (nI 0))) Q' = Q' (some (.int (nI 1))) (mu μ m (upd (μ m) 0 (nI 0))) := fun Q' => m_isCellS O A J.sdb ha
    have E2 : ∀ Q', cl sh zX6_isCell [.ref m, .int (nI b.val)] (mu μ m (upd (μ m) 0 (nI 0))) Q' = Q' (some (.int (nI 1))) (mu μ m (upd (μ m) 0 (nI 0))) := fun Q' => m_isCellS O A J.sdb hb
    have q : (nI a.val = nI b.val) = False := eq_false (by rw [ce_eq]; exact hab)
    dsimp only
    have fin : ∀ v, MT m μ (v, s) (some (.int v)) (mu μ m (upd (μ m) 0 (nI 0))) := fun v => mt_ro g0 rfl (RO.refl _ _) rfl R0 J
    have fin := fin (it (muS s.1 a b) 48 0 (nI 0))
    generalize hv : it (muS s.1 a b) 48 0 (nI 0) = v at fin ⊢
    generalize MT m μ (v, s) = QQ at fin ⊢
    have key : ∀ d i acc, i + d = 48 → wp sh zX6_mutual 33 [.ref m, .int (nI a.val), .int (nI b.val), .int acc, .int (nI i)] [] (mu μ m (upd (μ m) 0 (nI 0))) QQ = QQ (some (.int (it (muS s.1 a b) d i acc))) (mu μ m (upd (μ m) 0 (nI 0))) := by
      intro d
      induction d with
      | zero =>
        intro i acc hi
        have e : i = 48 := by omega
        rw [e, wp_il4 (y := zX6_mutual) dX6_mutual_33]
        simp (disch := first | omega | assumption) only [mm_op_some, true_and, and_true, mm_rc_some, mm_rc_none, pk_mul, nI_add, mm_in_t, nI_clamp, ok0, ok1, ok2, ok3, ok4, n1_0, n0_0, nI_le_, nI_lt_, if_true, if_false, not_true, not_false_eq_true, ce_lt, ce_cl, hf_lt, hf_cl, wp_bipush (y := zX6_mutual) (nI 48) kb_48 dX6_mutual_35, wp_icmp_ge (y := zX6_mutual) 95 (by decide) dX6_mutual_37, wp_il3 (y := zX6_mutual) dX6_mutual_95, wp_ireti (y := zX6_mutual) rfl dX6_mutual_96, Nat.le_refl]
        rfl
      | succ d ih =>
        intro i acc hi
        have hi' : i < 48 := by omega
        have h9 : (48 ≤ i) = False := eq_false (by omega)
        have iv := cI_lt hi'
        rw [wp_il4 (y := zX6_mutual) dX6_mutual_33]
        show _ = QQ (some (.int (it (muS s.1 a b) d (i + 1) (muS s.1 a b i acc)))) (mu μ m (upd (μ m) 0 (nI 0)))
        have k := ih (i + 1)
        by_cases h : 0 < sd s.1 (cI i)
        · have F0 : ∀ Q', cl sh zX6_isCell [.ref m, .int (nI i)] (mu μ m (upd (μ m) 0 (nI 0))) Q' = Q' (some (.int (nI 1))) (mu μ m (upd (μ m) 0 (nI 0))) := fun Q' => m_isCell1 O A J.sdb hi' h
          have B1 : ∀ Q', cl sh zX6_areBeside [.ref m, .int (nI i), .int (nI a.val)] (mu μ m (upd (μ m) 0 (nI 0))) Q' = Q' (some (.int (bI (decide (0 < wB s.1 (cI i) a))))) (mu μ m (upd (μ m) 0 (nI 0))) := fun Q' => by
            have q := m_areBeside (Q := Q') O A J (cI i) a
            rw [iv] at q
            exact q
          have B2 : ∀ Q', cl sh zX6_areBeside [.ref m, .int (nI i), .int (nI b.val)] (mu μ m (upd (μ m) 0 (nI 0))) Q' = Q' (some (.int (bI (decide (0 < wB s.1 (cI i) b))))) (mu μ m (upd (μ m) 0 (nI 0))) := fun Q' => by
            have q := m_areBeside (Q := Q') O A J (cI i) b
            rw [iv] at q
            exact q
          by_cases p1 : i = a.val
          · have q1 : (nI i = nI a.val) = True := eq_true (by rw [p1])
            have no : ¬ 0 < wB s.1 (cI i) a := fun z => (J.wB_l z).2.2 (Fin.ext (iv.trans p1))
            rw [show muS s.1 a b i acc = acc from if_neg no]
            simp (disch := first | omega | assumption) only [mm_op_some, true_and, and_true, mm_rc_some, mm_rc_none, pk_mul, nI_add, mm_in_t, nI_clamp, ok0, ok1, ok2, ok3, ok4, n1_0, n0_0, nI_le_, nI_lt_, if_true, if_false, not_true, not_false_eq_true, ce_lt, ce_cl, hf_lt, hf_cl, n0_zz, n1_zz, bI_t, bI_f, wp_bipush (y := zX6_mutual) (nI 48) kb_48 dX6_mutual_35, wp_icmp_ge (y := zX6_mutual) 95 (by decide) dX6_mutual_37, wp_il3 (y := zX6_mutual) dX6_mutual_40, wp_al0 (y := zX6_mutual) dX6_mutual_41, wp_il4 (y := zX6_mutual) dX6_mutual_42, wp_cv1 (y := zX6_mutual) kM6_93 (by decide) dX6_mutual_44, (show yo zX6_isCell = 6 from rfl), wp_if_eq (y := zX6_mutual) 86 (by decide) dX6_mutual_47, wp_il4 (y := zX6_mutual) dX6_mutual_50, wp_il1 (y := zX6_mutual) dX6_mutual_52, wp_icmp_eq (y := zX6_mutual) 86 (by decide) dX6_mutual_53, wp_iconst (y := zX6_mutual) (nI 0) ki_0 dX6_mutual_86, wp_iadd (y := zX6_mutual) dX6_mutual_87, wp_is3 (y := zX6_mutual) dX6_mutual_88, wp_inc4 (y := zX6_mutual) (nI 1) ki_1 dX6_mutual_89, wp_goto (y := zX6_mutual) 33 (by decide) dX6_mutual_92, O.oc, O.g0, O.g1, O.g2, O.g3, O.g4, O.g5, O.g6, O.g7, O.g9, O.g10, O.g11, O.p0, O.p7, O.a1, O.a2, O.a3, O.a4, O.a5, O.a6, O.a7, O.a8, O.a9, F0, h9, q1]
            rw [show acc + nI 0 = acc from Int32.add_zero acc]
            exact k acc (by omega)
          · have q1 : (nI i = nI a.val) = False := eq_false (by rw [nI_eq_ (by omega) (by omega)]; exact p1)
            by_cases p2 : i = b.val
            · have q2 : (nI i = nI b.val) = True := eq_true (by rw [p2])
              have no : ¬ 0 < wB s.1 (cI i) b := fun z => (J.wB_l z).2.2 (Fin.ext (iv.trans p2))
              rw [show muS s.1 a b i acc = acc by unfold muS; rw [if_neg no, ite_self]]
              simp (disch := first | omega | assumption) only [mm_op_some, true_and, and_true, mm_rc_some, mm_rc_none, pk_mul, nI_add, mm_in_t, nI_clamp, ok0, ok1, ok2, ok3, ok4, n1_0, n0_0, nI_le_, nI_lt_, if_true, if_false, not_true, not_false_eq_true, ce_lt, ce_cl, hf_lt, hf_cl, n0_zz, n1_zz, bI_t, bI_f, wp_bipush (y := zX6_mutual) (nI 48) kb_48 dX6_mutual_35, wp_icmp_ge (y := zX6_mutual) 95 (by decide) dX6_mutual_37, wp_il3 (y := zX6_mutual) dX6_mutual_40, wp_al0 (y := zX6_mutual) dX6_mutual_41, wp_il4 (y := zX6_mutual) dX6_mutual_42, wp_cv1 (y := zX6_mutual) kM6_93 (by decide) dX6_mutual_44, (show yo zX6_isCell = 6 from rfl), wp_if_eq (y := zX6_mutual) 86 (by decide) dX6_mutual_47, wp_il4 (y := zX6_mutual) dX6_mutual_50, wp_il1 (y := zX6_mutual) dX6_mutual_52, wp_icmp_eq (y := zX6_mutual) 86 (by decide) dX6_mutual_53, wp_il4 (y := zX6_mutual) dX6_mutual_56, wp_il2 (y := zX6_mutual) dX6_mutual_58, wp_icmp_eq (y := zX6_mutual) 86 (by decide) dX6_mutual_59, wp_iconst (y := zX6_mutual) (nI 0) ki_0 dX6_mutual_86, wp_iadd (y := zX6_mutual) dX6_mutual_87, wp_is3 (y := zX6_mutual) dX6_mutual_88, wp_inc4 (y := zX6_mutual) (nI 1) ki_1 dX6_mutual_89, wp_goto (y := zX6_mutual) 33 (by decide) dX6_mutual_92, O.oc, O.g0, O.g1, O.g2, O.g3, O.g4, O.g5, O.g6, O.g7, O.g9, O.g10, O.g11, O.p0, O.p7, O.a1, O.a2, O.a3, O.a4, O.a5, O.a6, O.a7, O.a8, O.a9, F0, h9, q1, q2]
              rw [show acc + nI 0 = acc from Int32.add_zero acc]
              exact k acc (by omega)
            · have q2 : (nI i = nI b.val) = False := eq_false (by rw [nI_eq_ (by omega) (by omega)]; exact p2)
              by_cases r1 : 0 < wB s.1 (cI i) a
              · rw [decide_eq_true r1] at B1
                by_cases r2 : 0 < wB s.1 (cI i) b
                · rw [decide_eq_true r2] at B2
                  rw [show muS s.1 a b i acc = acc + nI 1 by unfold muS; rw [if_pos r1, if_pos r2]]
                  simp (disch := first | omega | assumption) only [mm_op_some, true_and, and_true, mm_rc_some, mm_rc_none, pk_mul, nI_add, mm_in_t, nI_clamp, ok0, ok1, ok2, ok3, ok4, n1_0, n0_0, nI_le_, nI_lt_, if_true, if_false, not_true, not_false_eq_true, ce_lt, ce_cl, hf_lt, hf_cl, n0_zz, n1_zz, bI_t, bI_f, wp_bipush (y := zX6_mutual) (nI 48) kb_48 dX6_mutual_35, wp_icmp_ge (y := zX6_mutual) 95 (by decide) dX6_mutual_37, wp_il3 (y := zX6_mutual) dX6_mutual_40, wp_al0 (y := zX6_mutual) dX6_mutual_41, wp_il4 (y := zX6_mutual) dX6_mutual_42, wp_cv1 (y := zX6_mutual) kM6_93 (by decide) dX6_mutual_44, (show yo zX6_isCell = 6 from rfl), wp_if_eq (y := zX6_mutual) 86 (by decide) dX6_mutual_47, wp_il4 (y := zX6_mutual) dX6_mutual_50, wp_il1 (y := zX6_mutual) dX6_mutual_52, wp_icmp_eq (y := zX6_mutual) 86 (by decide) dX6_mutual_53, wp_il4 (y := zX6_mutual) dX6_mutual_56, wp_il2 (y := zX6_mutual) dX6_mutual_58, wp_icmp_eq (y := zX6_mutual) 86 (by decide) dX6_mutual_59, wp_al0 (y := zX6_mutual) dX6_mutual_62, wp_il4 (y := zX6_mutual) dX6_mutual_63, wp_il1 (y := zX6_mutual) dX6_mutual_65, wp_cv2 (y := zX6_mutual) kM6_237 (by decide) dX6_mutual_66, (show yo zX6_areBeside = 6 from rfl), wp_if_eq (y := zX6_mutual) 86 (by decide) dX6_mutual_69, wp_al0 (y := zX6_mutual) dX6_mutual_72, wp_il4 (y := zX6_mutual) dX6_mutual_73, wp_il2 (y := zX6_mutual) dX6_mutual_75, wp_cv2 (y := zX6_mutual) kM6_237 (by decide) dX6_mutual_76, (show yo zX6_areBeside = 6 from rfl), wp_if_eq (y := zX6_mutual) 86 (by decide) dX6_mutual_79, wp_iconst (y := zX6_mutual) (nI 1) ki_1 dX6_mutual_82, wp_goto (y := zX6_mutual) 87 (by decide) dX6_mutual_83, wp_iadd (y := zX6_mutual) dX6_mutual_87, wp_is3 (y := zX6_mutual) dX6_mutual_88, wp_inc4 (y := zX6_mutual) (nI 1) ki_1 dX6_mutual_89, wp_goto (y := zX6_mutual) 33 (by decide) dX6_mutual_92, O.oc, O.g0, O.g1, O.g2, O.g3, O.g4, O.g5, O.g6, O.g7, O.g9, O.g10, O.g11, O.p0, O.p7, O.a1, O.a2, O.a3, O.a4, O.a5, O.a6, O.a7, O.a8, O.a9, F0, h9, q1, q2, B1, B2]
                  exact k _ (by omega)
                · rw [decide_eq_false r2] at B2
                  rw [show muS s.1 a b i acc = acc by unfold muS; rw [if_neg r2, ite_self]]
                  simp (disch := first | omega | assumption) only [mm_op_some, true_and, and_true, mm_rc_some, mm_rc_none, pk_mul, nI_add, mm_in_t, nI_clamp, ok0, ok1, ok2, ok3, ok4, n1_0, n0_0, nI_le_, nI_lt_, if_true, if_false, not_true, not_false_eq_true, ce_lt, ce_cl, hf_lt, hf_cl, n0_zz, n1_zz, bI_t, bI_f, wp_bipush (y := zX6_mutual) (nI 48) kb_48 dX6_mutual_35, wp_icmp_ge (y := zX6_mutual) 95 (by decide) dX6_mutual_37, wp_il3 (y := zX6_mutual) dX6_mutual_40, wp_al0 (y := zX6_mutual) dX6_mutual_41, wp_il4 (y := zX6_mutual) dX6_mutual_42, wp_cv1 (y := zX6_mutual) kM6_93 (by decide) dX6_mutual_44, (show yo zX6_isCell = 6 from rfl), wp_if_eq (y := zX6_mutual) 86 (by decide) dX6_mutual_47, wp_il4 (y := zX6_mutual) dX6_mutual_50, wp_il1 (y := zX6_mutual) dX6_mutual_52, wp_icmp_eq (y := zX6_mutual) 86 (by decide) dX6_mutual_53, wp_il4 (y := zX6_mutual) dX6_mutual_56, wp_il2 (y := zX6_mutual) dX6_mutual_58, wp_icmp_eq (y := zX6_mutual) 86 (by decide) dX6_mutual_59, wp_al0 (y := zX6_mutual) dX6_mutual_62, wp_il4 (y := zX6_mutual) dX6_mutual_63, wp_il1 (y := zX6_mutual) dX6_mutual_65, wp_cv2 (y := zX6_mutual) kM6_237 (by decide) dX6_mutual_66, (show yo zX6_areBeside = 6 from rfl), wp_if_eq (y := zX6_mutual) 86 (by decide) dX6_mutual_69, wp_al0 (y := zX6_mutual) dX6_mutual_72, wp_il4 (y := zX6_mutual) dX6_mutual_73, wp_il2 (y := zX6_mutual) dX6_mutual_75, wp_cv2 (y := zX6_mutual) kM6_237 (by decide) dX6_mutual_76, (show yo zX6_areBeside = 6 from rfl), wp_if_eq (y := zX6_mutual) 86 (by decide) dX6_mutual_79, wp_iconst (y := zX6_mutual) (nI 0) ki_0 dX6_mutual_86, wp_iadd (y := zX6_mutual) dX6_mutual_87, wp_is3 (y := zX6_mutual) dX6_mutual_88, wp_inc4 (y := zX6_mutual) (nI 1) ki_1 dX6_mutual_89, wp_goto (y := zX6_mutual) 33 (by decide) dX6_mutual_92, O.oc, O.g0, O.g1, O.g2, O.g3, O.g4, O.g5, O.g6, O.g7, O.g9, O.g10, O.g11, O.p0, O.p7, O.a1, O.a2, O.a3, O.a4, O.a5, O.a6, O.a7, O.a8, O.a9, F0, h9, q1, q2, B1, B2]
                  rw [show acc + nI 0 = acc from Int32.add_zero acc]
                  exact k acc (by omega)
              · rw [decide_eq_false r1] at B1
                rw [show muS s.1 a b i acc = acc from if_neg r1]
                simp (disch := first | omega | assumption) only [mm_op_some, true_and, and_true, mm_rc_some, mm_rc_none, pk_mul, nI_add, mm_in_t, nI_clamp, ok0, ok1, ok2, ok3, ok4, n1_0, n0_0, nI_le_, nI_lt_, if_true, if_false, not_true, not_false_eq_true, ce_lt, ce_cl, hf_lt, hf_cl, n0_zz, n1_zz, bI_t, bI_f, wp_bipush (y := zX6_mutual) (nI 48) kb_48 dX6_mutual_35, wp_icmp_ge (y := zX6_mutual) 95 (by decide) dX6_mutual_37, wp_il3 (y := zX6_mutual) dX6_mutual_40, wp_al0 (y := zX6_mutual) dX6_mutual_41, wp_il4 (y := zX6_mutual) dX6_mutual_42, wp_cv1 (y := zX6_mutual) kM6_93 (by decide) dX6_mutual_44, (show yo zX6_isCell = 6 from rfl), wp_if_eq (y := zX6_mutual) 86 (by decide) dX6_mutual_47, wp_il4 (y := zX6_mutual) dX6_mutual_50, wp_il1 (y := zX6_mutual) dX6_mutual_52, wp_icmp_eq (y := zX6_mutual) 86 (by decide) dX6_mutual_53, wp_il4 (y := zX6_mutual) dX6_mutual_56, wp_il2 (y := zX6_mutual) dX6_mutual_58, wp_icmp_eq (y := zX6_mutual) 86 (by decide) dX6_mutual_59, wp_al0 (y := zX6_mutual) dX6_mutual_62, wp_il4 (y := zX6_mutual) dX6_mutual_63, wp_il1 (y := zX6_mutual) dX6_mutual_65, wp_cv2 (y := zX6_mutual) kM6_237 (by decide) dX6_mutual_66, (show yo zX6_areBeside = 6 from rfl), wp_if_eq (y := zX6_mutual) 86 (by decide) dX6_mutual_69, wp_iconst (y := zX6_mutual) (nI 0) ki_0 dX6_mutual_86, wp_iadd (y := zX6_mutual) dX6_mutual_87, wp_is3 (y := zX6_mutual) dX6_mutual_88, wp_inc4 (y := zX6_mutual) (nI 1) ki_1 dX6_mutual_89, wp_goto (y := zX6_mutual) 33 (by decide) dX6_mutual_92, O.oc, O.g0, O.g1, O.g2, O.g3, O.g4, O.g5, O.g6, O.g7, O.g9, O.g10, O.g11, O.p0, O.p7, O.a1, O.a2, O.a3, O.a4, O.a5, O.a6, O.a7, O.a8, O.a9, F0, h9, q1, q2, B1]
                rw [show acc + nI 0 = acc from Int32.add_zero acc]
                exact k acc (by omega)
        · have F0 : ∀ Q', cl sh zX6_isCell [.ref m, .int (nI i)] (mu μ m (upd (μ m) 0 (nI 0))) Q' = Q' (some (.int (nI 0))) (mu μ m (upd (μ m) 0 (nI 0))) := fun Q' => m_isCell0 O A J.sdb hi' h
          have no : ¬ 0 < wB s.1 (cI i) a := fun z => h (J.wB_l z).1
          rw [show muS s.1 a b i acc = acc from if_neg no]
          simp (disch := first | omega | assumption) only [mm_op_some, true_and, and_true, mm_rc_some, mm_rc_none, pk_mul, nI_add, mm_in_t, nI_clamp, ok0, ok1, ok2, ok3, ok4, n1_0, n0_0, nI_le_, nI_lt_, if_true, if_false, not_true, not_false_eq_true, ce_lt, ce_cl, hf_lt, hf_cl, n0_zz, n1_zz, bI_t, bI_f, wp_bipush (y := zX6_mutual) (nI 48) kb_48 dX6_mutual_35, wp_icmp_ge (y := zX6_mutual) 95 (by decide) dX6_mutual_37, wp_il3 (y := zX6_mutual) dX6_mutual_40, wp_al0 (y := zX6_mutual) dX6_mutual_41, wp_il4 (y := zX6_mutual) dX6_mutual_42, wp_cv1 (y := zX6_mutual) kM6_93 (by decide) dX6_mutual_44, (show yo zX6_isCell = 6 from rfl), wp_if_eq (y := zX6_mutual) 86 (by decide) dX6_mutual_47, wp_iconst (y := zX6_mutual) (nI 0) ki_0 dX6_mutual_86, wp_iadd (y := zX6_mutual) dX6_mutual_87, wp_is3 (y := zX6_mutual) dX6_mutual_88, wp_inc4 (y := zX6_mutual) (nI 1) ki_1 dX6_mutual_89, wp_goto (y := zX6_mutual) 33 (by decide) dX6_mutual_92, O.oc, O.g0, O.g1, O.g2, O.g3, O.g4, O.g5, O.g6, O.g7, O.g9, O.g10, O.g11, O.p0, O.p7, O.a1, O.a2, O.a3, O.a4, O.a5, O.a6, O.a7, O.a8, O.a9, F0, h9]
          rw [show acc + nI 0 = acc from Int32.add_zero acc]
          exact k acc (by omega)
    have k0 := key 48 0 (nI 0) (by omega)
    rw [hv] at k0
    simp (disch := first | omega | assumption) only [mm_op_some, true_and, and_true, mm_rc_some, mm_rc_none, pk_mul, nI_add, mm_in_t, nI_clamp, ok0, ok1, ok2, ok3, ok4, n1_0, n0_0, nI_le_, nI_lt_, if_true, if_false, not_true, not_false_eq_true, ce_lt, ce_cl, hf_lt, hf_cl, n0_zz, n1_zz, wp_al0 (y := zX6_mutual) dX6_mutual_0, wp_iconst (y := zX6_mutual) (nI 0) ki_0 dX6_mutual_1, wp_putf (y := zX6_mutual) kF6_44 rfl dX6_mutual_2, wp_al0 (y := zX6_mutual) dX6_mutual_5, wp_il1 (y := zX6_mutual) dX6_mutual_6, wp_cv1 (y := zX6_mutual) kM6_93 (by decide) dX6_mutual_7, (show yo zX6_isCell = 6 from rfl), wp_if_eq (y := zX6_mutual) 26 (by decide) dX6_mutual_10, wp_al0 (y := zX6_mutual) dX6_mutual_13, wp_il2 (y := zX6_mutual) dX6_mutual_14, wp_cv1 (y := zX6_mutual) kM6_93 (by decide) dX6_mutual_15, (show yo zX6_isCell = 6 from rfl), wp_if_eq (y := zX6_mutual) 26 (by decide) dX6_mutual_18, wp_il1 (y := zX6_mutual) dX6_mutual_21, wp_il2 (y := zX6_mutual) dX6_mutual_22, wp_icmp_ne (y := zX6_mutual) 28 (by decide) dX6_mutual_23, wp_iconst (y := zX6_mutual) (nI 0) ki_0 dX6_mutual_28, wp_is3 (y := zX6_mutual) dX6_mutual_29, wp_iconst (y := zX6_mutual) (nI 0) ki_0 dX6_mutual_30, wp_is4 (y := zX6_mutual) dX6_mutual_31, O.oc, O.g0, O.g1, O.g2, O.g3, O.g4, O.g5, O.g6, O.g7, O.g9, O.g10, O.g11, O.p0, O.p7, O.a1, O.a2, O.a3, O.a4, O.a5, O.a6, O.a7, O.a8, O.a9, E1, E2, q]
    rw [k0]
    exact fin
end MMU
