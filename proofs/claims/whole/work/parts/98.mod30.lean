section MGP
variable {sh : mm_Sh} {m : Nat} {M N : Ms} {μ : mm_U} {s : Fo} {Q : Option Value → mm_U → Prop}
theorem i_nlt {x y : Int32} (h : y ≤ x) : (x < y) = False := eq_false (by rw [Int32.lt_iff_toInt_lt]; rw [Int32.le_iff_toInt_le] at h; omega)
theorem i_lt {x y : Int32} (h : ¬ y ≤ x) : (x < y) = True := eq_true (by rw [Int32.lt_iff_toInt_lt]; rw [Int32.le_iff_toInt_le] at h; omega)
theorem m_areAlike (O : MoSh sh m) (A : MeR M (μ (m + 1))) (B : SdB M) (B2 : SdB N) (h : ∀ c : Ce, μ (m + 2) (1648 + c.val) = nI (sd N c)) : cl sh zX6_areAlike [.ref m] μ Q = Q (some (.int (bI (fd (fun k => decide (sd M (cI k) ≠ sd N (cI k))) 48 0).isNone))) μ := by
  have key : ∀ d i b, i + d = 48 → wp sh zX6_areAlike 4 [.ref m, .int (bI b), .int (nI i)] [] μ Q = Q (some (.int (bI (b && (fd (fun k => decide (sd M (cI k) ≠ sd N (cI k))) d i).isNone)))) μ := by
    intro d
    induction d with
    | zero =>
      intro i b hi
      have e : i = 48 := by omega
      rw [e, wp_il2 (y := zX6_areAlike) dX6_areAlike_4]
      simp (disch := first | omega | assumption) only [mm_op_some, true_and, and_true, mm_rc_some, mm_rc_none, pk_mul, nI_add, mm_in_t, nI_clamp, ok0, ok1, ok2, ok3, ok4, n1_0, n0_0, nI_le_, nI_lt_, if_true, if_false, not_true, not_false_eq_true, ce_lt, ce_cl, hf_lt, hf_cl, bI_zz, wp_bipush (y := zX6_areAlike) (nI 48) kb_48 dX6_areAlike_5, wp_icmp_ge (y := zX6_areAlike) 49 (by decide) dX6_areAlike_7, wp_il1 (y := zX6_areAlike) dX6_areAlike_49, wp_iretz (y := zX6_areAlike) rfl dX6_areAlike_50, Nat.le_refl]
      unfold fd
      rw [show (none : Option Nat).isNone = true from rfl, Bool.and_true]
    | succ d ih =>
      intro i b hi
      have h9 : (48 ≤ i) = False := eq_false (by omega)
      have hi' : i < 48 := by omega
      have r1 := A.2.2.1 (cI i)
      have r2 := h (cI i)
      rw [cI_lt hi'] at r1 r2
      have b1 := B (cI i)
      have b2 := B2 (cI i)
      rw [wp_il2 (y := zX6_areAlike) dX6_areAlike_4]
      show _ = Q (some (.int (bI (b && (if decide (sd M (cI i) ≠ sd N (cI i)) = true then some i else fd (fun k => decide (sd M (cI k) ≠ sd N (cI k))) d (i + 1)).isNone)))) μ
      cases b with
      | false =>
        have k := ih (i + 1) false (by omega)
        rw [Bool.false_and] at k ⊢
        rw [bI_f] at k
        simp (disch := first | omega | assumption) only [mm_op_some, true_and, and_true, mm_rc_some, mm_rc_none, pk_mul, nI_add, mm_in_t, nI_clamp, ok0, ok1, ok2, ok3, ok4, n1_0, n0_0, nI_le_, nI_lt_, if_true, if_false, not_true, not_false_eq_true, ce_lt, ce_cl, hf_lt, hf_cl, n0_zz, bI_f, wp_bipush (y := zX6_areAlike) (nI 48) kb_48 dX6_areAlike_5, wp_icmp_ge (y := zX6_areAlike) 49 (by decide) dX6_areAlike_7, wp_il1 (y := zX6_areAlike) dX6_areAlike_10, wp_if_eq (y := zX6_areAlike) 41 (by decide) dX6_areAlike_11, wp_iconst (y := zX6_areAlike) (nI 0) ki_0 dX6_areAlike_41, wp_is1 (y := zX6_areAlike) dX6_areAlike_42, wp_inc2 (y := zX6_areAlike) (nI 1) ki_1 dX6_areAlike_43, wp_goto (y := zX6_areAlike) 4 (by decide) dX6_areAlike_46, O.oc, O.g0, O.g1, O.g2, O.g3, O.g4, O.g5, O.g6, O.g7, O.g9, O.g10, O.g11, O.p0, O.p7, O.a1, O.a2, O.a3, O.a4, O.a5, O.a6, O.a7, O.a8, O.a9, h9]
        exact k
      | true =>
        by_cases q : sd M (cI i) = sd N (cI i)
        · have k := ih (i + 1) true (by omega)
          have q' : (sd M (cI i) = sd N (cI i)) = True := eq_true q
          rw [bI_t] at k
          rw [if_neg (by rw [decide_eq_true_iff]; exact fun z => z q)]
          simp (disch := first | omega | assumption) only [mm_op_some, true_and, and_true, mm_rc_some, mm_rc_none, pk_mul, nI_add, mm_in_t, nI_clamp, ok0, ok1, ok2, ok3, ok4, n1_0, n0_0, nI_le_, nI_lt_, if_true, if_false, not_true, not_false_eq_true, ce_lt, ce_cl, hf_lt, hf_cl, n1_zz, bI_t, nI_eq_, wp_bipush (y := zX6_areAlike) (nI 48) kb_48 dX6_areAlike_5, wp_icmp_ge (y := zX6_areAlike) 49 (by decide) dX6_areAlike_7, wp_il1 (y := zX6_areAlike) dX6_areAlike_10, wp_if_eq (y := zX6_areAlike) 41 (by decide) dX6_areAlike_11, wp_al0 (y := zX6_areAlike) dX6_areAlike_14, wp_getf (y := zX6_areAlike) kF6_9 dX6_areAlike_15, wp_sipush (y := zX6_areAlike) (nI 1648) ks_1648 dX6_areAlike_18, wp_il2 (y := zX6_areAlike) dX6_areAlike_21, wp_iadd (y := zX6_areAlike) dX6_areAlike_22, wp_iald (y := zX6_areAlike) dX6_areAlike_23, wp_al0 (y := zX6_areAlike) dX6_areAlike_24, wp_getf (y := zX6_areAlike) kF6_15 dX6_areAlike_25, wp_sipush (y := zX6_areAlike) (nI 1648) ks_1648 dX6_areAlike_28, wp_il2 (y := zX6_areAlike) dX6_areAlike_31, wp_iadd (y := zX6_areAlike) dX6_areAlike_32, wp_iald (y := zX6_areAlike) dX6_areAlike_33, wp_icmp_ne (y := zX6_areAlike) 41 (by decide) dX6_areAlike_34, wp_iconst (y := zX6_areAlike) (nI 1) ki_1 dX6_areAlike_37, wp_goto (y := zX6_areAlike) 42 (by decide) dX6_areAlike_38, wp_is1 (y := zX6_areAlike) dX6_areAlike_42, wp_inc2 (y := zX6_areAlike) (nI 1) ki_1 dX6_areAlike_43, wp_goto (y := zX6_areAlike) 4 (by decide) dX6_areAlike_46, O.oc, O.g0, O.g1, O.g2, O.g3, O.g4, O.g5, O.g6, O.g7, O.g9, O.g10, O.g11, O.p0, O.p7, O.a1, O.a2, O.a3, O.a4, O.a5, O.a6, O.a7, O.a8, O.a9, h9, r1, r2, q']
          exact k
        · have k := ih (i + 1) false (by omega)
          have q' : (sd M (cI i) = sd N (cI i)) = False := eq_false q
          rw [bI_f, Bool.false_and] at k
          rw [if_pos (decide_eq_true q), show (some i).isNone = false from rfl, Bool.and_false]
          simp (disch := first | omega | assumption) only [mm_op_some, true_and, and_true, mm_rc_some, mm_rc_none, pk_mul, nI_add, mm_in_t, nI_clamp, ok0, ok1, ok2, ok3, ok4, n1_0, n0_0, nI_le_, nI_lt_, if_true, if_false, not_true, not_false_eq_true, ce_lt, ce_cl, hf_lt, hf_cl, n1_zz, bI_t, nI_eq_, wp_bipush (y := zX6_areAlike) (nI 48) kb_48 dX6_areAlike_5, wp_icmp_ge (y := zX6_areAlike) 49 (by decide) dX6_areAlike_7, wp_il1 (y := zX6_areAlike) dX6_areAlike_10, wp_if_eq (y := zX6_areAlike) 41 (by decide) dX6_areAlike_11, wp_al0 (y := zX6_areAlike) dX6_areAlike_14, wp_getf (y := zX6_areAlike) kF6_9 dX6_areAlike_15, wp_sipush (y := zX6_areAlike) (nI 1648) ks_1648 dX6_areAlike_18, wp_il2 (y := zX6_areAlike) dX6_areAlike_21, wp_iadd (y := zX6_areAlike) dX6_areAlike_22, wp_iald (y := zX6_areAlike) dX6_areAlike_23, wp_al0 (y := zX6_areAlike) dX6_areAlike_24, wp_getf (y := zX6_areAlike) kF6_15 dX6_areAlike_25, wp_sipush (y := zX6_areAlike) (nI 1648) ks_1648 dX6_areAlike_28, wp_il2 (y := zX6_areAlike) dX6_areAlike_31, wp_iadd (y := zX6_areAlike) dX6_areAlike_32, wp_iald (y := zX6_areAlike) dX6_areAlike_33, wp_icmp_ne (y := zX6_areAlike) 41 (by decide) dX6_areAlike_34, wp_iconst (y := zX6_areAlike) (nI 0) ki_0 dX6_areAlike_41, wp_is1 (y := zX6_areAlike) dX6_areAlike_42, wp_inc2 (y := zX6_areAlike) (nI 1) ki_1 dX6_areAlike_43, wp_goto (y := zX6_areAlike) 4 (by decide) dX6_areAlike_46, O.oc, O.g0, O.g1, O.g2, O.g3, O.g4, O.g5, O.g6, O.g7, O.g9, O.g10, O.g11, O.p0, O.p7, O.a1, O.a2, O.a3, O.a4, O.a5, O.a6, O.a7, O.a8, O.a9, h9, r1, r2, q']
          exact k
  have k0 := key 48 0 true (by omega)
  rw [Bool.true_and, bI_t] at k0
  show wp sh zX6_areAlike 0 [.ref m, .null, .null] [] μ Q = _
  simp (disch := first | omega | assumption) only [mm_op_some, true_and, and_true, mm_rc_some, mm_rc_none, pk_mul, nI_add, mm_in_t, nI_clamp, ok0, ok1, ok2, ok3, ok4, n1_0, n0_0, nI_le_, nI_lt_, if_true, if_false, not_true, not_false_eq_true, ce_lt, ce_cl, hf_lt, hf_cl, wp_iconst (y := zX6_areAlike) (nI 1) ki_1 dX6_areAlike_0, wp_is1 (y := zX6_areAlike) dX6_areAlike_1, wp_iconst (y := zX6_areAlike) (nI 0) ki_0 dX6_areAlike_2, wp_is2 (y := zX6_areAlike) dX6_areAlike_3]
  exact k0
theorem m_alike (O : MoSh sh m) (R : RepM s μ m) (J : Inv s.1) (g0 : μ m 7 = nI 0) : cl sh zX6_alike [.ref m] μ (MT m μ (a_alike s, s)) := by
  have R0 := R.mu0 (nI 0)
  have g1 : (mu μ m (upd (μ m) 0 (nI 0))) m 7 = nI 0 := by rw [mu_s, upd_n _ _ (by omega)]; exact g0
  show wp sh zX6_alike 0 [.ref m, .null, .null] [] μ _
  unfold a_alike
  have E2 : ∀ Q', cl sh zX6_think [.ref m] (mu μ m (upd (μ m) 0 (nI 0))) Q' = Q' none (mu (mu μ m (upd (μ m) 0 (nI 0))) (m + 2) (cpR ((mu μ m (upd (μ m) 0 (nI 0))) (m + 1)) ((mu μ m (upd (μ m) 0 (nI 0))) (m + 2)) 0 0 1786)) := fun Q' => m_think O
  have fin : ∀ μ2, RM (mu (mu μ m (upd (μ m) 0 (nI 0))) (m + 2) (cpR ((mu μ m (upd (μ m) 0 (nI 0))) (m + 1)) ((mu μ m (upd (μ m) 0 (nI 0))) (m + 2)) 0 0 1786)) μ2 m → μ2 m 7 = nI 0 → MT m μ (fo1 (fd (fun i => alk (goK (i + 1) s) s) 50 0), s) (some (.int (fo1 (fd (fun i => alk (goK (i + 1) s) s) 50 0)))) (mu μ2 (m + 1) (cpR (μ2 (m + 2)) (μ2 (m + 1)) 0 0 1786)) := fun μ2 F h7 => th_end R0 J g0 F.rs h7
  generalize MT m μ (fo1 (fd (fun i => alk (goK (i + 1) s) s) 50 0), s) = QQ at fin ⊢
  have R1 : RepM s (mu (mu μ m (upd (μ m) 0 (nI 0))) (m + 2) (cpR ((mu μ m (upd (μ m) 0 (nI 0))) (m + 1)) ((mu μ m (upd (μ m) 0 (nI 0))) (m + 2)) 0 0 1786)) m := th_of R0
  have g2 : (mu (mu μ m (upd (μ m) 0 (nI 0))) (m + 2) (cpR ((mu μ m (upd (μ m) 0 (nI 0))) (m + 1)) ((mu μ m (upd (μ m) 0 (nI 0))) (m + 2)) 0 0 1786)) m 7 = nI 0 := by rw [mu_n _ _ (by omega)]; exact g1
  have asd : ∀ c : Ce, (mu (mu μ m (upd (μ m) 0 (nI 0))) (m + 2) (cpR ((mu μ m (upd (μ m) 0 (nI 0))) (m + 1)) ((mu μ m (upd (μ m) 0 (nI 0))) (m + 2)) 0 0 1786)) (m + 2) (1648 + c.val) = nI (sd s.1 c) := fun c => by
    rw [mu_s]
    unfold cpR
    rw [if_pos (by omega), show 0 + (1648 + c.val - 0) = 1648 + c.val by omega]
    exact R0.1.2.2.1 c
  have loop : ∀ d i μ1, i + d = 50 → RepM (goK i s) μ1 m → Inv (goK i s).1 → μ1 m 7 = nI 0 → RM (mu (mu μ m (upd (μ m) 0 (nI 0))) (m + 2) (cpR ((mu μ m (upd (μ m) 0 (nI 0))) (m + 1)) ((mu μ m (upd (μ m) 0 (nI 0))) (m + 2)) 0 0 1786)) μ1 m → (∀ (w : Value) μ2, RM (mu (mu μ m (upd (μ m) 0 (nI 0))) (m + 2) (cpR ((mu μ m (upd (μ m) 0 (nI 0))) (m + 1)) ((mu μ m (upd (μ m) 0 (nI 0))) (m + 2)) 0 0 1786)) μ2 m → μ2 m 7 = nI 0 → wp sh zX6_alike 47 [.ref m, .int (fo1 (fd (fun i => alk (goK (i + 1) s) s) d i)), w] [] μ2 QQ) → wp sh zX6_alike 13 [.ref m, .int (-1), .int (nI (i + 1))] [] μ1 QQ := by
    intro d
    induction d with
    | zero =>
      intro i μ1 hi R1 J1 h7 F1 K
      have e : i = 50 := by omega
      rw [e] at K ⊢
      have e9 : (50 < 50 + 1) = True := eq_true (by omega)
      rw [wp_il2 (y := zX6_alike) dX6_alike_13]
      simp (disch := first | omega | assumption) only [mm_op_some, true_and, and_true, mm_rc_some, mm_rc_none, pk_mul, nI_add, mm_in_t, nI_clamp, ok0, ok1, ok2, ok3, ok4, n1_0, n0_0, nI_le_, nI_lt_, if_true, if_false, not_true, not_false_eq_true, ce_lt, ce_cl, hf_lt, hf_cl, wp_bipush (y := zX6_alike) (nI 50) kb_50 dX6_alike_14, wp_icmp_gt (y := zX6_alike) 47 (by decide) dX6_alike_16, e9]
      exact K _ μ1 F1 h7
    | succ d ih =>
      intro i μ1 hi R1 J1 h7 F1 K
      have e9 : (50 < i + 1) = False := eq_false (by omega)
      have em : ((-1 : Int32) = -1) = True := eq_true rfl
      rw [wp_il2 (y := zX6_alike) dX6_alike_13]
      simp (disch := first | omega | assumption) only [mm_op_some, true_and, and_true, mm_rc_some, mm_rc_none, pk_mul, nI_add, mm_in_t, nI_clamp, ok0, ok1, ok2, ok3, ok4, n1_0, n0_0, nI_le_, nI_lt_, if_true, if_false, not_true, not_false_eq_true, ce_lt, ce_cl, hf_lt, hf_cl, wp_bipush (y := zX6_alike) (nI 50) kb_50 dX6_alike_14, wp_icmp_gt (y := zX6_alike) 47 (by decide) dX6_alike_16, wp_il1 (y := zX6_alike) dX6_alike_19, wp_iconst (y := zX6_alike) ((-1)) ki_m1 dX6_alike_20, wp_icmp_ne (y := zX6_alike) 47 (by decide) dX6_alike_21, wp_al0 (y := zX6_alike) dX6_alike_24, wp_cv0 (y := zX6_alike) kM6_228 (by decide) dX6_alike_25, (show yo zX6_step = 6 from rfl), O.oc, O.g0, O.g1, O.g2, O.g3, O.g4, O.g5, O.g6, O.g7, O.g9, O.g10, O.g11, O.p0, O.p7, O.a1, O.a2, O.a3, O.a4, O.a5, O.a6, O.a7, O.a8, O.a9, e9, em]
      refine cl_mono (m_step O R1 J1 h7) ?_
      rintro r μ2 ⟨rfl, ⟨R2, J2, h72⟩, F2⟩
      rw [← goK_s] at R2 J2
      by_cases hp : alk (goK (i + 1) s) s = true
      · have ef : fd (fun i => alk (goK (i + 1) s) s) (d + 1) i = some i := if_pos hp
        rw [ef] at K
        have a2 : ∀ c : Ce, μ2 (m + 2) (1648 + c.val) = nI (sd s.1 c) := fun c => by rw [(F1.trans F2).1 (m + 2) (by omega) (by omega)]; exact asd c
        have E : ∀ Q', cl sh zX6_areAlike [.ref m] μ2 Q' = Q' (some (.int (bI (alk (goK (i + 1) s) s)))) μ2 := fun Q' => m_areAlike O R2.1 J2.sdb J.sdb a2
        rw [show alk (goK (i + 1) s) s = true from hp] at E
        simp (disch := first | omega | assumption) only [mm_op_some, true_and, and_true, mm_rc_some, mm_rc_none, pk_mul, nI_add, mm_in_t, nI_clamp, ok0, ok1, ok2, ok3, ok4, n1_0, n0_0, nI_le_, nI_lt_, if_true, if_false, not_true, not_false_eq_true, ce_lt, ce_cl, hf_lt, hf_cl, n1_zz, bI_t, wp_al0 (y := zX6_alike) dX6_alike_28, wp_cv0 (y := zX6_alike) kM6_310 (by decide) dX6_alike_29, (show yo zX6_areAlike = 6 from rfl), wp_if_eq (y := zX6_alike) 39 (by decide) dX6_alike_32, wp_il2 (y := zX6_alike) dX6_alike_35, wp_goto (y := zX6_alike) 40 (by decide) dX6_alike_36, wp_is1 (y := zX6_alike) dX6_alike_40, wp_inc2 (y := zX6_alike) (nI 1) ki_1 dX6_alike_41, wp_goto (y := zX6_alike) 13 (by decide) dX6_alike_44, O.oc, O.g0, O.g1, O.g2, O.g3, O.g4, O.g5, O.g6, O.g7, O.g9, O.g10, O.g11, O.p0, O.p7, O.a1, O.a2, O.a3, O.a4, O.a5, O.a6, O.a7, O.a8, O.a9, E]
        have e1 : (nI (i + 1) = (-1 : Int32)) = False := nI_m1 (by omega)
        rw [wp_il2 (y := zX6_alike) dX6_alike_13]
        by_cases q : 50 < i + 1 + 1
        · have q' : (50 < i + 1 + 1) = True := eq_true q
          simp (disch := first | omega | assumption) only [mm_op_some, true_and, and_true, mm_rc_some, mm_rc_none, pk_mul, nI_add, mm_in_t, nI_clamp, ok0, ok1, ok2, ok3, ok4, n1_0, n0_0, nI_le_, nI_lt_, if_true, if_false, not_true, not_false_eq_true, ce_lt, ce_cl, hf_lt, hf_cl, wp_bipush (y := zX6_alike) (nI 50) kb_50 dX6_alike_14, wp_icmp_gt (y := zX6_alike) 47 (by decide) dX6_alike_16, q']
          exact K _ μ2 (F1.trans F2) h72
        · have q' : (50 < i + 1 + 1) = False := eq_false q
          simp (disch := first | omega | assumption) only [mm_op_some, true_and, and_true, mm_rc_some, mm_rc_none, pk_mul, nI_add, mm_in_t, nI_clamp, ok0, ok1, ok2, ok3, ok4, n1_0, n0_0, nI_le_, nI_lt_, if_true, if_false, not_true, not_false_eq_true, ce_lt, ce_cl, hf_lt, hf_cl, wp_bipush (y := zX6_alike) (nI 50) kb_50 dX6_alike_14, wp_icmp_gt (y := zX6_alike) 47 (by decide) dX6_alike_16, wp_il1 (y := zX6_alike) dX6_alike_19, wp_iconst (y := zX6_alike) ((-1)) ki_m1 dX6_alike_20, wp_icmp_ne (y := zX6_alike) 47 (by decide) dX6_alike_21, q', e1]
          exact K _ μ2 (F1.trans F2) h72
      · have ef : fd (fun i => alk (goK (i + 1) s) s) (d + 1) i = fd (fun i => alk (goK (i + 1) s) s) d (i + 1) := if_neg hp
        rw [ef] at K
        have a2 : ∀ c : Ce, μ2 (m + 2) (1648 + c.val) = nI (sd s.1 c) := fun c => by rw [(F1.trans F2).1 (m + 2) (by omega) (by omega)]; exact asd c
        have E : ∀ Q', cl sh zX6_areAlike [.ref m] μ2 Q' = Q' (some (.int (bI (alk (goK (i + 1) s) s)))) μ2 := fun Q' => m_areAlike O R2.1 J2.sdb J.sdb a2
        rw [show alk (goK (i + 1) s) s = false from Bool.eq_false_iff.mpr hp] at E
        simp (disch := first | omega | assumption) only [mm_op_some, true_and, and_true, mm_rc_some, mm_rc_none, pk_mul, nI_add, mm_in_t, nI_clamp, ok0, ok1, ok2, ok3, ok4, n1_0, n0_0, nI_le_, nI_lt_, if_true, if_false, not_true, not_false_eq_true, ce_lt, ce_cl, hf_lt, hf_cl, n0_zz, bI_f, wp_al0 (y := zX6_alike) dX6_alike_28, wp_cv0 (y := zX6_alike) kM6_310 (by decide) dX6_alike_29, (show yo zX6_areAlike = 6 from rfl), wp_if_eq (y := zX6_alike) 39 (by decide) dX6_alike_32, wp_iconst (y := zX6_alike) ((-1)) ki_m1 dX6_alike_39, wp_is1 (y := zX6_alike) dX6_alike_40, wp_inc2 (y := zX6_alike) (nI 1) ki_1 dX6_alike_41, wp_goto (y := zX6_alike) 13 (by decide) dX6_alike_44, O.oc, O.g0, O.g1, O.g2, O.g3, O.g4, O.g5, O.g6, O.g7, O.g9, O.g10, O.g11, O.p0, O.p7, O.a1, O.a2, O.a3, O.a4, O.a5, O.a6, O.a7, O.a8, O.a9, E]
        exact ih (i + 1) μ2 (by omega) R2 J2 h72 (F1.trans F2) K
  simp (disch := first | omega | assumption) only [mm_op_some, true_and, and_true, mm_rc_some, mm_rc_none, pk_mul, nI_add, mm_in_t, nI_clamp, ok0, ok1, ok2, ok3, ok4, n1_0, n0_0, nI_le_, nI_lt_, if_true, if_false, not_true, not_false_eq_true, ce_lt, ce_cl, hf_lt, hf_cl, n1_zz, wp_al0 (y := zX6_alike) dX6_alike_0, wp_iconst (y := zX6_alike) (nI 0) ki_0 dX6_alike_1, wp_putf (y := zX6_alike) kF6_44 rfl dX6_alike_2, wp_al0 (y := zX6_alike) dX6_alike_5, wp_cv0 (y := zX6_alike) kM6_301 (by decide) dX6_alike_6, (show yo zX6_think = 6 from rfl), wp_iconst (y := zX6_alike) ((-1)) ki_m1 dX6_alike_9, wp_is1 (y := zX6_alike) dX6_alike_10, wp_iconst (y := zX6_alike) (nI 1) ki_1 dX6_alike_11, wp_is2 (y := zX6_alike) dX6_alike_12, O.oc, O.g0, O.g1, O.g2, O.g3, O.g4, O.g5, O.g6, O.g7, O.g9, O.g10, O.g11, O.p0, O.p7, O.a1, O.a2, O.a3, O.a4, O.a5, O.a6, O.a7, O.a8, O.a9, E2]
  refine loop 50 0 (mu (mu μ m (upd (μ m) 0 (nI 0))) (m + 2) (cpR ((mu μ m (upd (μ m) 0 (nI 0))) (m + 1)) ((mu μ m (upd (μ m) 0 (nI 0))) (m + 2)) 0 0 1786)) (by omega) R1 J g2 (RM.refl _ _) (fun w μ2 F h7 => ?_)
  have E3 : ∀ Q', cl sh zX6_endThought [.ref m] μ2 Q' = Q' none (mu μ2 (m + 1) (cpR (μ2 (m + 2)) (μ2 (m + 1)) 0 0 1786)) := fun Q' => m_endThought O
  simp (disch := first | omega | assumption) only [mm_op_some, true_and, and_true, mm_rc_some, mm_rc_none, pk_mul, nI_add, mm_in_t, nI_clamp, ok0, ok1, ok2, ok3, ok4, n1_0, n0_0, nI_le_, nI_lt_, if_true, if_false, not_true, not_false_eq_true, ce_lt, ce_cl, hf_lt, hf_cl, wp_al0 (y := zX6_alike) dX6_alike_47, wp_cv0 (y := zX6_alike) kM6_314 (by decide) dX6_alike_48, (show yo zX6_endThought = 6 from rfl), wp_il1 (y := zX6_alike) dX6_alike_51, wp_ireti (y := zX6_alike) rfl dX6_alike_52, O.oc, O.g0, O.g1, O.g2, O.g3, O.g4, O.g5, O.g6, O.g7, O.g9, O.g10, O.g11, O.p0, O.p7, O.a1, O.a2, O.a3, O.a4, O.a5, O.a6, O.a7, O.a8, O.a9, E3]
  exact fin _ F h7
theorem fo_fo1 (P : Nat → Bool) : ∀ (d i : Nat), fo (fd P d (i + 1)) = fo1 (fd (fun k => P (k + 1)) d i)
  | 0, _ => rfl
  | d + 1, i => by
    unfold fd
    by_cases h : P (i + 1) = true
    · rw [if_pos h, if_pos h]; rfl
    · rw [if_neg h, if_neg h]; exact fo_fo1 P d (i + 1)
theorem m_until (O : MoSh sh m) (R : RepM s μ m) (J : Inv s.1) (g0 : μ m 7 = nI 0) (n : Int32) : cl sh zX6_until [.ref m, .int n] μ (MT m μ (a_until s n, s)) := by
  have R0 := R.mu0 (nI 0)
  have g1 : (mu μ m (upd (μ m) 0 (nI 0))) m 7 = nI 0 := by rw [mu_s, upd_n _ _ (by omega)]; exact g0
  show wp sh zX6_until 0 [.ref m, .int n, .null, .null] [] μ _
  unfold a_until
  have E2 : ∀ Q', cl sh zX6_think [.ref m] (mu μ m (upd (μ m) 0 (nI 0))) Q' = Q' none (mu (mu μ m (upd (μ m) 0 (nI 0))) (m + 2) (cpR ((mu μ m (upd (μ m) 0 (nI 0))) (m + 1)) ((mu μ m (upd (μ m) 0 (nI 0))) (m + 2)) 0 0 1786)) := fun Q' => m_think O
  have R1 : RepM s (mu (mu μ m (upd (μ m) 0 (nI 0))) (m + 2) (cpR ((mu μ m (upd (μ m) 0 (nI 0))) (m + 1)) ((mu μ m (upd (μ m) 0 (nI 0))) (m + 2)) 0 0 1786)) m := th_of R0
  have g2 : (mu (mu μ m (upd (μ m) 0 (nI 0))) (m + 2) (cpR ((mu μ m (upd (μ m) 0 (nI 0))) (m + 1)) ((mu μ m (upd (μ m) 0 (nI 0))) (m + 2)) 0 0 1786)) m 7 = nI 0 := by rw [mu_n _ _ (by omega)]; exact g1
  have E1 : ∀ Q', cl sh zX6_many [.ref m, .int (nI 1)] (mu (mu μ m (upd (μ m) 0 (nI 0))) (m + 2) (cpR ((mu μ m (upd (μ m) 0 (nI 0))) (m + 1)) ((mu μ m (upd (μ m) 0 (nI 0))) (m + 2)) 0 0 1786)) Q' = Q' (some (.int (sC s.1 (fun _ => nI 1)))) (mu (mu μ m (upd (μ m) 0 (nI 0))) (m + 2) (cpR ((mu μ m (upd (μ m) 0 (nI 0))) (m + 1)) ((mu μ m (upd (μ m) 0 (nI 0))) (m + 2)) 0 0 1786)) := fun Q' => m_manyC O R1.1 J
  by_cases hp : fewP s n 0 = true
  · have ef : fd (fewP s n) 100 0 = some 0 := if_pos hp
    rw [ef]
    have fin : MT m μ (fo (some 0), s) (some (.int (nI 0))) (mu (mu (mu μ m (upd (μ m) 0 (nI 0))) (m + 2) (cpR ((mu μ m (upd (μ m) 0 (nI 0))) (m + 1)) ((mu μ m (upd (μ m) 0 (nI 0))) (m + 2)) 0 0 1786)) (m + 1) (cpR ((mu (mu μ m (upd (μ m) 0 (nI 0))) (m + 2) (cpR ((mu μ m (upd (μ m) 0 (nI 0))) (m + 1)) ((mu μ m (upd (μ m) 0 (nI 0))) (m + 2)) 0 0 1786)) (m + 2)) ((mu (mu μ m (upd (μ m) 0 (nI 0))) (m + 2) (cpR ((mu μ m (upd (μ m) 0 (nI 0))) (m + 1)) ((mu μ m (upd (μ m) 0 (nI 0))) (m + 2)) 0 0 1786)) (m + 1)) 0 0 1786)) := th_end (v := nI 0) R0 J g0 (RS.refl _ _) g2
    generalize MT m μ (fo (some 0), s) = QQ at fin ⊢
    have hz : (n < sC s.1 (fun _ => nI 1)) = False := i_nlt (of_decide_eq_true hp)
    have E3 : ∀ Q', cl sh zX6_endThought [.ref m] (mu (mu μ m (upd (μ m) 0 (nI 0))) (m + 2) (cpR ((mu μ m (upd (μ m) 0 (nI 0))) (m + 1)) ((mu μ m (upd (μ m) 0 (nI 0))) (m + 2)) 0 0 1786)) Q' = Q' none (mu (mu (mu μ m (upd (μ m) 0 (nI 0))) (m + 2) (cpR ((mu μ m (upd (μ m) 0 (nI 0))) (m + 1)) ((mu μ m (upd (μ m) 0 (nI 0))) (m + 2)) 0 0 1786)) (m + 1) (cpR ((mu (mu μ m (upd (μ m) 0 (nI 0))) (m + 2) (cpR ((mu μ m (upd (μ m) 0 (nI 0))) (m + 1)) ((mu μ m (upd (μ m) 0 (nI 0))) (m + 2)) 0 0 1786)) (m + 2)) ((mu (mu μ m (upd (μ m) 0 (nI 0))) (m + 2) (cpR ((mu μ m (upd (μ m) 0 (nI 0))) (m + 1)) ((mu μ m (upd (μ m) 0 (nI 0))) (m + 2)) 0 0 1786)) (m + 1)) 0 0 1786)) := fun Q' => m_endThought O
    have q1 : (99 < 1) = False := eq_false (by omega)
    have q2 : (nI 0 = (-1 : Int32)) = False := nI_m1 (by omega)
    simp (disch := first | omega | assumption) only [mm_op_some, true_and, and_true, mm_rc_some, mm_rc_none, pk_mul, nI_add, mm_in_t, nI_clamp, ok0, ok1, ok2, ok3, ok4, n1_0, n0_0, nI_le_, nI_lt_, if_true, if_false, not_true, not_false_eq_true, ce_lt, ce_cl, hf_lt, hf_cl, wp_al0 (y := zX6_until) dX6_until_0, wp_iconst (y := zX6_until) (nI 0) ki_0 dX6_until_1, wp_putf (y := zX6_until) kF6_44 rfl dX6_until_2, wp_al0 (y := zX6_until) dX6_until_5, wp_cv0 (y := zX6_until) kM6_301 (by decide) dX6_until_6, (show yo zX6_think = 6 from rfl), wp_al0 (y := zX6_until) dX6_until_9, wp_iconst (y := zX6_until) (nI 1) ki_1 dX6_until_10, wp_cv1 (y := zX6_until) kM6_317 (by decide) dX6_until_11, (show yo zX6_many = 6 from rfl), wp_il1 (y := zX6_until) dX6_until_14, wp_icmp_gt (y := zX6_until) 22 (by decide) dX6_until_15, wp_iconst (y := zX6_until) (nI 0) ki_0 dX6_until_18, wp_goto (y := zX6_until) 23 (by decide) dX6_until_19, wp_is2 (y := zX6_until) dX6_until_23, wp_iconst (y := zX6_until) (nI 1) ki_1 dX6_until_24, wp_is3 (y := zX6_until) dX6_until_25, wp_il3 (y := zX6_until) dX6_until_26, wp_bipush (y := zX6_until) (nI 99) kb_99 dX6_until_27, wp_icmp_gt (y := zX6_until) 62 (by decide) dX6_until_29, wp_il2 (y := zX6_until) dX6_until_32, wp_iconst (y := zX6_until) ((-1)) ki_m1 dX6_until_33, wp_icmp_ne (y := zX6_until) 62 (by decide) dX6_until_34, wp_al0 (y := zX6_until) dX6_until_62, wp_cv0 (y := zX6_until) kM6_314 (by decide) dX6_until_63, (show yo zX6_endThought = 6 from rfl), wp_il2 (y := zX6_until) dX6_until_66, wp_ireti (y := zX6_until) rfl dX6_until_67, O.oc, O.g0, O.g1, O.g2, O.g3, O.g4, O.g5, O.g6, O.g7, O.g9, O.g10, O.g11, O.p0, O.p7, O.a1, O.a2, O.a3, O.a4, O.a5, O.a6, O.a7, O.a8, O.a9, E1, E2, E3, hz, q1, q2]
    exact fin
  · have ef : fo (fd (fewP s n) 100 0) = fo1 (fd (fun k => fewP s n (k + 1)) 99 0) := by
      rw [show fd (fewP s n) 100 0 = fd (fewP s n) 99 (0 + 1) from if_neg hp]
      exact fo_fo1 _ 99 0
    rw [ef]
    have fin : ∀ μ2, RM (mu (mu μ m (upd (μ m) 0 (nI 0))) (m + 2) (cpR ((mu μ m (upd (μ m) 0 (nI 0))) (m + 1)) ((mu μ m (upd (μ m) 0 (nI 0))) (m + 2)) 0 0 1786)) μ2 m → μ2 m 7 = nI 0 → MT m μ (fo1 (fd (fun k => fewP s n (k + 1)) 99 0), s) (some (.int (fo1 (fd (fun k => fewP s n (k + 1)) 99 0)))) (mu μ2 (m + 1) (cpR (μ2 (m + 2)) (μ2 (m + 1)) 0 0 1786)) := fun μ2 F h7 => th_end R0 J g0 F.rs h7
    generalize MT m μ (fo1 (fd (fun k => fewP s n (k + 1)) 99 0), s) = QQ at fin ⊢
    have hz : (n < sC s.1 (fun _ => nI 1)) = True := i_lt (fun z => hp (decide_eq_true z))
    have loop : ∀ d i μ1, i + d = 99 → RepM (goK i s) μ1 m → Inv (goK i s).1 → μ1 m 7 = nI 0 → RM (mu (mu μ m (upd (μ m) 0 (nI 0))) (m + 2) (cpR ((mu μ m (upd (μ m) 0 (nI 0))) (m + 1)) ((mu μ m (upd (μ m) 0 (nI 0))) (m + 2)) 0 0 1786)) μ1 m → (∀ (w : Value) μ2, RM (mu (mu μ m (upd (μ m) 0 (nI 0))) (m + 2) (cpR ((mu μ m (upd (μ m) 0 (nI 0))) (m + 1)) ((mu μ m (upd (μ m) 0 (nI 0))) (m + 2)) 0 0 1786)) μ2 m → μ2 m 7 = nI 0 → wp sh zX6_until 62 [.ref m, .int n, .int (fo1 (fd (fun k => fewP s n (k + 1)) d i)), w] [] μ2 QQ) → wp sh zX6_until 26 [.ref m, .int n, .int (-1), .int (nI (i + 1))] [] μ1 QQ := by
      intro d
      induction d with
      | zero =>
        intro i μ1 hi R1 J1 h7 F1 K
        have e : i = 99 := by omega
        rw [e] at K ⊢
        have e9 : (99 < 99 + 1) = True := eq_true (by omega)
        rw [wp_il3 (y := zX6_until) dX6_until_26]
        simp (disch := first | omega | assumption) only [mm_op_some, true_and, and_true, mm_rc_some, mm_rc_none, pk_mul, nI_add, mm_in_t, nI_clamp, ok0, ok1, ok2, ok3, ok4, n1_0, n0_0, nI_le_, nI_lt_, if_true, if_false, not_true, not_false_eq_true, ce_lt, ce_cl, hf_lt, hf_cl, wp_bipush (y := zX6_until) (nI 99) kb_99 dX6_until_27, wp_icmp_gt (y := zX6_until) 62 (by decide) dX6_until_29, e9]
        exact K _ μ1 F1 h7
      | succ d ih =>
        intro i μ1 hi R1 J1 h7 F1 K
        have e9 : (99 < i + 1) = False := eq_false (by omega)
        have em : ((-1 : Int32) = -1) = True := eq_true rfl
        rw [wp_il3 (y := zX6_until) dX6_until_26]
        simp (disch := first | omega | assumption) only [mm_op_some, true_and, and_true, mm_rc_some, mm_rc_none, pk_mul, nI_add, mm_in_t, nI_clamp, ok0, ok1, ok2, ok3, ok4, n1_0, n0_0, nI_le_, nI_lt_, if_true, if_false, not_true, not_false_eq_true, ce_lt, ce_cl, hf_lt, hf_cl, wp_bipush (y := zX6_until) (nI 99) kb_99 dX6_until_27, wp_icmp_gt (y := zX6_until) 62 (by decide) dX6_until_29, wp_il2 (y := zX6_until) dX6_until_32, wp_iconst (y := zX6_until) ((-1)) ki_m1 dX6_until_33, wp_icmp_ne (y := zX6_until) 62 (by decide) dX6_until_34, wp_al0 (y := zX6_until) dX6_until_37, wp_cv0 (y := zX6_until) kM6_228 (by decide) dX6_until_38, (show yo zX6_step = 6 from rfl), O.oc, O.g0, O.g1, O.g2, O.g3, O.g4, O.g5, O.g6, O.g7, O.g9, O.g10, O.g11, O.p0, O.p7, O.a1, O.a2, O.a3, O.a4, O.a5, O.a6, O.a7, O.a8, O.a9, e9, em]
        refine cl_mono (m_step O R1 J1 h7) ?_
        rintro r μ2 ⟨rfl, ⟨R2, J2, h72⟩, F2⟩
        rw [← goK_s] at R2 J2
        by_cases hp : fewP s n (i + 1) = true
        · have ef : fd (fun k => fewP s n (k + 1)) (d + 1) i = some i := if_pos hp
          rw [ef] at K
          have E : ∀ Q', cl sh zX6_many [.ref m, .int (nI 1)] μ2 Q' = Q' (some (.int (sC (goK (i + 1) s).1 (fun _ => nI 1)))) μ2 := fun Q' => m_manyC O R2.1 J2
          have hz : (n < sC (goK (i + 1) s).1 (fun _ => nI 1)) = False := i_nlt (of_decide_eq_true hp)
          simp (disch := first | omega | assumption) only [mm_op_some, true_and, and_true, mm_rc_some, mm_rc_none, pk_mul, nI_add, mm_in_t, nI_clamp, ok0, ok1, ok2, ok3, ok4, n1_0, n0_0, nI_le_, nI_lt_, if_true, if_false, not_true, not_false_eq_true, ce_lt, ce_cl, hf_lt, hf_cl, wp_al0 (y := zX6_until) dX6_until_41, wp_iconst (y := zX6_until) (nI 1) ki_1 dX6_until_42, wp_cv1 (y := zX6_until) kM6_317 (by decide) dX6_until_43, (show yo zX6_many = 6 from rfl), wp_il1 (y := zX6_until) dX6_until_46, wp_icmp_gt (y := zX6_until) 54 (by decide) dX6_until_47, wp_il3 (y := zX6_until) dX6_until_50, wp_goto (y := zX6_until) 55 (by decide) dX6_until_51, wp_is2 (y := zX6_until) dX6_until_55, wp_inc3 (y := zX6_until) (nI 1) ki_1 dX6_until_56, wp_goto (y := zX6_until) 26 (by decide) dX6_until_59, O.oc, O.g0, O.g1, O.g2, O.g3, O.g4, O.g5, O.g6, O.g7, O.g9, O.g10, O.g11, O.p0, O.p7, O.a1, O.a2, O.a3, O.a4, O.a5, O.a6, O.a7, O.a8, O.a9, E, hz]
          have e1 : (nI (i + 1) = (-1 : Int32)) = False := nI_m1 (by omega)
          rw [wp_il3 (y := zX6_until) dX6_until_26]
          by_cases q : 99 < i + 1 + 1
          · have q' : (99 < i + 1 + 1) = True := eq_true q
            simp (disch := first | omega | assumption) only [mm_op_some, true_and, and_true, mm_rc_some, mm_rc_none, pk_mul, nI_add, mm_in_t, nI_clamp, ok0, ok1, ok2, ok3, ok4, n1_0, n0_0, nI_le_, nI_lt_, if_true, if_false, not_true, not_false_eq_true, ce_lt, ce_cl, hf_lt, hf_cl, wp_bipush (y := zX6_until) (nI 99) kb_99 dX6_until_27, wp_icmp_gt (y := zX6_until) 62 (by decide) dX6_until_29, q']
            exact K _ μ2 (F1.trans F2) h72
          · have q' : (99 < i + 1 + 1) = False := eq_false q
            simp (disch := first | omega | assumption) only [mm_op_some, true_and, and_true, mm_rc_some, mm_rc_none, pk_mul, nI_add, mm_in_t, nI_clamp, ok0, ok1, ok2, ok3, ok4, n1_0, n0_0, nI_le_, nI_lt_, if_true, if_false, not_true, not_false_eq_true, ce_lt, ce_cl, hf_lt, hf_cl, wp_bipush (y := zX6_until) (nI 99) kb_99 dX6_until_27, wp_icmp_gt (y := zX6_until) 62 (by decide) dX6_until_29, wp_il2 (y := zX6_until) dX6_until_32, wp_iconst (y := zX6_until) ((-1)) ki_m1 dX6_until_33, wp_icmp_ne (y := zX6_until) 62 (by decide) dX6_until_34, q', e1]
            exact K _ μ2 (F1.trans F2) h72
        · have ef : fd (fun k => fewP s n (k + 1)) (d + 1) i = fd (fun k => fewP s n (k + 1)) d (i + 1) := if_neg hp
          rw [ef] at K
          have E : ∀ Q', cl sh zX6_many [.ref m, .int (nI 1)] μ2 Q' = Q' (some (.int (sC (goK (i + 1) s).1 (fun _ => nI 1)))) μ2 := fun Q' => m_manyC O R2.1 J2
          have hz : (n < sC (goK (i + 1) s).1 (fun _ => nI 1)) = True := i_lt (fun z => hp (decide_eq_true z))
          simp (disch := first | omega | assumption) only [mm_op_some, true_and, and_true, mm_rc_some, mm_rc_none, pk_mul, nI_add, mm_in_t, nI_clamp, ok0, ok1, ok2, ok3, ok4, n1_0, n0_0, nI_le_, nI_lt_, if_true, if_false, not_true, not_false_eq_true, ce_lt, ce_cl, hf_lt, hf_cl, wp_al0 (y := zX6_until) dX6_until_41, wp_iconst (y := zX6_until) (nI 1) ki_1 dX6_until_42, wp_cv1 (y := zX6_until) kM6_317 (by decide) dX6_until_43, (show yo zX6_many = 6 from rfl), wp_il1 (y := zX6_until) dX6_until_46, wp_icmp_gt (y := zX6_until) 54 (by decide) dX6_until_47, wp_iconst (y := zX6_until) ((-1)) ki_m1 dX6_until_54, wp_is2 (y := zX6_until) dX6_until_55, wp_inc3 (y := zX6_until) (nI 1) ki_1 dX6_until_56, wp_goto (y := zX6_until) 26 (by decide) dX6_until_59, O.oc, O.g0, O.g1, O.g2, O.g3, O.g4, O.g5, O.g6, O.g7, O.g9, O.g10, O.g11, O.p0, O.p7, O.a1, O.a2, O.a3, O.a4, O.a5, O.a6, O.a7, O.a8, O.a9, E, hz]
          exact ih (i + 1) μ2 (by omega) R2 J2 h72 (F1.trans F2) K
    simp (disch := first | omega | assumption) only [mm_op_some, true_and, and_true, mm_rc_some, mm_rc_none, pk_mul, nI_add, mm_in_t, nI_clamp, ok0, ok1, ok2, ok3, ok4, n1_0, n0_0, nI_le_, nI_lt_, if_true, if_false, not_true, not_false_eq_true, ce_lt, ce_cl, hf_lt, hf_cl, wp_al0 (y := zX6_until) dX6_until_0, wp_iconst (y := zX6_until) (nI 0) ki_0 dX6_until_1, wp_putf (y := zX6_until) kF6_44 rfl dX6_until_2, wp_al0 (y := zX6_until) dX6_until_5, wp_cv0 (y := zX6_until) kM6_301 (by decide) dX6_until_6, (show yo zX6_think = 6 from rfl), wp_al0 (y := zX6_until) dX6_until_9, wp_iconst (y := zX6_until) (nI 1) ki_1 dX6_until_10, wp_cv1 (y := zX6_until) kM6_317 (by decide) dX6_until_11, (show yo zX6_many = 6 from rfl), wp_il1 (y := zX6_until) dX6_until_14, wp_icmp_gt (y := zX6_until) 22 (by decide) dX6_until_15, wp_iconst (y := zX6_until) ((-1)) ki_m1 dX6_until_22, wp_is2 (y := zX6_until) dX6_until_23, wp_iconst (y := zX6_until) (nI 1) ki_1 dX6_until_24, wp_is3 (y := zX6_until) dX6_until_25, O.oc, O.g0, O.g1, O.g2, O.g3, O.g4, O.g5, O.g6, O.g7, O.g9, O.g10, O.g11, O.p0, O.p7, O.a1, O.a2, O.a3, O.a4, O.a5, O.a6, O.a7, O.a8, O.a9, E1, E2, hz]
    refine loop 99 0 (mu (mu μ m (upd (μ m) 0 (nI 0))) (m + 2) (cpR ((mu μ m (upd (μ m) 0 (nI 0))) (m + 1)) ((mu μ m (upd (μ m) 0 (nI 0))) (m + 2)) 0 0 1786)) (by omega) R1 J g2 (RM.refl _ _) (fun w μ2 F h7 => ?_)
    have E3 : ∀ Q', cl sh zX6_endThought [.ref m] μ2 Q' = Q' none (mu μ2 (m + 1) (cpR (μ2 (m + 2)) (μ2 (m + 1)) 0 0 1786)) := fun Q' => m_endThought O
    simp (disch := first | omega | assumption) only [mm_op_some, true_and, and_true, mm_rc_some, mm_rc_none, pk_mul, nI_add, mm_in_t, nI_clamp, ok0, ok1, ok2, ok3, ok4, n1_0, n0_0, nI_le_, nI_lt_, if_true, if_false, not_true, not_false_eq_true, ce_lt, ce_cl, hf_lt, hf_cl, wp_al0 (y := zX6_until) dX6_until_62, wp_cv0 (y := zX6_until) kM6_314 (by decide) dX6_until_63, (show yo zX6_endThought = 6 from rfl), wp_il2 (y := zX6_until) dX6_until_66, wp_ireti (y := zX6_until) rfl dX6_until_67, O.oc, O.g0, O.g1, O.g2, O.g3, O.g4, O.g5, O.g6, O.g7, O.g9, O.g10, O.g11, O.p0, O.p7, O.a1, O.a2, O.a3, O.a4, O.a5, O.a6, O.a7, O.a8, O.a9, E3]
    exact fin _ F h7
theorem m_first (O : MoSh sh m) (R : RepM s μ m) (J : Inv s.1) (g0 : μ m 7 = nI 0) (what : Int32) : cl sh zX6_first [.ref m, .int what] μ (MT m μ (a_first s what, s)) := by
  have R0 := R.mu0 (nI 0)
  have g1 : (mu μ m (upd (μ m) 0 (nI 0))) m 7 = nI 0 := by rw [mu_s, upd_n _ _ (by omega)]; exact g0
  show wp sh zX6_first 0 [.ref m, .int what, .null, .null, .null] [] μ _
  unfold a_first
  have E2 : ∀ Q', cl sh zX6_think [.ref m] (mu μ m (upd (μ m) 0 (nI 0))) Q' = Q' none (mu (mu μ m (upd (μ m) 0 (nI 0))) (m + 2) (cpR ((mu μ m (upd (μ m) 0 (nI 0))) (m + 1)) ((mu μ m (upd (μ m) 0 (nI 0))) (m + 2)) 0 0 1786)) := fun Q' => m_think O
  by_cases h : what < 0 ∨ nI 1 < what
  · have E1 : mm_isin what.toInt64 0 1 = nI 0 := isin_o (a := 0) (b := nI 1) rfl rfl h
    rw [if_pos h]
    have fin : MT m μ ((-1 : Int32), s) (some (.int (-1))) (mu μ m (upd (μ m) 0 (nI 0))) := mt_ro g0 rfl (RO.refl _ _) rfl R0 J
    generalize MT m μ ((-1 : Int32), s) = QQ at fin ⊢
    simp (disch := first | omega | assumption) only [mm_op_some, true_and, and_true, mm_rc_some, mm_rc_none, pk_mul, nI_add, mm_in_t, nI_clamp, ok0, ok1, ok2, ok3, ok4, n1_0, n0_0, nI_le_, nI_lt_, if_true, if_false, not_true, not_false_eq_true, ce_lt, ce_cl, hf_lt, hf_cl, n0_zz, wp_al0 (y := zX6_first) dX6_first_0, wp_iconst (y := zX6_first) (nI 0) ki_0 dX6_first_1, wp_putf (y := zX6_first) kF6_44 rfl dX6_first_2, wp_il1 (y := zX6_first) dX6_first_5, wp_i2l (y := zX6_first) dX6_first_6, wp_lconst (y := zX6_first) (0) kl_0 dX6_first_7, wp_lconst (y := zX6_first) (1) kl_1 dX6_first_8, wp_in (y := zX6_first) rfl kP6_48 (by decide) dX6_first_9, wp_if_ne (y := zX6_first) 17 (by decide) dX6_first_12, wp_iconst (y := zX6_first) ((-1)) ki_m1 dX6_first_15, wp_ireti (y := zX6_first) rfl dX6_first_16, O.oc, O.g0, O.g1, O.g2, O.g3, O.g4, O.g5, O.g6, O.g7, O.g9, O.g10, O.g11, O.p0, O.p7, O.a1, O.a2, O.a3, O.a4, O.a5, O.a6, O.a7, O.a8, O.a9, E1]
    exact fin
  · have E1 : mm_isin what.toInt64 0 1 = nI 1 := isin_i (a := 0) (b := nI 1) rfl rfl h
    rw [if_neg h]
    have fin : ∀ μ2, RM (mu (mu μ m (upd (μ m) 0 (nI 0))) (m + 2) (cpR ((mu μ m (upd (μ m) 0 (nI 0))) (m + 1)) ((mu μ m (upd (μ m) 0 (nI 0))) (m + 2)) 0 0 1786)) μ2 m → μ2 m 7 = nI 0 → MT m μ (fo1 (fd (firstP s what) 50 0), s) (some (.int (fo1 (fd (firstP s what) 50 0)))) (mu μ2 (m + 1) (cpR (μ2 (m + 2)) (μ2 (m + 1)) 0 0 1786)) := fun μ2 F h7 => th_end R0 J g0 F.rs h7
    generalize MT m μ (fo1 (fd (firstP s what) 50 0), s) = QQ at fin ⊢
    have R1 : RepM s (mu (mu μ m (upd (μ m) 0 (nI 0))) (m + 2) (cpR ((mu μ m (upd (μ m) 0 (nI 0))) (m + 1)) ((mu μ m (upd (μ m) 0 (nI 0))) (m + 2)) 0 0 1786)) m := th_of R0
    have g2 : (mu (mu μ m (upd (μ m) 0 (nI 0))) (m + 2) (cpR ((mu μ m (upd (μ m) 0 (nI 0))) (m + 1)) ((mu μ m (upd (μ m) 0 (nI 0))) (m + 2)) 0 0 1786)) m 7 = nI 0 := by rw [mu_n _ _ (by omega)]; exact g1
    by_cases hw : what = 0
    · have hw' : (what = 0) = True := eq_true hw
      have FP1 : ∀ {i}, firstP s what i = true → s.2.2.2 7 < (goK (i + 1) s).2.2.2 7 := fun {i} z => by
        unfold firstP at z
        rw [if_pos hw] at z
        exact of_decide_eq_true z
      have FP2 : ∀ {i}, ¬ firstP s what i = true → ¬ s.2.2.2 7 < (goK (i + 1) s).2.2.2 7 := fun {i} z y => z (by
        unfold firstP
        rw [if_pos hw]
        exact decide_eq_true y)
      have ik : (mm_in (nI 4) 1786 = true) = True := mm_in_t (by decide) (by decide)
      have ck : (nI 4).toNatClampNeg = 4 := rfl
      have asd : (mu (mu μ m (upd (μ m) 0 (nI 0))) (m + 2) (cpR ((mu μ m (upd (μ m) 0 (nI 0))) (m + 1)) ((mu μ m (upd (μ m) 0 (nI 0))) (m + 2)) 0 0 1786)) (m + 2) 4 = s.2.2.2 7 := by
        rw [mu_s]
        unfold cpR
        rw [if_pos (by omega)]
        exact R0.2.2.2.2.2.1
      have loop : ∀ d i μ1, i + d = 50 → RepM (goK i s) μ1 m → Inv (goK i s).1 → μ1 m 7 = nI 0 → RM (mu (mu μ m (upd (μ m) 0 (nI 0))) (m + 2) (cpR ((mu μ m (upd (μ m) 0 (nI 0))) (m + 1)) ((mu μ m (upd (μ m) 0 (nI 0))) (m + 2)) 0 0 1786)) μ1 m → (∀ (w : Value) μ2, RM (mu (mu μ m (upd (μ m) 0 (nI 0))) (m + 2) (cpR ((mu μ m (upd (μ m) 0 (nI 0))) (m + 1)) ((mu μ m (upd (μ m) 0 (nI 0))) (m + 2)) 0 0 1786)) μ2 m → μ2 m 7 = nI 0 → wp sh zX6_first 80 [.ref m, .int what, .int (nI 4), .int (fo1 (fd (firstP s what) d i)), w] [] μ2 QQ) → wp sh zX6_first 36 [.ref m, .int what, .int (nI 4), .int (-1), .int (nI (i + 1))] [] μ1 QQ := by
        intro d
        induction d with
        | zero =>
          intro i μ1 hi R1 J1 h7 F1 K
          have e : i = 50 := by omega
          rw [e] at K ⊢
          have e9 : (50 < 50 + 1) = True := eq_true (by omega)
          rw [wp_il4 (y := zX6_first) dX6_first_36]
          simp (disch := first | omega | assumption) only [mm_op_some, true_and, and_true, mm_rc_some, mm_rc_none, pk_mul, nI_add, mm_in_t, nI_clamp, ok0, ok1, ok2, ok3, ok4, n1_0, n0_0, nI_le_, nI_lt_, if_true, if_false, not_true, not_false_eq_true, ce_lt, ce_cl, hf_lt, hf_cl, wp_bipush (y := zX6_first) (nI 50) kb_50 dX6_first_38, wp_icmp_gt (y := zX6_first) 80 (by decide) dX6_first_40, e9]
          exact K _ μ1 F1 h7
        | succ d ih =>
          intro i μ1 hi R1 J1 h7 F1 K
          have e9 : (50 < i + 1) = False := eq_false (by omega)
          have em : ((-1 : Int32) = -1) = True := eq_true rfl
          rw [wp_il4 (y := zX6_first) dX6_first_36]
          simp (disch := first | omega | assumption) only [mm_op_some, true_and, and_true, mm_rc_some, mm_rc_none, pk_mul, nI_add, mm_in_t, nI_clamp, ok0, ok1, ok2, ok3, ok4, n1_0, n0_0, nI_le_, nI_lt_, if_true, if_false, not_true, not_false_eq_true, ce_lt, ce_cl, hf_lt, hf_cl, wp_bipush (y := zX6_first) (nI 50) kb_50 dX6_first_38, wp_icmp_gt (y := zX6_first) 80 (by decide) dX6_first_40, wp_il3 (y := zX6_first) dX6_first_43, wp_iconst (y := zX6_first) ((-1)) ki_m1 dX6_first_44, wp_icmp_ne (y := zX6_first) 80 (by decide) dX6_first_45, wp_al0 (y := zX6_first) dX6_first_48, wp_cv0 (y := zX6_first) kM6_228 (by decide) dX6_first_49, (show yo zX6_step = 6 from rfl), O.oc, O.g0, O.g1, O.g2, O.g3, O.g4, O.g5, O.g6, O.g7, O.g9, O.g10, O.g11, O.p0, O.p7, O.a1, O.a2, O.a3, O.a4, O.a5, O.a6, O.a7, O.a8, O.a9, e9, em]
          refine cl_mono (m_step O R1 J1 h7) ?_
          rintro r μ2 ⟨rfl, ⟨R2, J2, h72⟩, F2⟩
          rw [← goK_s] at R2 J2
          by_cases hp : firstP s what i = true
          · have ef : fd (firstP s what) (d + 1) i = some i := if_pos hp
            rw [ef] at K
            have a1 : μ2 (m + 1) 4 = (goK (i + 1) s).2.2.2 7 := R2.2.2.2.2.2.1
            have a2 : μ2 (m + 2) 4 = s.2.2.2 7 := by rw [(F1.trans F2).1 (m + 2) (by omega) (by omega)]; exact asd
            have hz : ((goK (i + 1) s).2.2.2 7 ≤ s.2.2.2 7) = False := i_nle (FP1 hp)
            simp (disch := first | omega | assumption) only [mm_op_some, true_and, and_true, mm_rc_some, mm_rc_none, pk_mul, nI_add, mm_in_t, nI_clamp, ok0, ok1, ok2, ok3, ok4, n1_0, n0_0, nI_le_, nI_lt_, if_true, if_false, not_true, not_false_eq_true, ce_lt, ce_cl, hf_lt, hf_cl, wp_al0 (y := zX6_first) dX6_first_52, wp_getf (y := zX6_first) kF6_9 dX6_first_53, wp_il2 (y := zX6_first) dX6_first_56, wp_iald (y := zX6_first) dX6_first_57, wp_al0 (y := zX6_first) dX6_first_58, wp_getf (y := zX6_first) kF6_15 dX6_first_59, wp_il2 (y := zX6_first) dX6_first_62, wp_iald (y := zX6_first) dX6_first_63, wp_icmp_le (y := zX6_first) 72 (by decide) dX6_first_64, wp_il4 (y := zX6_first) dX6_first_67, wp_goto (y := zX6_first) 73 (by decide) dX6_first_69, wp_is3 (y := zX6_first) dX6_first_73, wp_inc4 (y := zX6_first) (nI 1) ki_1 dX6_first_74, wp_goto (y := zX6_first) 36 (by decide) dX6_first_77, O.oc, O.g0, O.g1, O.g2, O.g3, O.g4, O.g5, O.g6, O.g7, O.g9, O.g10, O.g11, O.p0, O.p7, O.a1, O.a2, O.a3, O.a4, O.a5, O.a6, O.a7, O.a8, O.a9, a1, a2, ik, ck, hz]
            have e1 : (nI (i + 1) = (-1 : Int32)) = False := nI_m1 (by omega)
            rw [wp_il4 (y := zX6_first) dX6_first_36]
            by_cases q : 50 < i + 1 + 1
            · have q' : (50 < i + 1 + 1) = True := eq_true q
              simp (disch := first | omega | assumption) only [mm_op_some, true_and, and_true, mm_rc_some, mm_rc_none, pk_mul, nI_add, mm_in_t, nI_clamp, ok0, ok1, ok2, ok3, ok4, n1_0, n0_0, nI_le_, nI_lt_, if_true, if_false, not_true, not_false_eq_true, ce_lt, ce_cl, hf_lt, hf_cl, wp_bipush (y := zX6_first) (nI 50) kb_50 dX6_first_38, wp_icmp_gt (y := zX6_first) 80 (by decide) dX6_first_40, q']
              exact K _ μ2 (F1.trans F2) h72
            · have q' : (50 < i + 1 + 1) = False := eq_false q
              simp (disch := first | omega | assumption) only [mm_op_some, true_and, and_true, mm_rc_some, mm_rc_none, pk_mul, nI_add, mm_in_t, nI_clamp, ok0, ok1, ok2, ok3, ok4, n1_0, n0_0, nI_le_, nI_lt_, if_true, if_false, not_true, not_false_eq_true, ce_lt, ce_cl, hf_lt, hf_cl, wp_bipush (y := zX6_first) (nI 50) kb_50 dX6_first_38, wp_icmp_gt (y := zX6_first) 80 (by decide) dX6_first_40, wp_il3 (y := zX6_first) dX6_first_43, wp_iconst (y := zX6_first) ((-1)) ki_m1 dX6_first_44, wp_icmp_ne (y := zX6_first) 80 (by decide) dX6_first_45, q', e1]
              exact K _ μ2 (F1.trans F2) h72
          · have ef : fd (firstP s what) (d + 1) i = fd (firstP s what) d (i + 1) := if_neg hp
            rw [ef] at K
            have a1 : μ2 (m + 1) 4 = (goK (i + 1) s).2.2.2 7 := R2.2.2.2.2.2.1
            have a2 : μ2 (m + 2) 4 = s.2.2.2 7 := by rw [(F1.trans F2).1 (m + 2) (by omega) (by omega)]; exact asd
            have hz : ((goK (i + 1) s).2.2.2 7 ≤ s.2.2.2 7) = True := i_le (FP2 hp)
            simp (disch := first | omega | assumption) only [mm_op_some, true_and, and_true, mm_rc_some, mm_rc_none, pk_mul, nI_add, mm_in_t, nI_clamp, ok0, ok1, ok2, ok3, ok4, n1_0, n0_0, nI_le_, nI_lt_, if_true, if_false, not_true, not_false_eq_true, ce_lt, ce_cl, hf_lt, hf_cl, wp_al0 (y := zX6_first) dX6_first_52, wp_getf (y := zX6_first) kF6_9 dX6_first_53, wp_il2 (y := zX6_first) dX6_first_56, wp_iald (y := zX6_first) dX6_first_57, wp_al0 (y := zX6_first) dX6_first_58, wp_getf (y := zX6_first) kF6_15 dX6_first_59, wp_il2 (y := zX6_first) dX6_first_62, wp_iald (y := zX6_first) dX6_first_63, wp_icmp_le (y := zX6_first) 72 (by decide) dX6_first_64, wp_iconst (y := zX6_first) ((-1)) ki_m1 dX6_first_72, wp_is3 (y := zX6_first) dX6_first_73, wp_inc4 (y := zX6_first) (nI 1) ki_1 dX6_first_74, wp_goto (y := zX6_first) 36 (by decide) dX6_first_77, O.oc, O.g0, O.g1, O.g2, O.g3, O.g4, O.g5, O.g6, O.g7, O.g9, O.g10, O.g11, O.p0, O.p7, O.a1, O.a2, O.a3, O.a4, O.a5, O.a6, O.a7, O.a8, O.a9, a1, a2, ik, ck, hz]
            exact ih (i + 1) μ2 (by omega) R2 J2 h72 (F1.trans F2) K
      simp (disch := first | omega | assumption) only [mm_op_some, true_and, and_true, mm_rc_some, mm_rc_none, pk_mul, nI_add, mm_in_t, nI_clamp, ok0, ok1, ok2, ok3, ok4, n1_0, n0_0, nI_le_, nI_lt_, if_true, if_false, not_true, not_false_eq_true, ce_lt, ce_cl, hf_lt, hf_cl, n0_zz, n1_zz, wp_al0 (y := zX6_first) dX6_first_0, wp_iconst (y := zX6_first) (nI 0) ki_0 dX6_first_1, wp_putf (y := zX6_first) kF6_44 rfl dX6_first_2, wp_il1 (y := zX6_first) dX6_first_5, wp_i2l (y := zX6_first) dX6_first_6, wp_lconst (y := zX6_first) (0) kl_0 dX6_first_7, wp_lconst (y := zX6_first) (1) kl_1 dX6_first_8, wp_in (y := zX6_first) rfl kP6_48 (by decide) dX6_first_9, wp_if_ne (y := zX6_first) 17 (by decide) dX6_first_12, wp_al0 (y := zX6_first) dX6_first_17, wp_cv0 (y := zX6_first) kM6_301 (by decide) dX6_first_18, (show yo zX6_think = 6 from rfl), wp_il1 (y := zX6_first) dX6_first_21, wp_if_ne (y := zX6_first) 29 (by decide) dX6_first_22, wp_iconst (y := zX6_first) (nI 4) ki_4 dX6_first_25, wp_goto (y := zX6_first) 30 (by decide) dX6_first_26, wp_is2 (y := zX6_first) dX6_first_30, wp_iconst (y := zX6_first) ((-1)) ki_m1 dX6_first_31, wp_is3 (y := zX6_first) dX6_first_32, wp_iconst (y := zX6_first) (nI 1) ki_1 dX6_first_33, wp_is4 (y := zX6_first) dX6_first_34, O.oc, O.g0, O.g1, O.g2, O.g3, O.g4, O.g5, O.g6, O.g7, O.g9, O.g10, O.g11, O.p0, O.p7, O.a1, O.a2, O.a3, O.a4, O.a5, O.a6, O.a7, O.a8, O.a9, E1, E2, hw']
      refine loop 50 0 (mu (mu μ m (upd (μ m) 0 (nI 0))) (m + 2) (cpR ((mu μ m (upd (μ m) 0 (nI 0))) (m + 1)) ((mu μ m (upd (μ m) 0 (nI 0))) (m + 2)) 0 0 1786)) (by omega) R1 J g2 (RM.refl _ _) (fun w μ2 F h7 => ?_)
      have E3 : ∀ Q', cl sh zX6_endThought [.ref m] μ2 Q' = Q' none (mu μ2 (m + 1) (cpR (μ2 (m + 2)) (μ2 (m + 1)) 0 0 1786)) := fun Q' => m_endThought O
      simp (disch := first | omega | assumption) only [mm_op_some, true_and, and_true, mm_rc_some, mm_rc_none, pk_mul, nI_add, mm_in_t, nI_clamp, ok0, ok1, ok2, ok3, ok4, n1_0, n0_0, nI_le_, nI_lt_, if_true, if_false, not_true, not_false_eq_true, ce_lt, ce_cl, hf_lt, hf_cl, wp_al0 (y := zX6_first) dX6_first_80, wp_cv0 (y := zX6_first) kM6_314 (by decide) dX6_first_81, (show yo zX6_endThought = 6 from rfl), wp_il3 (y := zX6_first) dX6_first_84, wp_ireti (y := zX6_first) rfl dX6_first_85, O.oc, O.g0, O.g1, O.g2, O.g3, O.g4, O.g5, O.g6, O.g7, O.g9, O.g10, O.g11, O.p0, O.p7, O.a1, O.a2, O.a3, O.a4, O.a5, O.a6, O.a7, O.a8, O.a9, E3]
      exact fin _ F h7
    · have hw' : (what = 0) = False := eq_false hw
      have FP1 : ∀ {i}, firstP s what i = true → s.2.2.2 8 < (goK (i + 1) s).2.2.2 8 := fun {i} z => by
        unfold firstP at z
        rw [if_neg hw] at z
        exact of_decide_eq_true z
      have FP2 : ∀ {i}, ¬ firstP s what i = true → ¬ s.2.2.2 8 < (goK (i + 1) s).2.2.2 8 := fun {i} z y => z (by
        unfold firstP
        rw [if_neg hw]
        exact decide_eq_true y)
      have ik : (mm_in (nI 5) 1786 = true) = True := mm_in_t (by decide) (by decide)
      have ck : (nI 5).toNatClampNeg = 5 := rfl
      have asd : (mu (mu μ m (upd (μ m) 0 (nI 0))) (m + 2) (cpR ((mu μ m (upd (μ m) 0 (nI 0))) (m + 1)) ((mu μ m (upd (μ m) 0 (nI 0))) (m + 2)) 0 0 1786)) (m + 2) 5 = s.2.2.2 8 := by
        rw [mu_s]
        unfold cpR
        rw [if_pos (by omega)]
        exact R0.2.2.2.2.2.2.1
      have loop : ∀ d i μ1, i + d = 50 → RepM (goK i s) μ1 m → Inv (goK i s).1 → μ1 m 7 = nI 0 → RM (mu (mu μ m (upd (μ m) 0 (nI 0))) (m + 2) (cpR ((mu μ m (upd (μ m) 0 (nI 0))) (m + 1)) ((mu μ m (upd (μ m) 0 (nI 0))) (m + 2)) 0 0 1786)) μ1 m → (∀ (w : Value) μ2, RM (mu (mu μ m (upd (μ m) 0 (nI 0))) (m + 2) (cpR ((mu μ m (upd (μ m) 0 (nI 0))) (m + 1)) ((mu μ m (upd (μ m) 0 (nI 0))) (m + 2)) 0 0 1786)) μ2 m → μ2 m 7 = nI 0 → wp sh zX6_first 80 [.ref m, .int what, .int (nI 5), .int (fo1 (fd (firstP s what) d i)), w] [] μ2 QQ) → wp sh zX6_first 36 [.ref m, .int what, .int (nI 5), .int (-1), .int (nI (i + 1))] [] μ1 QQ := by
        intro d
        induction d with
        | zero =>
          intro i μ1 hi R1 J1 h7 F1 K
          have e : i = 50 := by omega
          rw [e] at K ⊢
          have e9 : (50 < 50 + 1) = True := eq_true (by omega)
          rw [wp_il4 (y := zX6_first) dX6_first_36]
          simp (disch := first | omega | assumption) only [mm_op_some, true_and, and_true, mm_rc_some, mm_rc_none, pk_mul, nI_add, mm_in_t, nI_clamp, ok0, ok1, ok2, ok3, ok4, n1_0, n0_0, nI_le_, nI_lt_, if_true, if_false, not_true, not_false_eq_true, ce_lt, ce_cl, hf_lt, hf_cl, wp_bipush (y := zX6_first) (nI 50) kb_50 dX6_first_38, wp_icmp_gt (y := zX6_first) 80 (by decide) dX6_first_40, e9]
          exact K _ μ1 F1 h7
        | succ d ih =>
          intro i μ1 hi R1 J1 h7 F1 K
          have e9 : (50 < i + 1) = False := eq_false (by omega)
          have em : ((-1 : Int32) = -1) = True := eq_true rfl
          rw [wp_il4 (y := zX6_first) dX6_first_36]
          simp (disch := first | omega | assumption) only [mm_op_some, true_and, and_true, mm_rc_some, mm_rc_none, pk_mul, nI_add, mm_in_t, nI_clamp, ok0, ok1, ok2, ok3, ok4, n1_0, n0_0, nI_le_, nI_lt_, if_true, if_false, not_true, not_false_eq_true, ce_lt, ce_cl, hf_lt, hf_cl, wp_bipush (y := zX6_first) (nI 50) kb_50 dX6_first_38, wp_icmp_gt (y := zX6_first) 80 (by decide) dX6_first_40, wp_il3 (y := zX6_first) dX6_first_43, wp_iconst (y := zX6_first) ((-1)) ki_m1 dX6_first_44, wp_icmp_ne (y := zX6_first) 80 (by decide) dX6_first_45, wp_al0 (y := zX6_first) dX6_first_48, wp_cv0 (y := zX6_first) kM6_228 (by decide) dX6_first_49, (show yo zX6_step = 6 from rfl), O.oc, O.g0, O.g1, O.g2, O.g3, O.g4, O.g5, O.g6, O.g7, O.g9, O.g10, O.g11, O.p0, O.p7, O.a1, O.a2, O.a3, O.a4, O.a5, O.a6, O.a7, O.a8, O.a9, e9, em]
          refine cl_mono (m_step O R1 J1 h7) ?_
          rintro r μ2 ⟨rfl, ⟨R2, J2, h72⟩, F2⟩
          rw [← goK_s] at R2 J2
          by_cases hp : firstP s what i = true
          · have ef : fd (firstP s what) (d + 1) i = some i := if_pos hp
            rw [ef] at K
            have a1 : μ2 (m + 1) 5 = (goK (i + 1) s).2.2.2 8 := R2.2.2.2.2.2.2.1
            have a2 : μ2 (m + 2) 5 = s.2.2.2 8 := by rw [(F1.trans F2).1 (m + 2) (by omega) (by omega)]; exact asd
            have hz : ((goK (i + 1) s).2.2.2 8 ≤ s.2.2.2 8) = False := i_nle (FP1 hp)
            simp (disch := first | omega | assumption) only [mm_op_some, true_and, and_true, mm_rc_some, mm_rc_none, pk_mul, nI_add, mm_in_t, nI_clamp, ok0, ok1, ok2, ok3, ok4, n1_0, n0_0, nI_le_, nI_lt_, if_true, if_false, not_true, not_false_eq_true, ce_lt, ce_cl, hf_lt, hf_cl, wp_al0 (y := zX6_first) dX6_first_52, wp_getf (y := zX6_first) kF6_9 dX6_first_53, wp_il2 (y := zX6_first) dX6_first_56, wp_iald (y := zX6_first) dX6_first_57, wp_al0 (y := zX6_first) dX6_first_58, wp_getf (y := zX6_first) kF6_15 dX6_first_59, wp_il2 (y := zX6_first) dX6_first_62, wp_iald (y := zX6_first) dX6_first_63, wp_icmp_le (y := zX6_first) 72 (by decide) dX6_first_64, wp_il4 (y := zX6_first) dX6_first_67, wp_goto (y := zX6_first) 73 (by decide) dX6_first_69, wp_is3 (y := zX6_first) dX6_first_73, wp_inc4 (y := zX6_first) (nI 1) ki_1 dX6_first_74, wp_goto (y := zX6_first) 36 (by decide) dX6_first_77, O.oc, O.g0, O.g1, O.g2, O.g3, O.g4, O.g5, O.g6, O.g7, O.g9, O.g10, O.g11, O.p0, O.p7, O.a1, O.a2, O.a3, O.a4, O.a5, O.a6, O.a7, O.a8, O.a9, a1, a2, ik, ck, hz]
            have e1 : (nI (i + 1) = (-1 : Int32)) = False := nI_m1 (by omega)
            rw [wp_il4 (y := zX6_first) dX6_first_36]
            by_cases q : 50 < i + 1 + 1
            · have q' : (50 < i + 1 + 1) = True := eq_true q
              simp (disch := first | omega | assumption) only [mm_op_some, true_and, and_true, mm_rc_some, mm_rc_none, pk_mul, nI_add, mm_in_t, nI_clamp, ok0, ok1, ok2, ok3, ok4, n1_0, n0_0, nI_le_, nI_lt_, if_true, if_false, not_true, not_false_eq_true, ce_lt, ce_cl, hf_lt, hf_cl, wp_bipush (y := zX6_first) (nI 50) kb_50 dX6_first_38, wp_icmp_gt (y := zX6_first) 80 (by decide) dX6_first_40, q']
              exact K _ μ2 (F1.trans F2) h72
            · have q' : (50 < i + 1 + 1) = False := eq_false q
              simp (disch := first | omega | assumption) only [mm_op_some, true_and, and_true, mm_rc_some, mm_rc_none, pk_mul, nI_add, mm_in_t, nI_clamp, ok0, ok1, ok2, ok3, ok4, n1_0, n0_0, nI_le_, nI_lt_, if_true, if_false, not_true, not_false_eq_true, ce_lt, ce_cl, hf_lt, hf_cl, wp_bipush (y := zX6_first) (nI 50) kb_50 dX6_first_38, wp_icmp_gt (y := zX6_first) 80 (by decide) dX6_first_40, wp_il3 (y := zX6_first) dX6_first_43, wp_iconst (y := zX6_first) ((-1)) ki_m1 dX6_first_44, wp_icmp_ne (y := zX6_first) 80 (by decide) dX6_first_45, q', e1]
              exact K _ μ2 (F1.trans F2) h72
          · have ef : fd (firstP s what) (d + 1) i = fd (firstP s what) d (i + 1) := if_neg hp
            rw [ef] at K
            have a1 : μ2 (m + 1) 5 = (goK (i + 1) s).2.2.2 8 := R2.2.2.2.2.2.2.1
            have a2 : μ2 (m + 2) 5 = s.2.2.2 8 := by rw [(F1.trans F2).1 (m + 2) (by omega) (by omega)]; exact asd
            have hz : ((goK (i + 1) s).2.2.2 8 ≤ s.2.2.2 8) = True := i_le (FP2 hp)
            simp (disch := first | omega | assumption) only [mm_op_some, true_and, and_true, mm_rc_some, mm_rc_none, pk_mul, nI_add, mm_in_t, nI_clamp, ok0, ok1, ok2, ok3, ok4, n1_0, n0_0, nI_le_, nI_lt_, if_true, if_false, not_true, not_false_eq_true, ce_lt, ce_cl, hf_lt, hf_cl, wp_al0 (y := zX6_first) dX6_first_52, wp_getf (y := zX6_first) kF6_9 dX6_first_53, wp_il2 (y := zX6_first) dX6_first_56, wp_iald (y := zX6_first) dX6_first_57, wp_al0 (y := zX6_first) dX6_first_58, wp_getf (y := zX6_first) kF6_15 dX6_first_59, wp_il2 (y := zX6_first) dX6_first_62, wp_iald (y := zX6_first) dX6_first_63, wp_icmp_le (y := zX6_first) 72 (by decide) dX6_first_64, wp_iconst (y := zX6_first) ((-1)) ki_m1 dX6_first_72, wp_is3 (y := zX6_first) dX6_first_73, wp_inc4 (y := zX6_first) (nI 1) ki_1 dX6_first_74, wp_goto (y := zX6_first) 36 (by decide) dX6_first_77, O.oc, O.g0, O.g1, O.g2, O.g3, O.g4, O.g5, O.g6, O.g7, O.g9, O.g10, O.g11, O.p0, O.p7, O.a1, O.a2, O.a3, O.a4, O.a5, O.a6, O.a7, O.a8, O.a9, a1, a2, ik, ck, hz]
            exact ih (i + 1) μ2 (by omega) R2 J2 h72 (F1.trans F2) K
      simp (disch := first | omega | assumption) only [mm_op_some, true_and, and_true, mm_rc_some, mm_rc_none, pk_mul, nI_add, mm_in_t, nI_clamp, ok0, ok1, ok2, ok3, ok4, n1_0, n0_0, nI_le_, nI_lt_, if_true, if_false, not_true, not_false_eq_true, ce_lt, ce_cl, hf_lt, hf_cl, n0_zz, n1_zz, wp_al0 (y := zX6_first) dX6_first_0, wp_iconst (y := zX6_first) (nI 0) ki_0 dX6_first_1, wp_putf (y := zX6_first) kF6_44 rfl dX6_first_2, wp_il1 (y := zX6_first) dX6_first_5, wp_i2l (y := zX6_first) dX6_first_6, wp_lconst (y := zX6_first) (0) kl_0 dX6_first_7, wp_lconst (y := zX6_first) (1) kl_1 dX6_first_8, wp_in (y := zX6_first) rfl kP6_48 (by decide) dX6_first_9, wp_if_ne (y := zX6_first) 17 (by decide) dX6_first_12, wp_al0 (y := zX6_first) dX6_first_17, wp_cv0 (y := zX6_first) kM6_301 (by decide) dX6_first_18, (show yo zX6_think = 6 from rfl), wp_il1 (y := zX6_first) dX6_first_21, wp_if_ne (y := zX6_first) 29 (by decide) dX6_first_22, wp_iconst (y := zX6_first) (nI 5) ki_5 dX6_first_29, wp_is2 (y := zX6_first) dX6_first_30, wp_iconst (y := zX6_first) ((-1)) ki_m1 dX6_first_31, wp_is3 (y := zX6_first) dX6_first_32, wp_iconst (y := zX6_first) (nI 1) ki_1 dX6_first_33, wp_is4 (y := zX6_first) dX6_first_34, O.oc, O.g0, O.g1, O.g2, O.g3, O.g4, O.g5, O.g6, O.g7, O.g9, O.g10, O.g11, O.p0, O.p7, O.a1, O.a2, O.a3, O.a4, O.a5, O.a6, O.a7, O.a8, O.a9, E1, E2, hw']
      refine loop 50 0 (mu (mu μ m (upd (μ m) 0 (nI 0))) (m + 2) (cpR ((mu μ m (upd (μ m) 0 (nI 0))) (m + 1)) ((mu μ m (upd (μ m) 0 (nI 0))) (m + 2)) 0 0 1786)) (by omega) R1 J g2 (RM.refl _ _) (fun w μ2 F h7 => ?_)
      have E3 : ∀ Q', cl sh zX6_endThought [.ref m] μ2 Q' = Q' none (mu μ2 (m + 1) (cpR (μ2 (m + 2)) (μ2 (m + 1)) 0 0 1786)) := fun Q' => m_endThought O
      simp (disch := first | omega | assumption) only [mm_op_some, true_and, and_true, mm_rc_some, mm_rc_none, pk_mul, nI_add, mm_in_t, nI_clamp, ok0, ok1, ok2, ok3, ok4, n1_0, n0_0, nI_le_, nI_lt_, if_true, if_false, not_true, not_false_eq_true, ce_lt, ce_cl, hf_lt, hf_cl, wp_al0 (y := zX6_first) dX6_first_80, wp_cv0 (y := zX6_first) kM6_314 (by decide) dX6_first_81, (show yo zX6_endThought = 6 from rfl), wp_il3 (y := zX6_first) dX6_first_84, wp_ireti (y := zX6_first) rfl dX6_first_85, O.oc, O.g0, O.g1, O.g2, O.g3, O.g4, O.g5, O.g6, O.g7, O.g9, O.g10, O.g11, O.p0, O.p7, O.a1, O.a2, O.a3, O.a4, O.a5, O.a6, O.a7, O.a8, O.a9, E3]
      exact fin _ F h7
theorem m_resting (O : MoSh sh m) (R : RepM s μ m) (J : Inv s.1) (g0 : μ m 7 = nI 0) (what : Int32) : cl sh zX6_resting [.ref m, .int what] μ (MT m μ (a_resting s what, s)) := by
  have R0 := R.mu0 (nI 0)
  have g1 : (mu μ m (upd (μ m) 0 (nI 0))) m 7 = nI 0 := by rw [mu_s, upd_n _ _ (by omega)]; exact g0
  show wp sh zX6_resting 0 [.ref m, .int what, .null, .null] [] μ _
  unfold a_resting
  have E2 : ∀ Q', cl sh zX6_think [.ref m] (mu μ m (upd (μ m) 0 (nI 0))) Q' = Q' none (mu (mu μ m (upd (μ m) 0 (nI 0))) (m + 2) (cpR ((mu μ m (upd (μ m) 0 (nI 0))) (m + 1)) ((mu μ m (upd (μ m) 0 (nI 0))) (m + 2)) 0 0 1786)) := fun Q' => m_think O
  by_cases h : what < 0 ∨ nI 1 < what
  · have E1 : mm_isin what.toInt64 0 1 = nI 0 := isin_o (a := 0) (b := nI 1) rfl rfl h
    rw [if_pos h]
    have fin : MT m μ ((-1 : Int32), s) (some (.int (-1))) (mu μ m (upd (μ m) 0 (nI 0))) := mt_ro g0 rfl (RO.refl _ _) rfl R0 J
    generalize MT m μ ((-1 : Int32), s) = QQ at fin ⊢
    simp (disch := first | omega | assumption) only [mm_op_some, true_and, and_true, mm_rc_some, mm_rc_none, pk_mul, nI_add, mm_in_t, nI_clamp, ok0, ok1, ok2, ok3, ok4, n1_0, n0_0, nI_le_, nI_lt_, if_true, if_false, not_true, not_false_eq_true, ce_lt, ce_cl, hf_lt, hf_cl, n0_zz, wp_al0 (y := zX6_resting) dX6_resting_0, wp_iconst (y := zX6_resting) (nI 0) ki_0 dX6_resting_1, wp_putf (y := zX6_resting) kF6_44 rfl dX6_resting_2, wp_il1 (y := zX6_resting) dX6_resting_5, wp_i2l (y := zX6_resting) dX6_resting_6, wp_lconst (y := zX6_resting) (0) kl_0 dX6_resting_7, wp_lconst (y := zX6_resting) (1) kl_1 dX6_resting_8, wp_in (y := zX6_resting) rfl kP6_48 (by decide) dX6_resting_9, wp_if_ne (y := zX6_resting) 17 (by decide) dX6_resting_12, wp_iconst (y := zX6_resting) ((-1)) ki_m1 dX6_resting_15, wp_ireti (y := zX6_resting) rfl dX6_resting_16, O.oc, O.g0, O.g1, O.g2, O.g3, O.g4, O.g5, O.g6, O.g7, O.g9, O.g10, O.g11, O.p0, O.p7, O.a1, O.a2, O.a3, O.a4, O.a5, O.a6, O.a7, O.a8, O.a9, E1]
    exact fin
  · have E1 : mm_isin what.toInt64 0 1 = nI 1 := isin_i (a := 0) (b := nI 1) rfl rfl h
    rw [if_neg h]
    have R1 : RepM s (mu (mu μ m (upd (μ m) 0 (nI 0))) (m + 2) (cpR ((mu μ m (upd (μ m) 0 (nI 0))) (m + 1)) ((mu μ m (upd (μ m) 0 (nI 0))) (m + 2)) 0 0 1786)) m := th_of R0
    have g2 : (mu (mu μ m (upd (μ m) 0 (nI 0))) (m + 2) (cpR ((mu μ m (upd (μ m) 0 (nI 0))) (m + 1)) ((mu μ m (upd (μ m) 0 (nI 0))) (m + 2)) 0 0 1786)) m 7 = nI 0 := by rw [mu_n _ _ (by omega)]; exact g1
    have fin : ∀ v μ2, RO (mu (mu μ m (upd (μ m) 0 (nI 0))) (m + 2) (cpR ((mu μ m (upd (μ m) 0 (nI 0))) (m + 1)) ((mu μ m (upd (μ m) 0 (nI 0))) (m + 2)) 0 0 1786)) μ2 m → MT m μ (v, s) (some (.int v)) (mu μ2 (m + 1) (cpR (μ2 (m + 2)) (μ2 (m + 1)) 0 0 1786)) := fun v μ2 F => th_end R0 J g0 F.rm.rs (by rw [F m (by omega)]; exact g2)
    have E3 : ∀ μ2 Q', cl sh zX6_endThought [.ref m] μ2 Q' = Q' none (mu μ2 (m + 1) (cpR (μ2 (m + 2)) (μ2 (m + 1)) 0 0 1786)) := fun μ2 Q' => m_endThought O
    by_cases hw : what = 0
    · have hw' : (what = 0) = True := eq_true hw
      rw [if_pos hw]
      have fin := fin (nI (caF 1000000 0 s).1)
      generalize MT m μ (nI (caF 1000000 0 s).1, s) = QQ at fin ⊢
      simp (disch := first | omega | assumption) only [mm_op_some, true_and, and_true, mm_rc_some, mm_rc_none, pk_mul, nI_add, mm_in_t, nI_clamp, ok0, ok1, ok2, ok3, ok4, n1_0, n0_0, nI_le_, nI_lt_, if_true, if_false, not_true, not_false_eq_true, ce_lt, ce_cl, hf_lt, hf_cl, n1_zz, wp_al0 (y := zX6_resting) dX6_resting_0, wp_iconst (y := zX6_resting) (nI 0) ki_0 dX6_resting_1, wp_putf (y := zX6_resting) kF6_44 rfl dX6_resting_2, wp_il1 (y := zX6_resting) dX6_resting_5, wp_i2l (y := zX6_resting) dX6_resting_6, wp_lconst (y := zX6_resting) (0) kl_0 dX6_resting_7, wp_lconst (y := zX6_resting) (1) kl_1 dX6_resting_8, wp_in (y := zX6_resting) rfl kP6_48 (by decide) dX6_resting_9, wp_if_ne (y := zX6_resting) 17 (by decide) dX6_resting_12, wp_al0 (y := zX6_resting) dX6_resting_17, wp_cv0 (y := zX6_resting) kM6_301 (by decide) dX6_resting_18, (show yo zX6_think = 6 from rfl), wp_al0 (y := zX6_resting) dX6_resting_21, wp_cv0 (y := zX6_resting) kM6_234 (by decide) dX6_resting_22, (show yo zX6_relaxes = 6 from rfl), O.oc, O.g0, O.g1, O.g2, O.g3, O.g4, O.g5, O.g6, O.g7, O.g9, O.g10, O.g11, O.p0, O.p7, O.a1, O.a2, O.a3, O.a4, O.a5, O.a6, O.a7, O.a8, O.a9, E1, E2]
      refine cl_mono (m_relaxes O R1 J) ?_
      rintro r μ1 ⟨rfl, ⟨R2, JB⟩, F1⟩
      simp (disch := first | omega | assumption) only [mm_op_some, true_and, and_true, mm_rc_some, mm_rc_none, pk_mul, nI_add, mm_in_t, nI_clamp, ok0, ok1, ok2, ok3, ok4, n1_0, n0_0, nI_le_, nI_lt_, if_true, if_false, not_true, not_false_eq_true, ce_lt, ce_cl, hf_lt, hf_cl, wp_is2 (y := zX6_resting) dX6_resting_25, wp_il1 (y := zX6_resting) dX6_resting_26, wp_if_ne (y := zX6_resting) 34 (by decide) dX6_resting_27, wp_il2 (y := zX6_resting) dX6_resting_30, wp_goto (y := zX6_resting) 38 (by decide) dX6_resting_31, wp_is3 (y := zX6_resting) dX6_resting_38, wp_al0 (y := zX6_resting) dX6_resting_39, wp_cv0 (y := zX6_resting) kM6_314 (by decide) dX6_resting_40, (show yo zX6_endThought = 6 from rfl), wp_il3 (y := zX6_resting) dX6_resting_43, wp_ireti (y := zX6_resting) rfl dX6_resting_44, O.oc, O.g0, O.g1, O.g2, O.g3, O.g4, O.g5, O.g6, O.g7, O.g9, O.g10, O.g11, O.p0, O.p7, O.a1, O.a2, O.a3, O.a4, O.a5, O.a6, O.a7, O.a8, O.a9, hw', E3]
      exact fin _ F1
    · have hw' : (what = 0) = False := eq_false hw
      rw [if_neg hw]
      have fin := fin (stn (caF 1000000 0 s).2.1)
      generalize MT m μ (stn (caF 1000000 0 s).2.1, s) = QQ at fin ⊢
      simp (disch := first | omega | assumption) only [mm_op_some, true_and, and_true, mm_rc_some, mm_rc_none, pk_mul, nI_add, mm_in_t, nI_clamp, ok0, ok1, ok2, ok3, ok4, n1_0, n0_0, nI_le_, nI_lt_, if_true, if_false, not_true, not_false_eq_true, ce_lt, ce_cl, hf_lt, hf_cl, n1_zz, wp_al0 (y := zX6_resting) dX6_resting_0, wp_iconst (y := zX6_resting) (nI 0) ki_0 dX6_resting_1, wp_putf (y := zX6_resting) kF6_44 rfl dX6_resting_2, wp_il1 (y := zX6_resting) dX6_resting_5, wp_i2l (y := zX6_resting) dX6_resting_6, wp_lconst (y := zX6_resting) (0) kl_0 dX6_resting_7, wp_lconst (y := zX6_resting) (1) kl_1 dX6_resting_8, wp_in (y := zX6_resting) rfl kP6_48 (by decide) dX6_resting_9, wp_if_ne (y := zX6_resting) 17 (by decide) dX6_resting_12, wp_al0 (y := zX6_resting) dX6_resting_17, wp_cv0 (y := zX6_resting) kM6_301 (by decide) dX6_resting_18, (show yo zX6_think = 6 from rfl), wp_al0 (y := zX6_resting) dX6_resting_21, wp_cv0 (y := zX6_resting) kM6_234 (by decide) dX6_resting_22, (show yo zX6_relaxes = 6 from rfl), O.oc, O.g0, O.g1, O.g2, O.g3, O.g4, O.g5, O.g6, O.g7, O.g9, O.g10, O.g11, O.p0, O.p7, O.a1, O.a2, O.a3, O.a4, O.a5, O.a6, O.a7, O.a8, O.a9, E1, E2]
      refine cl_mono (m_relaxes O R1 J) ?_
      rintro r μ1 ⟨rfl, ⟨R2, JB⟩, F1⟩
      have E4 : ∀ Q', cl sh zX6_strain [.ref m] μ1 Q' = Q' (some (.int (stn (caF 1000000 0 s).2.1))) μ1 := fun Q' => m_strain O R2.1 JB
      simp (disch := first | omega | assumption) only [mm_op_some, true_and, and_true, mm_rc_some, mm_rc_none, pk_mul, nI_add, mm_in_t, nI_clamp, ok0, ok1, ok2, ok3, ok4, n1_0, n0_0, nI_le_, nI_lt_, if_true, if_false, not_true, not_false_eq_true, ce_lt, ce_cl, hf_lt, hf_cl, wp_is2 (y := zX6_resting) dX6_resting_25, wp_il1 (y := zX6_resting) dX6_resting_26, wp_if_ne (y := zX6_resting) 34 (by decide) dX6_resting_27, wp_al0 (y := zX6_resting) dX6_resting_34, wp_cv0 (y := zX6_resting) kM6_288 (by decide) dX6_resting_35, (show yo zX6_strain = 6 from rfl), wp_is3 (y := zX6_resting) dX6_resting_38, wp_al0 (y := zX6_resting) dX6_resting_39, wp_cv0 (y := zX6_resting) kM6_314 (by decide) dX6_resting_40, (show yo zX6_endThought = 6 from rfl), wp_il3 (y := zX6_resting) dX6_resting_43, wp_ireti (y := zX6_resting) rfl dX6_resting_44, O.oc, O.g0, O.g1, O.g2, O.g3, O.g4, O.g5, O.g6, O.g7, O.g9, O.g10, O.g11, O.p0, O.p7, O.a1, O.a2, O.a3, O.a4, O.a5, O.a6, O.a7, O.a8, O.a9, hw', E3, E4]
      exact fin _ F1
end MGP
