theorem imax_l {a b : Int32} (h : b < a) : imax a b = a := if_neg (fun q => by
  rw [Int32.lt_iff_toInt_lt] at h q
  omega)
theorem imax_r {a b : Int32} (h : ¬ b < a) : imax a b = b := by
  unfold imax
  by_cases q : a < b
  · rw [if_pos q]
  · rw [if_neg q]
    rw [Int32.lt_iff_toInt_lt] at h q
    exact Int32.toInt_inj.mp (by omega)
section MPD
variable {sh : mm_Sh} {m : Nat} {M : Ms} {μ : mm_U} {s : Fo} {Q : Option Value → mm_U → Prop} {n : Int32}
theorem m_pieces (O : MoSh sh m) (R : RepM s μ m) (J : Inv s.1) (g0 : μ m 7 = nI 0) (n what : Int32) : cl sh zX6_pieces [.ref m, .int n, .int what] μ (MT m μ (a_pieces s n what, s)) := by
  have R0 := R.mu0 (nI 0)
  have A := R0.1
  show wp sh zX6_pieces 0 [.ref m, .int n, .int what, .null, .null, .null, .null, .null, .null] [] μ _
  have z0 : (0 : Int64).toInt = 0 := rfl
  have z2 : (2 : Int64).toInt = 2 := rfl
  have z00 : (0 : Int32).toInt = 0 := rfl
  have z22 : (nI 2).toInt = 2 := rfl
  have fin : ∀ v μ', FrA (mu μ m (upd (μ m) 0 (nI 0))) μ' (m + 9) → MT m μ (v, s) (some (.int v)) μ' := fun v μ' F => mt_fa (b := m + 9) (by omega) g0 R J F
  unfold a_pieces
  by_cases hn : n < 0
  · have hn' := eq_true hn
    rw [if_pos (Or.inl hn)]
    have fin := fin (-1) _ (FrA.refl _ _)
    generalize MT m μ ((-1 : Int32), s) = QQ at fin ⊢
    simp (disch := first | omega | assumption) only [mm_op_some, true_and, and_true, mm_rc_some, mm_rc_none, pk_mul, nI_add, mm_in_t, nI_clamp, ok0, ok1, ok2, ok3, ok4, n1_0, n0_0, nI_le_, nI_lt_, if_true, if_false, not_true, not_false_eq_true, ce_lt, ce_cl, hf_lt, hf_cl, n0_zz, n1_zz, wp_al0 (y := zX6_pieces) dX6_pieces_0, wp_iconst (y := zX6_pieces) (nI 0) ki_0 dX6_pieces_1, wp_putf (y := zX6_pieces) kF6_44 rfl dX6_pieces_2, wp_il1 (y := zX6_pieces) dX6_pieces_5, wp_if_lt (y := zX6_pieces) 21 (by decide) dX6_pieces_6, wp_iconst (y := zX6_pieces) ((-1)) ki_m1 dX6_pieces_21, wp_ireti (y := zX6_pieces) rfl dX6_pieces_22, O.oc, O.g0, O.g1, O.g2, O.g3, O.g4, O.g5, O.g6, O.g7, O.g9, O.g10, O.g11, O.p0, O.p7, O.a1, O.a2, O.a3, O.a4, O.a5, O.a6, O.a7, O.a8, O.a9, hn']
    exact fin
  · have hn' := eq_false hn
    by_cases hw : what < 0 ∨ nI 2 < what
    · rw [if_pos (Or.inr hw)]
      have i0 : mm_isin what.toInt64 0 2 = nI 0 := isin_f (fun q => by
        rw [z0, z2] at q
        rw [Int32.lt_iff_toInt_lt, Int32.lt_iff_toInt_lt, z00, z22] at hw
        omega)
      have fin := fin (-1) _ (FrA.refl _ _)
      generalize MT m μ ((-1 : Int32), s) = QQ at fin ⊢
      simp (disch := first | omega | assumption) only [mm_op_some, true_and, and_true, mm_rc_some, mm_rc_none, pk_mul, nI_add, mm_in_t, nI_clamp, ok0, ok1, ok2, ok3, ok4, n1_0, n0_0, nI_le_, nI_lt_, if_true, if_false, not_true, not_false_eq_true, ce_lt, ce_cl, hf_lt, hf_cl, n0_zz, n1_zz, wp_al0 (y := zX6_pieces) dX6_pieces_0, wp_iconst (y := zX6_pieces) (nI 0) ki_0 dX6_pieces_1, wp_putf (y := zX6_pieces) kF6_44 rfl dX6_pieces_2, wp_il1 (y := zX6_pieces) dX6_pieces_5, wp_if_lt (y := zX6_pieces) 21 (by decide) dX6_pieces_6, wp_il2 (y := zX6_pieces) dX6_pieces_9, wp_i2l (y := zX6_pieces) dX6_pieces_10, wp_lconst (y := zX6_pieces) (0) kl_0 dX6_pieces_11, wp_ldc2 (y := zX6_pieces) kL6_253 dX6_pieces_12, wp_in (y := zX6_pieces) rfl kP6_48 (by decide) dX6_pieces_15, wp_if_ne (y := zX6_pieces) 23 (by decide) dX6_pieces_18, wp_iconst (y := zX6_pieces) ((-1)) ki_m1 dX6_pieces_21, wp_ireti (y := zX6_pieces) rfl dX6_pieces_22, O.oc, O.g0, O.g1, O.g2, O.g3, O.g4, O.g5, O.g6, O.g7, O.g9, O.g10, O.g11, O.p0, O.p7, O.a1, O.a2, O.a3, O.a4, O.a5, O.a6, O.a7, O.a8, O.a9, hn', i0]
      exact fin
    · rw [if_neg (fun q => q.elim hn hw)]
      have i0 : mm_isin what.toInt64 0 2 = nI 1 := isin_t (by
        rw [z0, z2]
        rw [Int32.lt_iff_toInt_lt, Int32.lt_iff_toInt_lt, z00, z22] at hw
        omega)
      have w2 : ¬ what = nI 0 → ¬ what = nI 1 → True := fun _ _ => trivial
      generalize hv : (if what = nI 0 then (it (gpS s.1 n) 48 0 (fun _ => none, nI 0, nI 0, -1)).2.1 else if what = nI 1 then (it (gpS s.1 n) 48 0 (fun _ => none, nI 0, nI 0, -1)).2.2.1 else (it (gpS s.1 n) 48 0 (fun _ => none, nI 0, nI 0, -1)).2.2.2) = v
      have fin := fin v
      generalize MT m μ (v, s) = QQ at fin ⊢
      simp (disch := first | omega | assumption) only [mm_op_some, true_and, and_true, mm_rc_some, mm_rc_none, pk_mul, nI_add, mm_in_t, nI_clamp, ok0, ok1, ok2, ok3, ok4, n1_0, n0_0, nI_le_, nI_lt_, if_true, if_false, not_true, not_false_eq_true, ce_lt, ce_cl, hf_lt, hf_cl, n0_zz, n1_zz, wp_al0 (y := zX6_pieces) dX6_pieces_0, wp_iconst (y := zX6_pieces) (nI 0) ki_0 dX6_pieces_1, wp_putf (y := zX6_pieces) kF6_44 rfl dX6_pieces_2, wp_il1 (y := zX6_pieces) dX6_pieces_5, wp_if_lt (y := zX6_pieces) 21 (by decide) dX6_pieces_6, wp_il2 (y := zX6_pieces) dX6_pieces_9, wp_i2l (y := zX6_pieces) dX6_pieces_10, wp_lconst (y := zX6_pieces) (0) kl_0 dX6_pieces_11, wp_ldc2 (y := zX6_pieces) kL6_253 dX6_pieces_12, wp_in (y := zX6_pieces) rfl kP6_48 (by decide) dX6_pieces_15, wp_if_ne (y := zX6_pieces) 23 (by decide) dX6_pieces_18, wp_al0 (y := zX6_pieces) dX6_pieces_23, wp_il1 (y := zX6_pieces) dX6_pieces_24, wp_cv1 (y := zX6_pieces) kM6_284 (by decide) dX6_pieces_25, (show yo zX6_layPieces = 6 from rfl), O.oc, O.g0, O.g1, O.g2, O.g3, O.g4, O.g5, O.g6, O.g7, O.g9, O.g10, O.g11, O.p0, O.p7, O.a1, O.a2, O.a3, O.a4, O.a5, O.a6, O.a7, O.a8, O.a9, hn', i0]
      refine cl_mono (m_layPieces O A J n) ?_
      rintro r μ1 ⟨rfl, F1, p, P, r1⟩
      have bd : ∀ c l, p c = some l → l < 2 ^ 31 := fun c l q => by
        have := (P.2.1 c l q).1
        have := c.isLt
        omega
      have cnt : ∀ i, i < 48 → ∀ v3 v4 v5, ∀ k o acc, o + k = 48 → wp sh zX6_pieces 52 [.ref m, .int n, .int what, v3, v4, v5, .int (nI i), .int acc, .int (nI o)] [] μ1 QQ = wp sh zX6_pieces 87 [.ref m, .int n, .int what, v3, v4, v5, .int (nI i), .int (it (fun o a => if decide (p (cI o) = some i) = true then a + nI 1 else a) k o acc), .int (nI 48)] [] μ1 QQ := by
        intro i hi v3 v4 v5 k
        induction k with
        | zero =>
          intro o acc ho
          have e : o = 48 := by omega
          rw [e, wp_il8 (y := zX6_pieces) dX6_pieces_52]
          simp (disch := first | omega | assumption) only [mm_op_some, true_and, and_true, mm_rc_some, mm_rc_none, pk_mul, nI_add, mm_in_t, nI_clamp, ok0, ok1, ok2, ok3, ok4, n1_0, n0_0, nI_le_, nI_lt_, if_true, if_false, not_true, not_false_eq_true, ce_lt, ce_cl, hf_lt, hf_cl, wp_bipush (y := zX6_pieces) (nI 48) kb_48 dX6_pieces_54, wp_icmp_ge (y := zX6_pieces) 87 (by decide) dX6_pieces_56, Nat.le_refl]
          rfl
        | succ k ih =>
          intro o acc ho
          have ho' : o < 48 := by omega
          have h9 : (48 ≤ o) = False := eq_false (by omega)
          have ov := cI_lt ho'
          have q1 := r1 (cI o)
          rw [ov] at q1
          have d1 := fo_eqd (d := i) (bd (cI o)) (by omega)
          rw [wp_il8 (y := zX6_pieces) dX6_pieces_52]
          show _ = wp sh zX6_pieces 87 [.ref m, .int n, .int what, v3, v4, v5, .int (nI i), .int (it (fun o a => if decide (p (cI o) = some i) = true then a + nI 1 else a) k (o + 1) (if decide (p (cI o) = some i) = true then acc + nI 1 else acc)), .int (nI 48)] [] μ1 QQ
          rw [← ih (o + 1) _ (by omega)]
          by_cases pp : p (cI o) = some i
          · have pp' := eq_true pp
            rw [if_pos (decide_eq_true pp)]
            simp (disch := first | omega | assumption) only [mm_op_some, true_and, and_true, mm_rc_some, mm_rc_none, pk_mul, nI_add, mm_in_t, nI_clamp, ok0, ok1, ok2, ok3, ok4, n1_0, n0_0, nI_le_, nI_lt_, if_true, if_false, not_true, not_false_eq_true, ce_lt, ce_cl, hf_lt, hf_cl, n0_zz, n1_zz, wp_bipush (y := zX6_pieces) (nI 48) kb_48 dX6_pieces_54, wp_icmp_ge (y := zX6_pieces) 87 (by decide) dX6_pieces_56, wp_il7 (y := zX6_pieces) dX6_pieces_59, wp_al0 (y := zX6_pieces) dX6_pieces_61, wp_getf (y := zX6_pieces) kF6_37 dX6_pieces_62, wp_il8 (y := zX6_pieces) dX6_pieces_65, wp_iald (y := zX6_pieces) dX6_pieces_67, wp_il6 (y := zX6_pieces) dX6_pieces_68, wp_icmp_ne (y := zX6_pieces) 77 (by decide) dX6_pieces_70, wp_iconst (y := zX6_pieces) (nI 1) ki_1 dX6_pieces_73, wp_goto (y := zX6_pieces) 78 (by decide) dX6_pieces_74, wp_iadd (y := zX6_pieces) dX6_pieces_78, wp_is7 (y := zX6_pieces) dX6_pieces_79, wp_inc8 (y := zX6_pieces) (nI 1) ki_1 dX6_pieces_81, wp_goto (y := zX6_pieces) 52 (by decide) dX6_pieces_84, O.oc, O.g0, O.g1, O.g2, O.g3, O.g4, O.g5, O.g6, O.g7, O.g9, O.g10, O.g11, O.p0, O.p7, O.a1, O.a2, O.a3, O.a4, O.a5, O.a6, O.a7, O.a8, O.a9, h9, q1, d1, pp']
          · have pp' := eq_false pp
            rw [if_neg (fun q => pp (of_decide_eq_true q))]
            simp (disch := first | omega | assumption) only [mm_op_some, true_and, and_true, mm_rc_some, mm_rc_none, pk_mul, nI_add, mm_in_t, nI_clamp, ok0, ok1, ok2, ok3, ok4, n1_0, n0_0, nI_le_, nI_lt_, if_true, if_false, not_true, not_false_eq_true, ce_lt, ce_cl, hf_lt, hf_cl, n0_zz, n1_zz, wp_bipush (y := zX6_pieces) (nI 48) kb_48 dX6_pieces_54, wp_icmp_ge (y := zX6_pieces) 87 (by decide) dX6_pieces_56, wp_il7 (y := zX6_pieces) dX6_pieces_59, wp_al0 (y := zX6_pieces) dX6_pieces_61, wp_getf (y := zX6_pieces) kF6_37 dX6_pieces_62, wp_il8 (y := zX6_pieces) dX6_pieces_65, wp_iald (y := zX6_pieces) dX6_pieces_67, wp_il6 (y := zX6_pieces) dX6_pieces_68, wp_icmp_ne (y := zX6_pieces) 77 (by decide) dX6_pieces_70, wp_iconst (y := zX6_pieces) (nI 0) ki_0 dX6_pieces_77, wp_iadd (y := zX6_pieces) dX6_pieces_78, wp_is7 (y := zX6_pieces) dX6_pieces_79, wp_inc8 (y := zX6_pieces) (nI 1) ki_1 dX6_pieces_81, wp_goto (y := zX6_pieces) 52 (by decide) dX6_pieces_84, O.oc, O.g0, O.g1, O.g2, O.g3, O.g4, O.g5, O.g6, O.g7, O.g9, O.g10, O.g11, O.p0, O.p7, O.a1, O.a2, O.a3, O.a4, O.a5, O.a6, O.a7, O.a8, O.a9, h9, q1, d1, pp']
            rw [show acc + nI 0 = acc from Int32.add_zero acc]
      have EG : ∀ a b Q', cl sh zX6_greater [.int a, .int b] μ1 Q' = Q' (some (.int (imax a b))) μ1 := fun a b Q' => m_greater a b
      have loop : ∀ k i v7 v8 (a : Pc) (mo : Nat), i + k = 48 → a = it (gpS s.1 n) i 0 (fun _ => none, nI 0, nI 0, -1) → VsP s.1 n i a.1 → mo ≤ 48 → a.2.2.1 = nI mo → wp sh zX6_pieces 39 [.ref m, .int n, .int what, .int a.2.1, .int a.2.2.1, .int a.2.2.2, .int (nI i), v7, v8] [] μ1 QQ := by
        intro k
        induction k with
        | zero =>
          intro i v7 v8 a mo hi ea V hm em
          have e : i = 48 := by omega
          subst e
          rw [← ea] at hv
          rw [wp_il6 (y := zX6_pieces) dX6_pieces_39]
          by_cases w0 : what = nI 0
          · subst w0
            rw [if_pos rfl] at hv
            rw [hv]
            simp (disch := first | omega | assumption) only [mm_op_some, true_and, and_true, mm_rc_some, mm_rc_none, pk_mul, nI_add, mm_in_t, nI_clamp, ok0, ok1, ok2, ok3, ok4, n1_0, n0_0, nI_le_, nI_lt_, if_true, if_false, not_true, not_false_eq_true, ce_lt, ce_cl, hf_lt, hf_cl, n0_zz, n1_zz, wp_bipush (y := zX6_pieces) (nI 48) kb_48 dX6_pieces_41, wp_icmp_ge (y := zX6_pieces) 131 (by decide) dX6_pieces_43, wp_il2 (y := zX6_pieces) dX6_pieces_131, wp_if_ne (y := zX6_pieces) 139 (by decide) dX6_pieces_132, wp_il3 (y := zX6_pieces) dX6_pieces_135, wp_goto (y := zX6_pieces) 151 (by decide) dX6_pieces_136, wp_ireti (y := zX6_pieces) rfl dX6_pieces_151, Nat.le_refl]
            exact fin _ F1
          · rw [if_neg w0] at hv
            have w0' : (what = 0) = False := eq_false w0
            by_cases w1 : what = nI 1
            · subst w1
              rw [if_pos rfl] at hv
              have e11 : (nI 1 = nI 1) = True := eq_true rfl
              rw [hv]
              simp (disch := first | omega | assumption) only [mm_op_some, true_and, and_true, mm_rc_some, mm_rc_none, pk_mul, nI_add, mm_in_t, nI_clamp, ok0, ok1, ok2, ok3, ok4, n1_0, n0_0, nI_le_, nI_lt_, if_true, if_false, not_true, not_false_eq_true, ce_lt, ce_cl, hf_lt, hf_cl, n0_zz, n1_zz, wp_bipush (y := zX6_pieces) (nI 48) kb_48 dX6_pieces_41, wp_icmp_ge (y := zX6_pieces) 131 (by decide) dX6_pieces_43, wp_il2 (y := zX6_pieces) dX6_pieces_131, wp_if_ne (y := zX6_pieces) 139 (by decide) dX6_pieces_132, wp_il2 (y := zX6_pieces) dX6_pieces_139, wp_iconst (y := zX6_pieces) (nI 1) ki_1 dX6_pieces_140, wp_icmp_ne (y := zX6_pieces) 149 (by decide) dX6_pieces_141, wp_il4 (y := zX6_pieces) dX6_pieces_144, wp_goto (y := zX6_pieces) 151 (by decide) dX6_pieces_146, wp_ireti (y := zX6_pieces) rfl dX6_pieces_151, Nat.le_refl, w0', e11]
              exact fin _ F1
            · rw [if_neg w1] at hv
              have w1' := eq_false w1
              rw [hv]
              simp (disch := first | omega | assumption) only [mm_op_some, true_and, and_true, mm_rc_some, mm_rc_none, pk_mul, nI_add, mm_in_t, nI_clamp, ok0, ok1, ok2, ok3, ok4, n1_0, n0_0, nI_le_, nI_lt_, if_true, if_false, not_true, not_false_eq_true, ce_lt, ce_cl, hf_lt, hf_cl, n0_zz, n1_zz, wp_bipush (y := zX6_pieces) (nI 48) kb_48 dX6_pieces_41, wp_icmp_ge (y := zX6_pieces) 131 (by decide) dX6_pieces_43, wp_il2 (y := zX6_pieces) dX6_pieces_131, wp_if_ne (y := zX6_pieces) 139 (by decide) dX6_pieces_132, wp_il2 (y := zX6_pieces) dX6_pieces_139, wp_iconst (y := zX6_pieces) (nI 1) ki_1 dX6_pieces_140, wp_icmp_ne (y := zX6_pieces) 149 (by decide) dX6_pieces_141, wp_il5 (y := zX6_pieces) dX6_pieces_149, wp_ireti (y := zX6_pieces) rfl dX6_pieces_151, Nat.le_refl, w0', w1']
              exact fin _ F1
        | succ k ih =>
          intro i v7 v8 a mo hi ea V hm em
          have hi' : i < 48 := by omega
          have h9 : (48 ≤ i) = False := eq_false (by omega)
          have nx1 : gpS s.1 n i a = it (gpS s.1 n) (i + 1) 0 (fun _ => none, nI 0, nI 0, -1) := by rw [it_last0, ← ea]
          obtain ⟨V2, st⟩ := gp_step J P hi' a V
          have ec : it (fun o a => if decide (p (cI o) = some i) = true then a + nI 1 else a) 48 0 (nI 0) = nI (cnP p i) := it_cnt (fun o => decide (p (cI o) = some i)) 48
          have cb := cnP_le p i
          have c0 := cnt i hi' (.int a.2.1) (.int a.2.2.1) (.int a.2.2.2) 48 0 (nI 0) (by omega)
          rw [ec] at c0
          rw [wp_il6 (y := zX6_pieces) dX6_pieces_39]
          simp (disch := first | omega | assumption) only [mm_op_some, true_and, and_true, mm_rc_some, mm_rc_none, pk_mul, nI_add, mm_in_t, nI_clamp, ok0, ok1, ok2, ok3, ok4, n1_0, n0_0, nI_le_, nI_lt_, if_true, if_false, not_true, not_false_eq_true, ce_lt, ce_cl, hf_lt, hf_cl, n0_zz, n1_zz, wp_bipush (y := zX6_pieces) (nI 48) kb_48 dX6_pieces_41, wp_icmp_ge (y := zX6_pieces) 131 (by decide) dX6_pieces_43, wp_iconst (y := zX6_pieces) (nI 0) ki_0 dX6_pieces_46, wp_is7 (y := zX6_pieces) dX6_pieces_47, wp_iconst (y := zX6_pieces) (nI 0) ki_0 dX6_pieces_49, wp_is8 (y := zX6_pieces) dX6_pieces_50, h9]
          refine Eq.mpr c0 ?_
          rcases st with ⟨cp, e2⟩ | ⟨cz, e2⟩
          · have l0 : (nI (cnP p i) ≤ 0) = False := eq_false (by rw [Int32.le_iff_toInt_le, nI_toInt (by omega), z00]; omega)
            by_cases lt : mo < cnP p i
            · have lt1 : (nI (cnP p i) ≤ a.2.2.1) = False := eq_false (by rw [em, Int32.le_iff_toInt_le, nI_toInt (by omega), nI_toInt (by omega)]; omega)
              have lt2 : a.2.2.1 < nI (cnP p i) := by rw [em, Int32.lt_iff_toInt_lt, nI_toInt (by omega), nI_toInt (by omega)]; omega
              have im : imax (nI (cnP p i)) a.2.2.1 = nI (cnP p i) := imax_l lt2
              rw [if_pos lt2, if_pos lt2] at e2
              have ih := ih (i + 1) (.int (nI (cnP p i))) (.int (nI 48)) (gpS s.1 n i a) (cnP p i) (by omega) nx1 V2 cb (by rw [e2])
              rw [e2] at ih
              simp (disch := first | omega | assumption) only [mm_op_some, true_and, and_true, mm_rc_some, mm_rc_none, pk_mul, nI_add, mm_in_t, nI_clamp, ok0, ok1, ok2, ok3, ok4, n1_0, n0_0, nI_le_, nI_lt_, if_true, if_false, not_true, not_false_eq_true, ce_lt, ce_cl, hf_lt, hf_cl, n0_zz, n1_zz, wp_il3 (y := zX6_pieces) dX6_pieces_87, wp_il7 (y := zX6_pieces) dX6_pieces_88, wp_if_le (y := zX6_pieces) 97 (by decide) dX6_pieces_90, wp_iconst (y := zX6_pieces) (nI 1) ki_1 dX6_pieces_93, wp_goto (y := zX6_pieces) 98 (by decide) dX6_pieces_94, wp_iadd (y := zX6_pieces) dX6_pieces_98, wp_is3 (y := zX6_pieces) dX6_pieces_99, wp_il7 (y := zX6_pieces) dX6_pieces_100, wp_il4 (y := zX6_pieces) dX6_pieces_102, wp_icmp_le (y := zX6_pieces) 112 (by decide) dX6_pieces_104, wp_il6 (y := zX6_pieces) dX6_pieces_107, wp_goto (y := zX6_pieces) 114 (by decide) dX6_pieces_109, wp_is5 (y := zX6_pieces) dX6_pieces_114, wp_il7 (y := zX6_pieces) dX6_pieces_116, wp_il4 (y := zX6_pieces) dX6_pieces_118, wp_cs2 (y := zX6_pieces) kM6_258 (by decide) dX6_pieces_120, wp_is4 (y := zX6_pieces) dX6_pieces_123, wp_inc6 (y := zX6_pieces) (nI 1) ki_1 dX6_pieces_125, wp_goto (y := zX6_pieces) 39 (by decide) dX6_pieces_128, O.oc, O.g0, O.g1, O.g2, O.g3, O.g4, O.g5, O.g6, O.g7, O.g9, O.g10, O.g11, O.p0, O.p7, O.a1, O.a2, O.a3, O.a4, O.a5, O.a6, O.a7, O.a8, O.a9, l0, lt1, EG, im]
              exact ih
            · have lt1 : (nI (cnP p i) ≤ a.2.2.1) = True := eq_true (by rw [em, Int32.le_iff_toInt_le, nI_toInt (by omega), nI_toInt (by omega)]; omega)
              have lt2 : ¬ a.2.2.1 < nI (cnP p i) := by rw [em, Int32.lt_iff_toInt_lt, nI_toInt (by omega), nI_toInt (by omega)]; omega
              have im : imax (nI (cnP p i)) a.2.2.1 = a.2.2.1 := imax_r lt2
              rw [if_neg lt2, if_neg lt2] at e2
              have ih := ih (i + 1) (.int (nI (cnP p i))) (.int (nI 48)) (gpS s.1 n i a) mo (by omega) nx1 V2 hm (by rw [e2]; exact em)
              rw [e2] at ih
              simp (disch := first | omega | assumption) only [mm_op_some, true_and, and_true, mm_rc_some, mm_rc_none, pk_mul, nI_add, mm_in_t, nI_clamp, ok0, ok1, ok2, ok3, ok4, n1_0, n0_0, nI_le_, nI_lt_, if_true, if_false, not_true, not_false_eq_true, ce_lt, ce_cl, hf_lt, hf_cl, n0_zz, n1_zz, wp_il3 (y := zX6_pieces) dX6_pieces_87, wp_il7 (y := zX6_pieces) dX6_pieces_88, wp_if_le (y := zX6_pieces) 97 (by decide) dX6_pieces_90, wp_iconst (y := zX6_pieces) (nI 1) ki_1 dX6_pieces_93, wp_goto (y := zX6_pieces) 98 (by decide) dX6_pieces_94, wp_iadd (y := zX6_pieces) dX6_pieces_98, wp_is3 (y := zX6_pieces) dX6_pieces_99, wp_il7 (y := zX6_pieces) dX6_pieces_100, wp_il4 (y := zX6_pieces) dX6_pieces_102, wp_icmp_le (y := zX6_pieces) 112 (by decide) dX6_pieces_104, wp_il5 (y := zX6_pieces) dX6_pieces_112, wp_is5 (y := zX6_pieces) dX6_pieces_114, wp_il7 (y := zX6_pieces) dX6_pieces_116, wp_il4 (y := zX6_pieces) dX6_pieces_118, wp_cs2 (y := zX6_pieces) kM6_258 (by decide) dX6_pieces_120, wp_is4 (y := zX6_pieces) dX6_pieces_123, wp_inc6 (y := zX6_pieces) (nI 1) ki_1 dX6_pieces_125, wp_goto (y := zX6_pieces) 39 (by decide) dX6_pieces_128, O.oc, O.g0, O.g1, O.g2, O.g3, O.g4, O.g5, O.g6, O.g7, O.g9, O.g10, O.g11, O.p0, O.p7, O.a1, O.a2, O.a3, O.a4, O.a5, O.a6, O.a7, O.a8, O.a9, l0, lt1, EG, im]
              exact ih
          · rw [cz]
            have l0 : (nI 0 ≤ (0 : Int32)) = True := eq_true (by decide)
            have lt1 : (nI 0 ≤ a.2.2.1) = True := eq_true (by rw [em, Int32.le_iff_toInt_le, nI_toInt (by omega), nI_toInt (by omega)]; omega)
            have lt2 : ¬ a.2.2.1 < nI 0 := by rw [em, Int32.lt_iff_toInt_lt, nI_toInt (by omega), nI_toInt (by omega)]; omega
            have im : imax (nI 0) a.2.2.1 = a.2.2.1 := imax_r lt2
            have ih := ih (i + 1) (.int (nI 0)) (.int (nI 48)) (gpS s.1 n i a) mo (by omega) nx1 V2 hm (by rw [e2]; exact em)
            rw [e2] at ih
            have az : a.2.1 + nI 0 = a.2.1 := Int32.add_zero _
            simp (disch := first | omega | assumption) only [mm_op_some, true_and, and_true, mm_rc_some, mm_rc_none, pk_mul, nI_add, mm_in_t, nI_clamp, ok0, ok1, ok2, ok3, ok4, n1_0, n0_0, nI_le_, nI_lt_, if_true, if_false, not_true, not_false_eq_true, ce_lt, ce_cl, hf_lt, hf_cl, n0_zz, n1_zz, wp_il3 (y := zX6_pieces) dX6_pieces_87, wp_il7 (y := zX6_pieces) dX6_pieces_88, wp_if_le (y := zX6_pieces) 97 (by decide) dX6_pieces_90, wp_iconst (y := zX6_pieces) (nI 0) ki_0 dX6_pieces_97, wp_iadd (y := zX6_pieces) dX6_pieces_98, wp_is3 (y := zX6_pieces) dX6_pieces_99, wp_il7 (y := zX6_pieces) dX6_pieces_100, wp_il4 (y := zX6_pieces) dX6_pieces_102, wp_icmp_le (y := zX6_pieces) 112 (by decide) dX6_pieces_104, wp_il5 (y := zX6_pieces) dX6_pieces_112, wp_is5 (y := zX6_pieces) dX6_pieces_114, wp_il7 (y := zX6_pieces) dX6_pieces_116, wp_il4 (y := zX6_pieces) dX6_pieces_118, wp_cs2 (y := zX6_pieces) kM6_258 (by decide) dX6_pieces_120, wp_is4 (y := zX6_pieces) dX6_pieces_123, wp_inc6 (y := zX6_pieces) (nI 1) ki_1 dX6_pieces_125, wp_goto (y := zX6_pieces) 39 (by decide) dX6_pieces_128, O.oc, O.g0, O.g1, O.g2, O.g3, O.g4, O.g5, O.g6, O.g7, O.g9, O.g10, O.g11, O.p0, O.p7, O.a1, O.a2, O.a3, O.a4, O.a5, O.a6, O.a7, O.a8, O.a9, l0, lt1, EG, im, az]
            exact ih
      simp (disch := first | omega | assumption) only [mm_op_some, true_and, and_true, mm_rc_some, mm_rc_none, pk_mul, nI_add, mm_in_t, nI_clamp, ok0, ok1, ok2, ok3, ok4, n1_0, n0_0, nI_le_, nI_lt_, if_true, if_false, not_true, not_false_eq_true, ce_lt, ce_cl, hf_lt, hf_cl, n0_zz, n1_zz, wp_iconst (y := zX6_pieces) (nI 0) ki_0 dX6_pieces_28, wp_is3 (y := zX6_pieces) dX6_pieces_29, wp_iconst (y := zX6_pieces) (nI 0) ki_0 dX6_pieces_30, wp_is4 (y := zX6_pieces) dX6_pieces_31, wp_iconst (y := zX6_pieces) ((-1)) ki_m1 dX6_pieces_33, wp_is5 (y := zX6_pieces) dX6_pieces_34, wp_iconst (y := zX6_pieces) (nI 0) ki_0 dX6_pieces_36, wp_is6 (y := zX6_pieces) dX6_pieces_37, O.oc, O.g0, O.g1, O.g2, O.g3, O.g4, O.g5, O.g6, O.g7, O.g9, O.g10, O.g11, O.p0, O.p7, O.a1, O.a2, O.a3, O.a4, O.a5, O.a6, O.a7, O.a8, O.a9]
      exact loop 48 0 _ _ (fun _ => none, nI 0, nI 0, -1) 0 (by omega) rfl (fun v => ⟨fun q => absurd rfl q, fun ⟨j, hj, _⟩ => absurd hj (Nat.not_lt_zero _)⟩) (by omega) rfl
end MPD
