section MTH
variable {sh : mm_Sh} {m : Nat} {M : Ms} {μ : mm_U} {s : Fo} {Q : Option Value → mm_U → Prop}
theorem OtR.cgb {r r' : Nat → Int32} {g : Int32} (A : OtR s g r) (h : ∀ k, k < 1786 → r' k = r k) : OtR s g r' := by
  obtain ⟨a0, a1, a2, a3, a4, a5, a6, a7, a8, a9, a10, a11⟩ := A
  refine ⟨by rw [h _ (by omega)]; exact a0, by rw [h _ (by omega)]; exact a1, by rw [h _ (by omega)]; exact a2, by rw [h _ (by omega)]; exact a3, by rw [h _ (by omega)]; exact a4, by rw [h _ (by omega)]; exact a5, by rw [h _ (by omega)]; exact a6, by rw [h _ (by omega)]; exact a7, by rw [h _ (by omega)]; exact a8, fun k hk => by rw [h _ (by omega)]; exact a9 k hk, a10, fun i e he => ?_⟩
  have hi : i < s.2.1.length := by
    rcases Nat.lt_or_ge i s.2.1.length with z | z
    · exact z
    · rw [List.getElem?_eq_none z] at he; cases he
  rw [h _ (by omega), h _ (by omega), h _ (by omega)]
  exact a11 i e he
/-- the row is aside, and the thought begins with it -/
theorem th_of {μ0 : mm_U} (R : RepM s μ0 m) : RepM s (mu μ0 (m + 2) (cpR (μ0 (m + 1)) (μ0 (m + 2)) 0 0 1786)) m := by
  refine ⟨?_, ?_⟩
  · rw [mu_n _ _ (by omega)]; exact R.1
  · rw [mu_n _ _ (by omega), mu_n _ _ (by omega)]; exact R.2
/-- a thought ends: all is as it was -/
theorem th_end {μ2 : mm_U} {v : Int32} (R : RepM s (mu μ m (upd (μ m) 0 (nI 0))) m) (J : Inv s.1) (g0 : μ m 7 = nI 0) (F : RS (mu (mu μ m (upd (μ m) 0 (nI 0))) (m + 2) (cpR ((mu μ m (upd (μ m) 0 (nI 0))) (m + 1)) ((mu μ m (upd (μ m) 0 (nI 0))) (m + 2)) 0 0 1786)) μ2 m) (h7 : μ2 m 7 = nI 0) : MT m μ (v, s) (some (.int v)) (mu μ2 (m + 1) (cpR (μ2 (m + 2)) (μ2 (m + 1)) 0 0 1786)) := by
  have e2 : μ2 (m + 2) = cpR ((mu μ m (upd (μ m) 0 (nI 0))) (m + 1)) ((mu μ m (upd (μ m) 0 (nI 0))) (m + 2)) 0 0 1786 := by rw [F.1 (m + 2) (by omega) (by omega), mu_s]
  have row : ∀ k, k < 1786 → cpR (μ2 (m + 2)) (μ2 (m + 1)) 0 0 1786 k = (mu μ m (upd (μ m) 0 (nI 0))) (m + 1) k := fun k hk => by
    rw [e2]
    unfold cpR
    rw [if_pos (by omega), if_pos (by omega)]
    congr 1
    omega
  refine ⟨rfl, ⟨?_, ?_⟩, J, ?_, ?_, fun a h1 h2 => ?_⟩
  · rw [mu_s]
    exact R.1.cg (fun k _ hk => row k (by omega))
  · rw [mu_s, mu_n _ _ (by omega), h7]
    have q := R.2
    rw [show (mu μ m (upd (μ m) 0 (nI 0))) m 7 = nI 0 by rw [mu_s, upd_n _ _ (by omega)]; exact g0] at q
    exact q.cgb row
  · rw [mu_n _ _ (by omega)]; exact h7
  · rw [mu_n _ _ (by omega), F.2 0 (by omega) (by omega), mu_n _ _ (by omega), mu_s, upd_s]
  · rw [mu_n _ _ (by omega), F.1 a (by omega) (by omega), mu_n _ _ (by omega), mu_n _ _ (by omega)]
/-- STEPS -/
theorem m_steps (O : MoSh sh m) (R : RepM s μ m) (J : Inv s.1) (g0 : μ m 7 = nI 0) (x : Int32) : cl sh zX6_steps [.ref m, .int x] μ (MT m μ (a_steps s x)) := by
  have R0 := R.mu0 (nI 0)
  have g1 : (mu μ m (upd (μ m) 0 (nI 0))) m 7 = nI 0 := by rw [mu_s, upd_n _ _ (by omega)]; exact g0
  show wp sh zX6_steps 0 [.ref m, .int x, .null, .null] [] μ _
  unfold a_steps
  by_cases h : x < nI 1 ∨ nI 50 < x
  · have E : mm_isin x.toInt64 1 50 = nI 0 := isin_o (a := nI 1) (b := nI 50) rfl rfl h
    rw [if_pos h]
    generalize hv : (((-1 : Int32), fRf s 0) : Int32 × Fo) = v
    generalize hq : MT m μ v = QQ
    simp (disch := first | omega | assumption) only [mm_op_some, true_and, and_true, mm_rc_some, mm_rc_none, pk_mul, nI_add, mm_in_t, nI_clamp, ok0, ok1, ok2, ok3, ok4, n1_0, n0_0, nI_le_, nI_lt_, if_true, if_false, not_true, not_false_eq_true, ce_lt, ce_cl, hf_lt, hf_cl, n0_zz, n1_zz, bI_f, bI_t, wp_al0 (y := zX6_steps) dX6_steps_0, wp_iconst (y := zX6_steps) (nI 0) ki_0 dX6_steps_1, wp_putf (y := zX6_steps) kF6_44 rfl dX6_steps_2, wp_il1 (y := zX6_steps) dX6_steps_5, wp_i2l (y := zX6_steps) dX6_steps_6, wp_lconst (y := zX6_steps) (1) kl_1 dX6_steps_7, wp_ldc2 (y := zX6_steps) kL6_226 dX6_steps_8, wp_in (y := zX6_steps) rfl kP6_48 (by decide) dX6_steps_11, wp_if_ne (y := zX6_steps) 23 (by decide) dX6_steps_14, wp_al0 (y := zX6_steps) dX6_steps_17, wp_iconst (y := zX6_steps) ((-1)) ki_m1 dX6_steps_18, wp_cv1 (y := zX6_steps) kM6_72 (by decide) dX6_steps_19, (show yo zX6_refuse = 6 from rfl), O.oc, O.g0, O.g1, O.g2, O.g3, O.g4, O.g5, O.g6, O.g7, O.g9, O.g10, O.g11, O.p0, O.p7, O.a1, O.a2, O.a3, O.a4, O.a5, O.a6, O.a7, O.a8, O.a9, E]
    refine cl_mono (m_ref1 O R0) ?_
    rintro r μ1 ⟨rfl, R1, F1⟩
    simp (disch := first | omega | assumption) only [mm_op_some, true_and, and_true, mm_rc_some, mm_rc_none, pk_mul, nI_add, mm_in_t, nI_clamp, ok0, ok1, ok2, ok3, ok4, n1_0, n0_0, nI_le_, nI_lt_, if_true, if_false, not_true, not_false_eq_true, ce_lt, ce_cl, hf_lt, hf_cl, wp_ireti (y := zX6_steps) rfl dX6_steps_22]
    rw [← hq, ← hv]
    exact mt_ro g0 rfl F1 rfl R1 J
  · have E : mm_isin x.toInt64 1 50 = nI 1 := isin_i (a := nI 1) (b := nI 50) rfl rfl h
    rw [if_neg h]
    obtain ⟨n, hn, rfl⟩ : ∃ n, n ≤ 50 ∧ x = nI n := by
      rcases pk_ix x (n := 51) (by decide) with z | z | ⟨j, hj, rfl⟩
      · refine absurd (Or.inl ?_) h
        rw [Int32.lt_iff_toInt_lt] at z ⊢
        have e0 : (0 : Int32).toInt = 0 := rfl
        have e1 : (nI 1).toInt = 1 := rfl
        omega
      · refine absurd (Or.inr ?_) h
        rw [Int32.lt_iff_toInt_lt]
        rw [Int32.le_iff_toInt_le, nI_toInt (by decide)] at z
        rw [nI_toInt (by decide)]
        omega
      · exact ⟨j, by omega, rfl⟩
    rw [nI_clamp (by omega)]
    have i4 : (mm_in (nI 4) 1786 = true) = True := mm_in_t (by decide) (by decide)
    have c4 : (nI 4).toNatClampNeg = 4 := rfl
    have i5 : (mm_in (nI 5) 1786 = true) = True := mm_in_t (by decide) (by decide)
    have c5 : (nI 5).toNatClampNeg = 5 := rfl
    have f4 : ∀ {t : Fo} {ν : mm_U}, RepM t ν m → ν (m + 1) 4 = t.2.2.2 7 := fun r => r.2.2.2.2.2.1
    have f5 : ∀ {t : Fo} {ν : mm_U}, RepM t ν m → ν (m + 1) 5 = t.2.2.2 8 := fun r => r.2.2.2.2.2.2.1
    have e4 := f4 R0
    have e5 := f5 R0
    have fin : ∀ μ', RepM (goK n s) μ' m → Inv (goK n s).1 → RM (mu μ m (upd (μ m) 0 (nI 0))) μ' m → μ' m 7 = nI 0 → MT m μ ((goK n s).2.2.2 7 + (goK n s).2.2.2 8 - (s.2.2.2 7 + s.2.2.2 8), goK n s) (some (.int ((goK n s).2.2.2 7 + (goK n s).2.2.2 8 - (s.2.2.2 7 + s.2.2.2 8)))) μ' := fun μ' R1 JB F1 h7 => mt_of g0 rfl F1.rs (h7.trans g1.symm) rfl R1 JB
    generalize MT m μ ((goK n s).2.2.2 7 + (goK n s).2.2.2 8 - (s.2.2.2 7 + s.2.2.2 8), goK n s) = QQ at fin ⊢
    simp (disch := first | omega | assumption) only [mm_op_some, true_and, and_true, mm_rc_some, mm_rc_none, pk_mul, nI_add, mm_in_t, nI_clamp, ok0, ok1, ok2, ok3, ok4, n1_0, n0_0, nI_le_, nI_lt_, if_true, if_false, not_true, not_false_eq_true, ce_lt, ce_cl, hf_lt, hf_cl, n0_zz, n1_zz, wp_al0 (y := zX6_steps) dX6_steps_0, wp_iconst (y := zX6_steps) (nI 0) ki_0 dX6_steps_1, wp_putf (y := zX6_steps) kF6_44 rfl dX6_steps_2, wp_il1 (y := zX6_steps) dX6_steps_5, wp_i2l (y := zX6_steps) dX6_steps_6, wp_lconst (y := zX6_steps) (1) kl_1 dX6_steps_7, wp_ldc2 (y := zX6_steps) kL6_226 dX6_steps_8, wp_in (y := zX6_steps) rfl kP6_48 (by decide) dX6_steps_11, wp_if_ne (y := zX6_steps) 23 (by decide) dX6_steps_14, wp_al0 (y := zX6_steps) dX6_steps_23, wp_getf (y := zX6_steps) kF6_9 dX6_steps_24, wp_iconst (y := zX6_steps) (nI 4) ki_4 dX6_steps_27, wp_iald (y := zX6_steps) dX6_steps_28, wp_al0 (y := zX6_steps) dX6_steps_29, wp_getf (y := zX6_steps) kF6_9 dX6_steps_30, wp_iconst (y := zX6_steps) (nI 5) ki_5 dX6_steps_33, wp_iald (y := zX6_steps) dX6_steps_34, wp_iadd (y := zX6_steps) dX6_steps_35, wp_is2 (y := zX6_steps) dX6_steps_36, wp_iconst (y := zX6_steps) (nI 0) ki_0 dX6_steps_37, wp_is3 (y := zX6_steps) dX6_steps_38, O.oc, O.g0, O.g1, O.g2, O.g3, O.g4, O.g5, O.g6, O.g7, O.g9, O.g10, O.g11, O.p0, O.p7, O.a1, O.a2, O.a3, O.a4, O.a5, O.a6, O.a7, O.a8, O.a9, E, i4, c4, e4, i5, c5, e5]
    have loop : ∀ d i μ1, i + d = n → RepM (goK i s) μ1 m → Inv (goK i s).1 → μ1 m 7 = nI 0 → RM (mu μ m (upd (μ m) 0 (nI 0))) μ1 m → wp sh zX6_steps 39 [.ref m, .int (nI n), .int (s.2.2.2 7 + s.2.2.2 8), .int (nI i)] [] μ1 QQ := by
      intro d
      induction d with
      | zero =>
        intro i μ1 hi R1 J1 h7 F1
        have e : i = n := by omega
        rw [e] at R1 J1 ⊢
        have u4 := f4 R1
        have u5 := f5 R1
        rw [wp_il3 (y := zX6_steps) dX6_steps_39]
        simp (disch := first | omega | assumption) only [mm_op_some, true_and, and_true, mm_rc_some, mm_rc_none, pk_mul, nI_add, mm_in_t, nI_clamp, ok0, ok1, ok2, ok3, ok4, n1_0, n0_0, nI_le_, nI_lt_, if_true, if_false, not_true, not_false_eq_true, ce_lt, ce_cl, hf_lt, hf_cl, wp_il1 (y := zX6_steps) dX6_steps_40, wp_icmp_ge (y := zX6_steps) 54 (by decide) dX6_steps_41, wp_al0 (y := zX6_steps) dX6_steps_54, wp_getf (y := zX6_steps) kF6_9 dX6_steps_55, wp_iconst (y := zX6_steps) (nI 4) ki_4 dX6_steps_58, wp_iald (y := zX6_steps) dX6_steps_59, wp_al0 (y := zX6_steps) dX6_steps_60, wp_getf (y := zX6_steps) kF6_9 dX6_steps_61, wp_iconst (y := zX6_steps) (nI 5) ki_5 dX6_steps_64, wp_iald (y := zX6_steps) dX6_steps_65, wp_iadd (y := zX6_steps) dX6_steps_66, wp_il2 (y := zX6_steps) dX6_steps_67, wp_isub (y := zX6_steps) dX6_steps_68, wp_ireti (y := zX6_steps) rfl dX6_steps_69, O.oc, O.g0, O.g1, O.g2, O.g3, O.g4, O.g5, O.g6, O.g7, O.g9, O.g10, O.g11, O.p0, O.p7, O.a1, O.a2, O.a3, O.a4, O.a5, O.a6, O.a7, O.a8, O.a9, Nat.le_refl, i4, c4, u4, i5, c5, u5]
        exact fin _ R1 J1 F1 h7
      | succ d ih =>
        intro i μ1 hi R1 J1 h7 F1
        have h9 : (n ≤ i) = False := eq_false (by omega)
        rw [wp_il3 (y := zX6_steps) dX6_steps_39]
        simp (disch := first | omega | assumption) only [mm_op_some, true_and, and_true, mm_rc_some, mm_rc_none, pk_mul, nI_add, mm_in_t, nI_clamp, ok0, ok1, ok2, ok3, ok4, n1_0, n0_0, nI_le_, nI_lt_, if_true, if_false, not_true, not_false_eq_true, ce_lt, ce_cl, hf_lt, hf_cl, wp_il1 (y := zX6_steps) dX6_steps_40, wp_icmp_ge (y := zX6_steps) 54 (by decide) dX6_steps_41, wp_al0 (y := zX6_steps) dX6_steps_44, wp_cv0 (y := zX6_steps) kM6_228 (by decide) dX6_steps_45, (show yo zX6_step = 6 from rfl), O.oc, O.g0, O.g1, O.g2, O.g3, O.g4, O.g5, O.g6, O.g7, O.g9, O.g10, O.g11, O.p0, O.p7, O.a1, O.a2, O.a3, O.a4, O.a5, O.a6, O.a7, O.a8, O.a9, h9]
        refine cl_mono (m_step O R1 J1 h7) ?_
        rintro r μ2 ⟨rfl, ⟨R2, J2, h72⟩, F2⟩
        simp (disch := first | omega | assumption) only [mm_op_some, true_and, and_true, mm_rc_some, mm_rc_none, pk_mul, nI_add, mm_in_t, nI_clamp, ok0, ok1, ok2, ok3, ok4, n1_0, n0_0, nI_le_, nI_lt_, if_true, if_false, not_true, not_false_eq_true, ce_lt, ce_cl, hf_lt, hf_cl, wp_inc3 (y := zX6_steps) (nI 1) ki_1 dX6_steps_48, wp_goto (y := zX6_steps) 39 (by decide) dX6_steps_51, O.oc, O.g0, O.g1, O.g2, O.g3, O.g4, O.g5, O.g6, O.g7, O.g9, O.g10, O.g11, O.p0, O.p7, O.a1, O.a2, O.a3, O.a4, O.a5, O.a6, O.a7, O.a8, O.a9]
        rw [← goK_s] at R2 J2
        exact ih (i + 1) μ2 (by omega) R2 J2 h72 (F1.trans F2)
    exact loop n 0 _ (by omega) R0 J g1 (RM.refl _ _)
/-- SHAKE -/
theorem m_shake (O : MoSh sh m) (R : RepM s μ m) (J : Inv s.1) (g0 : μ m 7 = nI 0) (x y z : Int32) : cl sh zX6_shake [.ref m, .int x, .int y, .int z] μ (MT m μ (a_shake s x y z)) := by
  have R0 := R.mu0 (nI 0)
  have g1 : (mu μ m (upd (μ m) 0 (nI 0))) m 7 = nI 0 := by rw [mu_s, upd_n _ _ (by omega)]; exact g0
  show wp sh zX6_shake 0 [.ref m, .int x, .int y, .int z] [] μ _
  unfold a_shake
  by_cases h : x < 0 ∨ nI 999999 < x
  · have E : mm_isin x.toInt64 0 999999 = nI 0 := isin_o (a := 0) (b := nI 999999) rfl rfl h
    rw [if_pos (by rcases h with h | h <;> simp only [h, true_or, or_true])]
    generalize hv : (((-1 : Int32), fRf s 0) : Int32 × Fo) = v
    generalize hq : MT m μ v = QQ
    simp (disch := first | omega | assumption) only [mm_op_some, true_and, and_true, mm_rc_some, mm_rc_none, pk_mul, nI_add, mm_in_t, nI_clamp, ok0, ok1, ok2, ok3, ok4, n1_0, n0_0, nI_le_, nI_lt_, if_true, if_false, not_true, not_false_eq_true, ce_lt, ce_cl, hf_lt, hf_cl, n0_zz, n1_zz, bI_f, bI_t, wp_al0 (y := zX6_shake) dX6_shake_0, wp_iconst (y := zX6_shake) (nI 0) ki_0 dX6_shake_1, wp_putf (y := zX6_shake) kF6_44 rfl dX6_shake_2, wp_il1 (y := zX6_shake) dX6_shake_5, wp_i2l (y := zX6_shake) dX6_shake_6, wp_lconst (y := zX6_shake) (0) kl_0 dX6_shake_7, wp_ldc2 (y := zX6_shake) kL6_212 dX6_shake_8, wp_in (y := zX6_shake) rfl kP6_48 (by decide) dX6_shake_11, wp_if_eq (y := zX6_shake) 51 (by decide) dX6_shake_14, wp_al0 (y := zX6_shake) dX6_shake_51, wp_iconst (y := zX6_shake) ((-1)) ki_m1 dX6_shake_52, wp_cv1 (y := zX6_shake) kM6_72 (by decide) dX6_shake_53, (show yo zX6_refuse = 6 from rfl), O.oc, O.g0, O.g1, O.g2, O.g3, O.g4, O.g5, O.g6, O.g7, O.g9, O.g10, O.g11, O.p0, O.p7, O.a1, O.a2, O.a3, O.a4, O.a5, O.a6, O.a7, O.a8, O.a9, E]
    refine cl_mono (m_ref1 O R0) ?_
    rintro r μ1 ⟨rfl, R1, F1⟩
    simp (disch := first | omega | assumption) only [mm_op_some, true_and, and_true, mm_rc_some, mm_rc_none, pk_mul, nI_add, mm_in_t, nI_clamp, ok0, ok1, ok2, ok3, ok4, n1_0, n0_0, nI_le_, nI_lt_, if_true, if_false, not_true, not_false_eq_true, ce_lt, ce_cl, hf_lt, hf_cl, wp_ireti (y := zX6_shake) rfl dX6_shake_56]
    rw [← hq, ← hv]
    exact mt_ro g0 rfl F1 rfl R1 J
  have E1 : mm_isin x.toInt64 0 999999 = nI 1 := isin_i (a := 0) (b := nI 999999) rfl rfl h
  by_cases h2 : y < nI 1 ∨ nI 99 < y
  · have E2 : mm_isin y.toInt64 1 99 = nI 0 := isin_o (a := nI 1) (b := nI 99) rfl rfl h2
    rw [if_pos (by rcases h2 with h | h <;> simp only [h, true_or, or_true])]
    generalize hv : (((-1 : Int32), fRf s 0) : Int32 × Fo) = v
    generalize hq : MT m μ v = QQ
    simp (disch := first | omega | assumption) only [mm_op_some, true_and, and_true, mm_rc_some, mm_rc_none, pk_mul, nI_add, mm_in_t, nI_clamp, ok0, ok1, ok2, ok3, ok4, n1_0, n0_0, nI_le_, nI_lt_, if_true, if_false, not_true, not_false_eq_true, ce_lt, ce_cl, hf_lt, hf_cl, n0_zz, n1_zz, bI_f, bI_t, wp_al0 (y := zX6_shake) dX6_shake_0, wp_iconst (y := zX6_shake) (nI 0) ki_0 dX6_shake_1, wp_putf (y := zX6_shake) kF6_44 rfl dX6_shake_2, wp_il1 (y := zX6_shake) dX6_shake_5, wp_i2l (y := zX6_shake) dX6_shake_6, wp_lconst (y := zX6_shake) (0) kl_0 dX6_shake_7, wp_ldc2 (y := zX6_shake) kL6_212 dX6_shake_8, wp_in (y := zX6_shake) rfl kP6_48 (by decide) dX6_shake_11, wp_if_eq (y := zX6_shake) 51 (by decide) dX6_shake_14, wp_il2 (y := zX6_shake) dX6_shake_17, wp_i2l (y := zX6_shake) dX6_shake_18, wp_lconst (y := zX6_shake) (1) kl_1 dX6_shake_19, wp_ldc2 (y := zX6_shake) kL6_145 dX6_shake_20, wp_in (y := zX6_shake) rfl kP6_48 (by decide) dX6_shake_23, wp_if_eq (y := zX6_shake) 51 (by decide) dX6_shake_26, wp_al0 (y := zX6_shake) dX6_shake_51, wp_iconst (y := zX6_shake) ((-1)) ki_m1 dX6_shake_52, wp_cv1 (y := zX6_shake) kM6_72 (by decide) dX6_shake_53, (show yo zX6_refuse = 6 from rfl), O.oc, O.g0, O.g1, O.g2, O.g3, O.g4, O.g5, O.g6, O.g7, O.g9, O.g10, O.g11, O.p0, O.p7, O.a1, O.a2, O.a3, O.a4, O.a5, O.a6, O.a7, O.a8, O.a9, E1, E2]
    refine cl_mono (m_ref1 O R0) ?_
    rintro r μ1 ⟨rfl, R1, F1⟩
    simp (disch := first | omega | assumption) only [mm_op_some, true_and, and_true, mm_rc_some, mm_rc_none, pk_mul, nI_add, mm_in_t, nI_clamp, ok0, ok1, ok2, ok3, ok4, n1_0, n0_0, nI_le_, nI_lt_, if_true, if_false, not_true, not_false_eq_true, ce_lt, ce_cl, hf_lt, hf_cl, wp_ireti (y := zX6_shake) rfl dX6_shake_56]
    rw [← hq, ← hv]
    exact mt_ro g0 rfl F1 rfl R1 J
  have E2 : mm_isin y.toInt64 1 99 = nI 1 := isin_i (a := nI 1) (b := nI 99) rfl rfl h2
  by_cases h3 : z < 0 ∨ nI 99 < z
  · have E3 : mm_isin z.toInt64 0 99 = nI 0 := isin_o (a := 0) (b := nI 99) rfl rfl h3
    rw [if_pos (by rcases h3 with h | h <;> simp only [h, true_or, or_true])]
    generalize hv : (((-1 : Int32), fRf s 0) : Int32 × Fo) = v
    generalize hq : MT m μ v = QQ
    simp (disch := first | omega | assumption) only [mm_op_some, true_and, and_true, mm_rc_some, mm_rc_none, pk_mul, nI_add, mm_in_t, nI_clamp, ok0, ok1, ok2, ok3, ok4, n1_0, n0_0, nI_le_, nI_lt_, if_true, if_false, not_true, not_false_eq_true, ce_lt, ce_cl, hf_lt, hf_cl, n0_zz, n1_zz, bI_f, bI_t, wp_al0 (y := zX6_shake) dX6_shake_0, wp_iconst (y := zX6_shake) (nI 0) ki_0 dX6_shake_1, wp_putf (y := zX6_shake) kF6_44 rfl dX6_shake_2, wp_il1 (y := zX6_shake) dX6_shake_5, wp_i2l (y := zX6_shake) dX6_shake_6, wp_lconst (y := zX6_shake) (0) kl_0 dX6_shake_7, wp_ldc2 (y := zX6_shake) kL6_212 dX6_shake_8, wp_in (y := zX6_shake) rfl kP6_48 (by decide) dX6_shake_11, wp_if_eq (y := zX6_shake) 51 (by decide) dX6_shake_14, wp_il2 (y := zX6_shake) dX6_shake_17, wp_i2l (y := zX6_shake) dX6_shake_18, wp_lconst (y := zX6_shake) (1) kl_1 dX6_shake_19, wp_ldc2 (y := zX6_shake) kL6_145 dX6_shake_20, wp_in (y := zX6_shake) rfl kP6_48 (by decide) dX6_shake_23, wp_if_eq (y := zX6_shake) 51 (by decide) dX6_shake_26, wp_il3 (y := zX6_shake) dX6_shake_29, wp_i2l (y := zX6_shake) dX6_shake_30, wp_lconst (y := zX6_shake) (0) kl_0 dX6_shake_31, wp_ldc2 (y := zX6_shake) kL6_145 dX6_shake_32, wp_in (y := zX6_shake) rfl kP6_48 (by decide) dX6_shake_35, wp_if_eq (y := zX6_shake) 51 (by decide) dX6_shake_38, wp_al0 (y := zX6_shake) dX6_shake_51, wp_iconst (y := zX6_shake) ((-1)) ki_m1 dX6_shake_52, wp_cv1 (y := zX6_shake) kM6_72 (by decide) dX6_shake_53, (show yo zX6_refuse = 6 from rfl), O.oc, O.g0, O.g1, O.g2, O.g3, O.g4, O.g5, O.g6, O.g7, O.g9, O.g10, O.g11, O.p0, O.p7, O.a1, O.a2, O.a3, O.a4, O.a5, O.a6, O.a7, O.a8, O.a9, E1, E2, E3]
    refine cl_mono (m_ref1 O R0) ?_
    rintro r μ1 ⟨rfl, R1, F1⟩
    simp (disch := first | omega | assumption) only [mm_op_some, true_and, and_true, mm_rc_some, mm_rc_none, pk_mul, nI_add, mm_in_t, nI_clamp, ok0, ok1, ok2, ok3, ok4, n1_0, n0_0, nI_le_, nI_lt_, if_true, if_false, not_true, not_false_eq_true, ce_lt, ce_cl, hf_lt, hf_cl, wp_ireti (y := zX6_shake) rfl dX6_shake_56]
    rw [← hq, ← hv]
    exact mt_ro g0 rfl F1 rfl R1 J
  have E3 : mm_isin z.toInt64 0 99 = nI 1 := isin_i (a := 0) (b := nI 99) rfl rfl h3
  rw [if_neg (by
    rintro (t | t | t | t | t | t)
    · exact h (Or.inl t)
    · exact h (Or.inr t)
    · exact h2 (Or.inl t)
    · exact h2 (Or.inr t)
    · exact h3 (Or.inl t)
    · exact h3 (Or.inr t))]
  have rng : ∀ (u : Int32) (N : Nat), N < 2 ^ 30 → ¬ u < 0 → ¬ nI N < u → ∃ k, k ≤ N ∧ u = nI k := fun u N hN u1 u2 => by
    rcases pk_ix u (n := N + 1) (by omega) with t | t | ⟨j, hj, rfl⟩
    · exact absurd t u1
    · refine absurd ?_ u2
      rw [Int32.lt_iff_toInt_lt]
      rw [Int32.le_iff_toInt_le, nI_toInt (by omega)] at t
      rw [nI_toInt (by omega)]
      omega
    · exact ⟨j, by omega, rfl⟩
  obtain ⟨seed, hs, rfl⟩ := rng x 999999 (by decide) (fun t => h (Or.inl t)) (fun t => h (Or.inr t))
  obtain ⟨n, hn, rfl⟩ := rng y 99 (by decide) (fun t => h2 (Or.inl (by
    rw [Int32.lt_iff_toInt_lt] at t ⊢
    have e0 : (0 : Int32).toInt = 0 := rfl
    have e1 : (nI 1).toInt = 1 := rfl
    omega))) (fun t => h2 (Or.inr t))
  rw [nI_clamp (by omega), nI_clamp (by omega)]
  have fin : ∀ μ', RepM (jlF z n seed s).2.2 μ' m → Inv (jlF z n seed s).2.2.1 → RS (mu μ m (upd (μ m) 0 (nI 0))) μ' m → μ' m 7 = (mu μ m (upd (μ m) 0 (nI 0))) m 7 → MT m μ (nI (jlF z n seed s).2.1, (jlF z n seed s).2.2) (some (.int (nI (jlF z n seed s).2.1))) μ' := fun μ' R1 JB F1 h7 => mt_of g0 rfl F1 h7 rfl R1 JB
  generalize MT m μ (nI (jlF z n seed s).2.1, (jlF z n seed s).2.2) = QQ at fin ⊢
  simp (disch := first | omega | assumption) only [mm_op_some, true_and, and_true, mm_rc_some, mm_rc_none, pk_mul, nI_add, mm_in_t, nI_clamp, ok0, ok1, ok2, ok3, ok4, n1_0, n0_0, nI_le_, nI_lt_, if_true, if_false, not_true, not_false_eq_true, ce_lt, ce_cl, hf_lt, hf_cl, n0_zz, n1_zz, wp_al0 (y := zX6_shake) dX6_shake_0, wp_iconst (y := zX6_shake) (nI 0) ki_0 dX6_shake_1, wp_putf (y := zX6_shake) kF6_44 rfl dX6_shake_2, wp_il1 (y := zX6_shake) dX6_shake_5, wp_i2l (y := zX6_shake) dX6_shake_6, wp_lconst (y := zX6_shake) (0) kl_0 dX6_shake_7, wp_ldc2 (y := zX6_shake) kL6_212 dX6_shake_8, wp_in (y := zX6_shake) rfl kP6_48 (by decide) dX6_shake_11, wp_if_eq (y := zX6_shake) 51 (by decide) dX6_shake_14, wp_il2 (y := zX6_shake) dX6_shake_17, wp_i2l (y := zX6_shake) dX6_shake_18, wp_lconst (y := zX6_shake) (1) kl_1 dX6_shake_19, wp_ldc2 (y := zX6_shake) kL6_145 dX6_shake_20, wp_in (y := zX6_shake) rfl kP6_48 (by decide) dX6_shake_23, wp_if_eq (y := zX6_shake) 51 (by decide) dX6_shake_26, wp_il3 (y := zX6_shake) dX6_shake_29, wp_i2l (y := zX6_shake) dX6_shake_30, wp_lconst (y := zX6_shake) (0) kl_0 dX6_shake_31, wp_ldc2 (y := zX6_shake) kL6_145 dX6_shake_32, wp_in (y := zX6_shake) rfl kP6_48 (by decide) dX6_shake_35, wp_if_eq (y := zX6_shake) 51 (by decide) dX6_shake_38, wp_al0 (y := zX6_shake) dX6_shake_41, wp_il1 (y := zX6_shake) dX6_shake_42, wp_il2 (y := zX6_shake) dX6_shake_43, wp_il3 (y := zX6_shake) dX6_shake_44, wp_cv3 (y := zX6_shake) kM6_214 (by decide) dX6_shake_45, (show yo zX6_shakes = 6 from rfl), O.oc, O.g0, O.g1, O.g2, O.g3, O.g4, O.g5, O.g6, O.g7, O.g9, O.g10, O.g11, O.p0, O.p7, O.a1, O.a2, O.a3, O.a4, O.a5, O.a6, O.a7, O.a8, O.a9, E1, E2, E3]
  refine cl_mono (m_shakes O R0 J seed n z (by omega) (by omega)) ?_
  rintro r μ1 ⟨rfl, ⟨R1, JB⟩, F1, h7⟩
  simp (disch := first | omega | assumption) only [mm_op_some, true_and, and_true, mm_rc_some, mm_rc_none, pk_mul, nI_add, mm_in_t, nI_clamp, ok0, ok1, ok2, ok3, ok4, n1_0, n0_0, nI_le_, nI_lt_, if_true, if_false, not_true, not_false_eq_true, ce_lt, ce_cl, hf_lt, hf_cl, wp_goto (y := zX6_shake) 56 (by decide) dX6_shake_48, wp_ireti (y := zX6_shake) rfl dX6_shake_56]
  exact fin _ R1 JB F1 h7
end MTH
