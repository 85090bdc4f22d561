section MRE
variable {sh : mm_Sh} {m : Nat} {M N : Ms} {μ : mm_U} {s : Fo} {Q : Option Value → mm_U → Prop}
theorem stn_N (J : Inv M) : stn M = nI (stN M) := by
  have key : ∀ n, n ≤ 48 → it (fun i a => if 0 < sd M (cI i) then a + tn M (cI i) * tn M (cI i) else a) n 0 (nI 0) = nI (sm n (stf M)) := by
    intro n
    induction n with
    | zero => intro _; rfl
    | succ n ih =>
      intro hn
      rw [it_last0, ih (by omega)]
      show _ = nI (sm n (stf M) + stf M n)
      by_cases h : 0 < sd M (cI n)
      · have b := J.sdb (cI n)
        have q : ∀ k : Fin 289, (nI 6 - nI k.val) * (nI 6 - nI k.val) = nI (qn k.val) := by decide +kernel
        have e : tn M (cI n) * tn M (cI n) = nI (qn (sd M (cI n))) := q ⟨sd M (cI n), by omega⟩
        have f : stf M n = qn (sd M (cI n)) := if_pos h
        rw [if_pos h, e, f]
        exact nI_add _ _
      · have f : stf M n = 0 := if_neg h
        rw [if_neg h, f, Nat.add_zero]
  exact key 48 (Nat.le_refl _)
theorem stn_nn (J : Inv M) : 0 ≤ (stn M).toInt := by
  have := J.stN_le
  rw [stn_N J, nI_toInt (by omega)]
  omega
theorem re_bad {seed many n h what : Int32} (z : (many < nI 1 ∨ nI 10 < many) ∨ nI 999999 - (many - nI 1) < seed ∨ (seed < 0 ∨ nI 999999 < seed) ∨ (n < nI 1 ∨ nI 99 < n) ∨ (h < 0 ∨ nI 99 < h) ∨ what < 0 ∨ nI 1 < what) : a_rested s seed many n h what = -1 := by
  unfold a_rested
  split
  · rename_i hk
    have hk := of_decide_eq_true hk
    split
    · rfl
    · rename_i h2
      split
      · rfl
      · rename_i h3
        exfalso
        rcases z with z | z | z | z | z | z
        · exact h2 (z.elim Or.inl (fun z => Or.inr (Or.inl z)))
        · exact h3 z
        · exact hk (z.elim Or.inl (fun z => Or.inr (Or.inl z)))
        · exact hk (Or.inr (Or.inr (z.elim Or.inl (fun z => Or.inr (Or.inl z)))))
        · exact hk (Or.inr (Or.inr (Or.inr (Or.inr z))))
        · exact h2 (Or.inr (Or.inr z))
  · rfl
theorem th_back {μ0 μ2 : mm_U} (R : RepM s μ0 m) (g0 : μ0 m 7 = nI 0) (F : RS (mu μ0 (m + 2) (cpR (μ0 (m + 1)) (μ0 (m + 2)) 0 0 1786)) μ2 m) (h7 : μ2 m 7 = nI 0) : RepM s (mu μ2 (m + 1) (cpR (μ2 (m + 2)) (μ2 (m + 1)) 0 0 1786)) m ∧ RS (mu μ0 (m + 2) (cpR (μ0 (m + 1)) (μ0 (m + 2)) 0 0 1786)) (mu μ2 (m + 1) (cpR (μ2 (m + 2)) (μ2 (m + 1)) 0 0 1786)) m ∧ mu μ2 (m + 1) (cpR (μ2 (m + 2)) (μ2 (m + 1)) 0 0 1786) m 7 = nI 0 := by
  have e2 : μ2 (m + 2) = cpR (μ0 (m + 1)) (μ0 (m + 2)) 0 0 1786 := by rw [F.1 (m + 2) (by omega) (by omega), mu_s]
  have row : ∀ k, k < 1786 → cpR (μ2 (m + 2)) (μ2 (m + 1)) 0 0 1786 k = μ0 (m + 1) k := fun k hk => by
    rw [e2]
    unfold cpR
    rw [if_pos (by omega), if_pos (by omega)]
    congr 1
    omega
  refine ⟨⟨?_, ?_⟩, ⟨fun a h1 h2 => ?_, fun k h1 h2 => ?_⟩, ?_⟩
  · rw [mu_s]
    exact R.1.cg (fun k _ hk => row k (by omega))
  · rw [mu_s, mu_n _ _ (by omega), h7]
    have q := R.2
    rw [g0] at q
    exact q.cgb row
  · rw [mu_n _ _ h2]; exact F.1 a h1 h2
  · rw [mu_n _ _ (by omega)]; exact F.2 k h1 h2
  · rw [mu_n _ _ (by omega)]; exact h7
theorem m_rested (O : MoSh sh m) (R : RepM s μ m) (J : Inv s.1) (g0 : μ m 7 = nI 0) (seed many n h what : Int32) : cl sh zX6_rested [.ref m, .int seed, .int many, .int n, .int h, .int what] μ (MT m μ (a_rested s seed many n h what, s)) := by
  have R0 := R.mu0 (nI 0)
  have g1 : (mu μ m (upd (μ m) 0 (nI 0))) m 7 = nI 0 := by rw [mu_s, upd_n _ _ (by omega)]; exact g0
  have E2 : ∀ Q', cl sh zX6_think [.ref m] (mu μ m (upd (μ m) 0 (nI 0))) Q' = Q' none (mu (mu μ m (upd (μ m) 0 (nI 0))) (m + 2) (cpR ((mu μ m (upd (μ m) 0 (nI 0))) (m + 1)) ((mu μ m (upd (μ m) 0 (nI 0))) (m + 2)) 0 0 1786)) := fun Q' => m_think O
  show wp sh zX6_rested 0 [.ref m, .int seed, .int many, .int n, .int h, .int what, .null, .null, .null] [] μ _
  by_cases hm : many < nI 1 ∨ nI 10 < many
  · have E : mm_isin many.toInt64 1 10 = nI 0 := isin_o (a := nI 1) (b := nI 10) rfl rfl hm
    rw [show a_rested s seed many n h what = -1 from re_bad (Or.inl hm)]
    have fin : MT m μ ((-1 : Int32), s) (some (.int (-1))) (mu μ m (upd (μ m) 0 (nI 0))) := mt_ro g0 rfl (RO.refl _ _) rfl R0 J
    generalize MT m μ ((-1 : Int32), s) = QQ at fin ⊢
    simp (disch := first | omega | assumption) only [mm_op_some, true_and, and_true, mm_rc_some, mm_rc_none, pk_mul, nI_add, mm_in_t, nI_clamp, ok0, ok1, ok2, ok3, ok4, n1_0, n0_0, nI_le_, nI_lt_, if_true, if_false, not_true, not_false_eq_true, ce_lt, ce_cl, hf_lt, hf_cl, n0_zz, n1_zz, wp_al0 (y := zX6_rested) dX6_rested_0, wp_iconst (y := zX6_rested) (nI 0) ki_0 dX6_rested_1, wp_putf (y := zX6_rested) kF6_44 rfl dX6_rested_2, wp_il2 (y := zX6_rested) dX6_rested_5, wp_i2l (y := zX6_rested) dX6_rested_6, wp_lconst (y := zX6_rested) (1) kl_1 dX6_rested_7, wp_ldc2 (y := zX6_rested) kL6_320 dX6_rested_8, wp_in (y := zX6_rested) rfl kP6_48 (by decide) dX6_rested_11, wp_if_eq (y := zX6_rested) 68 (by decide) dX6_rested_14, wp_iconst (y := zX6_rested) ((-1)) ki_m1 dX6_rested_68, wp_ireti (y := zX6_rested) rfl dX6_rested_69, O.oc, O.g0, O.g1, O.g2, O.g3, O.g4, O.g5, O.g6, O.g7, O.g9, O.g10, O.g11, O.p0, O.p7, O.a1, O.a2, O.a3, O.a4, O.a5, O.a6, O.a7, O.a8, O.a9, E]
    exact fin
  have EM : mm_isin many.toInt64 1 10 = nI 1 := isin_i (a := nI 1) (b := nI 10) rfl rfl hm
  have rng : ∀ (u : Int32) (N : Nat), N < 2 ^ 30 → ¬ u < 0 → ¬ nI N < u → ∃ k, k ≤ N ∧ u = nI k := fun u N hN u1 u2 => by
    rcases pk_ix u (n := N + 1) (by omega) with t | t | ⟨j, hj, rfl⟩
    · exact absurd t u1
    · refine absurd ?_ u2
      rw [Int32.lt_iff_toInt_lt]
      rw [Int32.le_iff_toInt_le, nI_toInt (by omega)] at t
      rw [nI_toInt (by omega)]
      omega
    · exact ⟨j, by omega, rfl⟩
  have pos1 : ∀ u : Int32, ¬ u < nI 1 → ¬ u < 0 := fun u a b => a (by
    rw [Int32.lt_iff_toInt_lt] at b ⊢
    have e0 : (0 : Int32).toInt = 0 := rfl
    have e1 : (nI 1).toInt = 1 := rfl
    omega)
  obtain ⟨km, hkm, rfl⟩ := rng many 10 (by decide) (pos1 _ (fun t => hm (Or.inl t))) (fun t => hm (Or.inr t))
  have km1 : 1 ≤ km := by
    rcases Nat.eq_zero_or_pos km with z | z
    · exact absurd (Or.inl (by rw [z]; decide)) hm
    · exact z
  have hh1 : ((1000000 : Int64) - (nI km).toInt64).toInt = 1000000 - km := by
    rw [Int64.toInt_sub, Int32.toInt_toInt64, nI_toInt (by omega)]
    have e1 : (1000000 : Int64).toInt = 1000000 := rfl
    rw [e1, Int.bmod_def]
    omega
  have em1 : nI 999999 - (nI km - nI 1) = nI (1000000 - km) := by
    have e : nI km - nI 1 = nI (km - 1) := pk_sub (by omega)
    rw [e, show nI 999999 - nI (km - 1) = nI (999999 - (km - 1)) from pk_sub (by omega), show 999999 - (km - 1) = 1000000 - km by omega]
  have z0 : (0 : Int64).toInt = 0 := rfl
  have ez : (0 : Int32).toInt = 0 := rfl
  by_cases hs : seed < 0 ∨ nI (1000000 - km) < seed
  · have E : mm_isin seed.toInt64 0 ((1000000 : Int64) - (nI km).toInt64) = nI 0 := isin_f (fun q => by
      rw [hh1, z0] at q
      rcases hs with t | t
      · rw [Int32.lt_iff_toInt_lt, ez] at t; omega
      · rw [Int32.lt_iff_toInt_lt, nI_toInt (by omega)] at t; omega)
    rw [show a_rested s seed (nI km) n h what = -1 from re_bad (hs.elim (fun t => Or.inr (Or.inr (Or.inl (Or.inl t)))) (fun t => Or.inr (Or.inl (by rw [em1]; exact t))))]
    have fin : MT m μ ((-1 : Int32), s) (some (.int (-1))) (mu μ m (upd (μ m) 0 (nI 0))) := mt_ro g0 rfl (RO.refl _ _) rfl R0 J
    generalize MT m μ ((-1 : Int32), s) = QQ at fin ⊢
    simp (disch := first | omega | assumption) only [mm_op_some, true_and, and_true, mm_rc_some, mm_rc_none, pk_mul, nI_add, mm_in_t, nI_clamp, ok0, ok1, ok2, ok3, ok4, n1_0, n0_0, nI_le_, nI_lt_, if_true, if_false, not_true, not_false_eq_true, ce_lt, ce_cl, hf_lt, hf_cl, n0_zz, n1_zz, wp_al0 (y := zX6_rested) dX6_rested_0, wp_iconst (y := zX6_rested) (nI 0) ki_0 dX6_rested_1, wp_putf (y := zX6_rested) kF6_44 rfl dX6_rested_2, wp_il2 (y := zX6_rested) dX6_rested_5, wp_i2l (y := zX6_rested) dX6_rested_6, wp_lconst (y := zX6_rested) (1) kl_1 dX6_rested_7, wp_ldc2 (y := zX6_rested) kL6_320 dX6_rested_8, wp_in (y := zX6_rested) rfl kP6_48 (by decide) dX6_rested_11, wp_if_eq (y := zX6_rested) 68 (by decide) dX6_rested_14, wp_il1 (y := zX6_rested) dX6_rested_17, wp_i2l (y := zX6_rested) dX6_rested_18, wp_lconst (y := zX6_rested) (0) kl_0 dX6_rested_19, wp_ldc2 (y := zX6_rested) kL6_322 dX6_rested_20, wp_il2 (y := zX6_rested) dX6_rested_23, wp_i2l (y := zX6_rested) dX6_rested_24, wp_lsub (y := zX6_rested) dX6_rested_25, wp_in (y := zX6_rested) rfl kP6_48 (by decide) dX6_rested_26, wp_if_eq (y := zX6_rested) 68 (by decide) dX6_rested_29, wp_iconst (y := zX6_rested) ((-1)) ki_m1 dX6_rested_68, wp_ireti (y := zX6_rested) rfl dX6_rested_69, O.oc, O.g0, O.g1, O.g2, O.g3, O.g4, O.g5, O.g6, O.g7, O.g9, O.g10, O.g11, O.p0, O.p7, O.a1, O.a2, O.a3, O.a4, O.a5, O.a6, O.a7, O.a8, O.a9, EM, E]
    exact fin
  have ES : mm_isin seed.toInt64 0 ((1000000 : Int64) - (nI km).toInt64) = nI 1 := isin_t (by
    rw [hh1, z0]
    have t1 : ¬ seed < 0 := fun t => hs (Or.inl t)
    have t2 : ¬ nI (1000000 - km) < seed := fun t => hs (Or.inr t)
    rw [Int32.lt_iff_toInt_lt, ez] at t1
    rw [Int32.lt_iff_toInt_lt, nI_toInt (by omega)] at t2
    omega)
  by_cases hn : n < nI 1 ∨ nI 99 < n
  · have E : mm_isin n.toInt64 1 99 = nI 0 := isin_o (a := nI 1) (b := nI 99) rfl rfl hn
    rw [show a_rested s seed (nI km) n h what = -1 from re_bad (Or.inr (Or.inr (Or.inr (Or.inl hn))))]
    have fin : MT m μ ((-1 : Int32), s) (some (.int (-1))) (mu μ m (upd (μ m) 0 (nI 0))) := mt_ro g0 rfl (RO.refl _ _) rfl R0 J
    generalize MT m μ ((-1 : Int32), s) = QQ at fin ⊢
    simp (disch := first | omega | assumption) only [mm_op_some, true_and, and_true, mm_rc_some, mm_rc_none, pk_mul, nI_add, mm_in_t, nI_clamp, ok0, ok1, ok2, ok3, ok4, n1_0, n0_0, nI_le_, nI_lt_, if_true, if_false, not_true, not_false_eq_true, ce_lt, ce_cl, hf_lt, hf_cl, n0_zz, n1_zz, wp_al0 (y := zX6_rested) dX6_rested_0, wp_iconst (y := zX6_rested) (nI 0) ki_0 dX6_rested_1, wp_putf (y := zX6_rested) kF6_44 rfl dX6_rested_2, wp_il2 (y := zX6_rested) dX6_rested_5, wp_i2l (y := zX6_rested) dX6_rested_6, wp_lconst (y := zX6_rested) (1) kl_1 dX6_rested_7, wp_ldc2 (y := zX6_rested) kL6_320 dX6_rested_8, wp_in (y := zX6_rested) rfl kP6_48 (by decide) dX6_rested_11, wp_if_eq (y := zX6_rested) 68 (by decide) dX6_rested_14, wp_il1 (y := zX6_rested) dX6_rested_17, wp_i2l (y := zX6_rested) dX6_rested_18, wp_lconst (y := zX6_rested) (0) kl_0 dX6_rested_19, wp_ldc2 (y := zX6_rested) kL6_322 dX6_rested_20, wp_il2 (y := zX6_rested) dX6_rested_23, wp_i2l (y := zX6_rested) dX6_rested_24, wp_lsub (y := zX6_rested) dX6_rested_25, wp_in (y := zX6_rested) rfl kP6_48 (by decide) dX6_rested_26, wp_if_eq (y := zX6_rested) 68 (by decide) dX6_rested_29, wp_il3 (y := zX6_rested) dX6_rested_32, wp_i2l (y := zX6_rested) dX6_rested_33, wp_lconst (y := zX6_rested) (1) kl_1 dX6_rested_34, wp_ldc2 (y := zX6_rested) kL6_145 dX6_rested_35, wp_in (y := zX6_rested) rfl kP6_48 (by decide) dX6_rested_38, wp_if_eq (y := zX6_rested) 68 (by decide) dX6_rested_41, wp_iconst (y := zX6_rested) ((-1)) ki_m1 dX6_rested_68, wp_ireti (y := zX6_rested) rfl dX6_rested_69, O.oc, O.g0, O.g1, O.g2, O.g3, O.g4, O.g5, O.g6, O.g7, O.g9, O.g10, O.g11, O.p0, O.p7, O.a1, O.a2, O.a3, O.a4, O.a5, O.a6, O.a7, O.a8, O.a9, EM, ES, E]
    exact fin
  have EN : mm_isin n.toInt64 1 99 = nI 1 := isin_i (a := nI 1) (b := nI 99) rfl rfl hn
  by_cases hh : h < 0 ∨ nI 99 < h
  · have E : mm_isin h.toInt64 0 99 = nI 0 := isin_o (a := 0) (b := nI 99) rfl rfl hh
    rw [show a_rested s seed (nI km) n h what = -1 from re_bad (Or.inr (Or.inr (Or.inr (Or.inr (Or.inl hh)))))]
    have fin : MT m μ ((-1 : Int32), s) (some (.int (-1))) (mu μ m (upd (μ m) 0 (nI 0))) := mt_ro g0 rfl (RO.refl _ _) rfl R0 J
    generalize MT m μ ((-1 : Int32), s) = QQ at fin ⊢
    simp (disch := first | omega | assumption) only [mm_op_some, true_and, and_true, mm_rc_some, mm_rc_none, pk_mul, nI_add, mm_in_t, nI_clamp, ok0, ok1, ok2, ok3, ok4, n1_0, n0_0, nI_le_, nI_lt_, if_true, if_false, not_true, not_false_eq_true, ce_lt, ce_cl, hf_lt, hf_cl, n0_zz, n1_zz, wp_al0 (y := zX6_rested) dX6_rested_0, wp_iconst (y := zX6_rested) (nI 0) ki_0 dX6_rested_1, wp_putf (y := zX6_rested) kF6_44 rfl dX6_rested_2, wp_il2 (y := zX6_rested) dX6_rested_5, wp_i2l (y := zX6_rested) dX6_rested_6, wp_lconst (y := zX6_rested) (1) kl_1 dX6_rested_7, wp_ldc2 (y := zX6_rested) kL6_320 dX6_rested_8, wp_in (y := zX6_rested) rfl kP6_48 (by decide) dX6_rested_11, wp_if_eq (y := zX6_rested) 68 (by decide) dX6_rested_14, wp_il1 (y := zX6_rested) dX6_rested_17, wp_i2l (y := zX6_rested) dX6_rested_18, wp_lconst (y := zX6_rested) (0) kl_0 dX6_rested_19, wp_ldc2 (y := zX6_rested) kL6_322 dX6_rested_20, wp_il2 (y := zX6_rested) dX6_rested_23, wp_i2l (y := zX6_rested) dX6_rested_24, wp_lsub (y := zX6_rested) dX6_rested_25, wp_in (y := zX6_rested) rfl kP6_48 (by decide) dX6_rested_26, wp_if_eq (y := zX6_rested) 68 (by decide) dX6_rested_29, wp_il3 (y := zX6_rested) dX6_rested_32, wp_i2l (y := zX6_rested) dX6_rested_33, wp_lconst (y := zX6_rested) (1) kl_1 dX6_rested_34, wp_ldc2 (y := zX6_rested) kL6_145 dX6_rested_35, wp_in (y := zX6_rested) rfl kP6_48 (by decide) dX6_rested_38, wp_if_eq (y := zX6_rested) 68 (by decide) dX6_rested_41, wp_il4 (y := zX6_rested) dX6_rested_44, wp_i2l (y := zX6_rested) dX6_rested_46, wp_lconst (y := zX6_rested) (0) kl_0 dX6_rested_47, wp_ldc2 (y := zX6_rested) kL6_145 dX6_rested_48, wp_in (y := zX6_rested) rfl kP6_48 (by decide) dX6_rested_51, wp_if_eq (y := zX6_rested) 68 (by decide) dX6_rested_54, wp_iconst (y := zX6_rested) ((-1)) ki_m1 dX6_rested_68, wp_ireti (y := zX6_rested) rfl dX6_rested_69, O.oc, O.g0, O.g1, O.g2, O.g3, O.g4, O.g5, O.g6, O.g7, O.g9, O.g10, O.g11, O.p0, O.p7, O.a1, O.a2, O.a3, O.a4, O.a5, O.a6, O.a7, O.a8, O.a9, EM, ES, EN, E]
    exact fin
  have EH : mm_isin h.toInt64 0 99 = nI 1 := isin_i (a := 0) (b := nI 99) rfl rfl hh
  by_cases hw : what < 0 ∨ nI 1 < what
  · have E : mm_isin what.toInt64 0 1 = nI 0 := isin_o (a := 0) (b := nI 1) rfl rfl hw
    rw [show a_rested s seed (nI km) n h what = -1 from re_bad (Or.inr (Or.inr (Or.inr (Or.inr (Or.inr hw)))))]
    have fin : MT m μ ((-1 : Int32), s) (some (.int (-1))) (mu μ m (upd (μ m) 0 (nI 0))) := mt_ro g0 rfl (RO.refl _ _) rfl R0 J
    generalize MT m μ ((-1 : Int32), s) = QQ at fin ⊢
    simp (disch := first | omega | assumption) only [mm_op_some, true_and, and_true, mm_rc_some, mm_rc_none, pk_mul, nI_add, mm_in_t, nI_clamp, ok0, ok1, ok2, ok3, ok4, n1_0, n0_0, nI_le_, nI_lt_, if_true, if_false, not_true, not_false_eq_true, ce_lt, ce_cl, hf_lt, hf_cl, n0_zz, n1_zz, wp_al0 (y := zX6_rested) dX6_rested_0, wp_iconst (y := zX6_rested) (nI 0) ki_0 dX6_rested_1, wp_putf (y := zX6_rested) kF6_44 rfl dX6_rested_2, wp_il2 (y := zX6_rested) dX6_rested_5, wp_i2l (y := zX6_rested) dX6_rested_6, wp_lconst (y := zX6_rested) (1) kl_1 dX6_rested_7, wp_ldc2 (y := zX6_rested) kL6_320 dX6_rested_8, wp_in (y := zX6_rested) rfl kP6_48 (by decide) dX6_rested_11, wp_if_eq (y := zX6_rested) 68 (by decide) dX6_rested_14, wp_il1 (y := zX6_rested) dX6_rested_17, wp_i2l (y := zX6_rested) dX6_rested_18, wp_lconst (y := zX6_rested) (0) kl_0 dX6_rested_19, wp_ldc2 (y := zX6_rested) kL6_322 dX6_rested_20, wp_il2 (y := zX6_rested) dX6_rested_23, wp_i2l (y := zX6_rested) dX6_rested_24, wp_lsub (y := zX6_rested) dX6_rested_25, wp_in (y := zX6_rested) rfl kP6_48 (by decide) dX6_rested_26, wp_if_eq (y := zX6_rested) 68 (by decide) dX6_rested_29, wp_il3 (y := zX6_rested) dX6_rested_32, wp_i2l (y := zX6_rested) dX6_rested_33, wp_lconst (y := zX6_rested) (1) kl_1 dX6_rested_34, wp_ldc2 (y := zX6_rested) kL6_145 dX6_rested_35, wp_in (y := zX6_rested) rfl kP6_48 (by decide) dX6_rested_38, wp_if_eq (y := zX6_rested) 68 (by decide) dX6_rested_41, wp_il4 (y := zX6_rested) dX6_rested_44, wp_i2l (y := zX6_rested) dX6_rested_46, wp_lconst (y := zX6_rested) (0) kl_0 dX6_rested_47, wp_ldc2 (y := zX6_rested) kL6_145 dX6_rested_48, wp_in (y := zX6_rested) rfl kP6_48 (by decide) dX6_rested_51, wp_if_eq (y := zX6_rested) 68 (by decide) dX6_rested_54, wp_il5 (y := zX6_rested) dX6_rested_57, wp_i2l (y := zX6_rested) dX6_rested_59, wp_lconst (y := zX6_rested) (0) kl_0 dX6_rested_60, wp_lconst (y := zX6_rested) (1) kl_1 dX6_rested_61, wp_in (y := zX6_rested) rfl kP6_48 (by decide) dX6_rested_62, wp_if_ne (y := zX6_rested) 70 (by decide) dX6_rested_65, wp_iconst (y := zX6_rested) ((-1)) ki_m1 dX6_rested_68, wp_ireti (y := zX6_rested) rfl dX6_rested_69, O.oc, O.g0, O.g1, O.g2, O.g3, O.g4, O.g5, O.g6, O.g7, O.g9, O.g10, O.g11, O.p0, O.p7, O.a1, O.a2, O.a3, O.a4, O.a5, O.a6, O.a7, O.a8, O.a9, EM, ES, EN, EH, E]
    exact fin
  have EW : mm_isin what.toInt64 0 1 = nI 1 := isin_i (a := 0) (b := nI 1) rfl rfl hw
  obtain ⟨sd0, hsd, rfl⟩ := rng seed (1000000 - km) (by omega) (fun t => hs (Or.inl t)) (fun t => hs (Or.inr t))
  obtain ⟨kn, hkn, rfl⟩ := rng n 99 (by decide) (pos1 _ (fun t => hn (Or.inl t))) (fun t => hn (Or.inr t))
  have ea : a_rested s (nI sd0) (nI km) (nI kn) h what = if what = 0 then (it (bsS s kn h sd0) km 0 (-1, 0)).2 else (it (bsS s kn h sd0) km 0 (-1, 0)).1 := by
    unfold a_rested
    have hk : shk (nI sd0) (nI kn) h = true := decide_eq_true (by
      rintro (t | t | t | t | t | t)
      · exact hs (Or.inl t)
      · rw [nI_lt_ (by omega) (by omega)] at t; omega
      · exact hn (Or.inl t)
      · exact hn (Or.inr t)
      · exact hh (Or.inl t)
      · exact hh (Or.inr t))
    rw [if_pos hk, if_neg (by
      rintro (t | t | t | t)
      · exact hm (Or.inl t)
      · exact hm (Or.inr t)
      · exact hw (Or.inl t)
      · exact hw (Or.inr t)), em1, if_neg (fun t => hs (Or.inr t)), nI_clamp (by omega), nI_clamp (by omega), nI_clamp (by omega)]
  rw [ea]
  have R1 : RepM s (mu (mu μ m (upd (μ m) 0 (nI 0))) (m + 2) (cpR ((mu μ m (upd (μ m) 0 (nI 0))) (m + 1)) ((mu μ m (upd (μ m) 0 (nI 0))) (m + 2)) 0 0 1786)) m := th_of R0
  have g2 : (mu (mu μ m (upd (μ m) 0 (nI 0))) (m + 2) (cpR ((mu μ m (upd (μ m) 0 (nI 0))) (m + 1)) ((mu μ m (upd (μ m) 0 (nI 0))) (m + 2)) 0 0 1786)) m 7 = nI 0 := by rw [mu_n _ _ (by omega)]; exact g1
  have fin : ∀ v μ2, RepM s μ2 m → RS (mu (mu μ m (upd (μ m) 0 (nI 0))) (m + 2) (cpR ((mu μ m (upd (μ m) 0 (nI 0))) (m + 1)) ((mu μ m (upd (μ m) 0 (nI 0))) (m + 2)) 0 0 1786)) μ2 m → μ2 m 7 = nI 0 → MT m μ (v, s) (some (.int v)) μ2 := fun v μ2 R2 F h7 => by
    refine ⟨rfl, R2, J, h7, ?_, fun a h1 h2 => ?_⟩
    · rw [F.2 0 (by omega) (by omega), mu_n _ _ (by omega), mu_s, upd_s]
    · rw [F.1 a (by omega) (by omega), mu_n _ _ (by omega), mu_n _ _ (by omega)]
  generalize hv : (if what = 0 then (it (bsS s kn h sd0) km 0 (-1, 0)).2 else (it (bsS s kn h sd0) km 0 (-1, 0)).1) = v
  have fin := fin v
  generalize MT m μ (v, s) = QQ at fin ⊢
  -- the best so far: nothing, or a strain and its seed
  have loop : ∀ d i (acc : Int32 × Int32) (b6 b7 : Int32) μ1, i + d = km → ((acc.1 = -1 ∧ b6 = -1 ∧ i = 0) ∨ (0 ≤ acc.1.toInt ∧ 0 ≤ acc.2.toInt ∧ b6 = acc.2 ∧ b7 = acc.1)) → it (bsS s kn h sd0) d i acc = it (bsS s kn h sd0) km 0 (-1, 0) → RepM s μ1 m → RS (mu (mu μ m (upd (μ m) 0 (nI 0))) (m + 2) (cpR ((mu μ m (upd (μ m) 0 (nI 0))) (m + 1)) ((mu μ m (upd (μ m) 0 (nI 0))) (m + 2)) 0 0 1786)) μ1 m → μ1 m 7 = nI 0 → wp sh zX6_rested 83 [.ref m, .int (nI sd0), .int (nI km), .int (nI kn), .int h, .int what, .int b6, .int b7, .int (nI i)] [] μ1 QQ := by
    intro d
    induction d with
    | zero =>
      intro i acc b6 b7 μ1 hi hb hit R2 F h7
      have e : i = km := by omega
      have hit : acc = it (bsS s kn h sd0) km 0 (-1, 0) := hit
      rw [← hit] at hv
      rcases hb with ⟨_, _, z⟩ | ⟨_, _, rfl, rfl⟩
      · omega
      rw [e, wp_il8 (y := zX6_rested) dX6_rested_83]
      by_cases w : what = 0
      · have w' : (what = 0) = True := eq_true w
        rw [if_pos w] at hv
        simp (disch := first | omega | assumption) only [mm_op_some, true_and, and_true, mm_rc_some, mm_rc_none, pk_mul, nI_add, mm_in_t, nI_clamp, ok0, ok1, ok2, ok3, ok4, n1_0, n0_0, nI_le_, nI_lt_, if_true, if_false, not_true, not_false_eq_true, ce_lt, ce_cl, hf_lt, hf_cl, wp_il2 (y := zX6_rested) dX6_rested_85, wp_icmp_ge (y := zX6_rested) 143 (by decide) dX6_rested_86, wp_il5 (y := zX6_rested) dX6_rested_143, wp_if_ne (y := zX6_rested) 153 (by decide) dX6_rested_145, wp_il6 (y := zX6_rested) dX6_rested_148, wp_goto (y := zX6_rested) 155 (by decide) dX6_rested_150, wp_ireti (y := zX6_rested) rfl dX6_rested_155, Nat.le_refl, w']
        rw [hv]
        exact fin _ R2 F h7
      · have w' : (what = 0) = False := eq_false w
        rw [if_neg w] at hv
        simp (disch := first | omega | assumption) only [mm_op_some, true_and, and_true, mm_rc_some, mm_rc_none, pk_mul, nI_add, mm_in_t, nI_clamp, ok0, ok1, ok2, ok3, ok4, n1_0, n0_0, nI_le_, nI_lt_, if_true, if_false, not_true, not_false_eq_true, ce_lt, ce_cl, hf_lt, hf_cl, wp_il2 (y := zX6_rested) dX6_rested_85, wp_icmp_ge (y := zX6_rested) 143 (by decide) dX6_rested_86, wp_il5 (y := zX6_rested) dX6_rested_143, wp_if_ne (y := zX6_rested) 153 (by decide) dX6_rested_145, wp_il7 (y := zX6_rested) dX6_rested_153, wp_ireti (y := zX6_rested) rfl dX6_rested_155, Nat.le_refl, w']
        rw [hv]
        exact fin _ R2 F h7
    | succ d ih =>
      intro i acc b6 b7 μ1 hi hb hit R2 F h7
      have h9 : (km ≤ i) = False := eq_false (by omega)
      rw [wp_il8 (y := zX6_rested) dX6_rested_83]
      simp (disch := first | omega | assumption) only [mm_op_some, true_and, and_true, mm_rc_some, mm_rc_none, pk_mul, nI_add, mm_in_t, nI_clamp, ok0, ok1, ok2, ok3, ok4, n1_0, n0_0, nI_le_, nI_lt_, if_true, if_false, not_true, not_false_eq_true, ce_lt, ce_cl, hf_lt, hf_cl, wp_il2 (y := zX6_rested) dX6_rested_85, wp_icmp_ge (y := zX6_rested) 143 (by decide) dX6_rested_86, wp_al0 (y := zX6_rested) dX6_rested_89, wp_il1 (y := zX6_rested) dX6_rested_90, wp_il8 (y := zX6_rested) dX6_rested_91, wp_iadd (y := zX6_rested) dX6_rested_93, wp_il3 (y := zX6_rested) dX6_rested_94, wp_il4 (y := zX6_rested) dX6_rested_95, wp_cv3 (y := zX6_rested) kM6_214 (by decide) dX6_rested_97, (show yo zX6_shakes = 6 from rfl), O.oc, O.g0, O.g1, O.g2, O.g3, O.g4, O.g5, O.g6, O.g7, O.g9, O.g10, O.g11, O.p0, O.p7, O.a1, O.a2, O.a3, O.a4, O.a5, O.a6, O.a7, O.a8, O.a9, h9]
      refine cl_mono (m_shakes O R2 J (sd0 + i) kn h (by omega) (by omega)) ?_
      rintro r μ2 ⟨rfl, ⟨R3, J3⟩, F3, h73⟩
      simp (disch := first | omega | assumption) only [mm_op_some, true_and, and_true, mm_rc_some, mm_rc_none, pk_mul, nI_add, mm_in_t, nI_clamp, ok0, ok1, ok2, ok3, ok4, n1_0, n0_0, nI_le_, nI_lt_, if_true, if_false, not_true, not_false_eq_true, ce_lt, ce_cl, hf_lt, hf_cl, wp_pop_int (y := zX6_rested) dX6_rested_100, wp_al0 (y := zX6_rested) dX6_rested_101, wp_cv0 (y := zX6_rested) kM6_234 (by decide) dX6_rested_102, (show yo zX6_relaxes = 6 from rfl), O.oc, O.g0, O.g1, O.g2, O.g3, O.g4, O.g5, O.g6, O.g7, O.g9, O.g10, O.g11, O.p0, O.p7, O.a1, O.a2, O.a3, O.a4, O.a5, O.a6, O.a7, O.a8, O.a9]
      refine cl_mono (m_relaxes O R3 J3) ?_
      rintro r μ3 ⟨rfl, ⟨R4, J4⟩, F4⟩
      have E4 : ∀ Q', cl sh zX6_strain [.ref m] μ3 Q' = Q' (some (.int (stn (caF 1000000 0 (jlF h kn (sd0 + i) s).2.2).2.1))) μ3 := fun Q' => m_strain O R4.1 J4
      have zp : 0 ≤ (stn (caF 1000000 0 (jlF h kn (sd0 + i) s).2.2).2.1).toInt := stn_nn J4
      have hit2 : it (bsS s kn h sd0) d (i + 1) (bsS s kn h sd0 i acc) = it (bsS s kn h sd0) km 0 (-1, 0) := hit
      have F5 : RS (mu (mu μ m (upd (μ m) 0 (nI 0))) (m + 2) (cpR ((mu μ m (upd (μ m) 0 (nI 0))) (m + 1)) ((mu μ m (upd (μ m) 0 (nI 0))) (m + 2)) 0 0 1786)) μ3 m := (F.trans F3).trans F4.rm.rs
      have h75 : μ3 m 7 = nI 0 := by rw [F4 m (by omega), h73]; exact h7
      obtain ⟨R6, F6, h76⟩ := th_back R0 g1 F5 h75
      have E5 : ∀ Q', cl sh zX6_endThought [.ref m] μ3 Q' = Q' none (mu μ3 (m + 1) (cpR (μ3 (m + 2)) (μ3 (m + 1)) 0 0 1786)) := fun Q' => m_endThought O
      unfold bsS at hit2
      dsimp only at hit2
      generalize stn (caF 1000000 0 (jlF h kn (sd0 + i) s).2.2).2.1 = z at E4 zp hit2
      rcases hb with ⟨e1, rfl, e3⟩ | ⟨e1, e2, rfl, rfl⟩
      · rw [if_pos (by rw [e1]; decide)] at hit2
        have q : ((-1 : Int32) = -1) = True := eq_true rfl
        simp (disch := first | omega | assumption) only [mm_op_some, true_and, and_true, mm_rc_some, mm_rc_none, pk_mul, nI_add, mm_in_t, nI_clamp, ok0, ok1, ok2, ok3, ok4, n1_0, n0_0, nI_le_, nI_lt_, if_true, if_false, not_true, not_false_eq_true, ce_lt, ce_cl, hf_lt, hf_cl, wp_pop_int (y := zX6_rested) dX6_rested_105, wp_il6 (y := zX6_rested) dX6_rested_106, wp_iconst (y := zX6_rested) ((-1)) ki_m1 dX6_rested_108, wp_icmp_eq (y := zX6_rested) 121 (by decide) dX6_rested_109, wp_al0 (y := zX6_rested) dX6_rested_121, wp_cv0 (y := zX6_rested) kM6_288 (by decide) dX6_rested_122, (show yo zX6_strain = 6 from rfl), wp_is6 (y := zX6_rested) dX6_rested_125, wp_il1 (y := zX6_rested) dX6_rested_127, wp_il8 (y := zX6_rested) dX6_rested_128, wp_iadd (y := zX6_rested) dX6_rested_130, wp_is7 (y := zX6_rested) dX6_rested_131, wp_al0 (y := zX6_rested) dX6_rested_133, wp_cv0 (y := zX6_rested) kM6_314 (by decide) dX6_rested_134, (show yo zX6_endThought = 6 from rfl), wp_inc8 (y := zX6_rested) (nI 1) ki_1 dX6_rested_137, wp_goto (y := zX6_rested) 83 (by decide) dX6_rested_140, O.oc, O.g0, O.g1, O.g2, O.g3, O.g4, O.g5, O.g6, O.g7, O.g9, O.g10, O.g11, O.p0, O.p7, O.a1, O.a2, O.a3, O.a4, O.a5, O.a6, O.a7, O.a8, O.a9, q, E4, E5]
        exact ih (i + 1) (nI (sd0 + i), z) z (nI (sd0 + i)) _ (by omega) (Or.inr ⟨by rw [nI_toInt (by omega)]; omega, zp, rfl, rfl⟩) hit2 R6 F6 h76
      · rw [if_neg (by rw [Int32.lt_iff_toInt_lt, ez]; omega)] at hit2
        have q : (acc.2 = (-1 : Int32)) = False := eq_false (fun e => by
          rw [e] at e2
          have : (-1 : Int32).toInt = -1 := rfl
          omega)
        by_cases y : z < acc.2
        · rw [if_pos y] at hit2
          have y' : (acc.2 ≤ z) = False := eq_false (by rw [Int32.le_iff_toInt_le]; rw [Int32.lt_iff_toInt_lt] at y; omega)
          simp (disch := first | omega | assumption) only [mm_op_some, true_and, and_true, mm_rc_some, mm_rc_none, pk_mul, nI_add, mm_in_t, nI_clamp, ok0, ok1, ok2, ok3, ok4, n1_0, n0_0, nI_le_, nI_lt_, if_true, if_false, not_true, not_false_eq_true, ce_lt, ce_cl, hf_lt, hf_cl, wp_pop_int (y := zX6_rested) dX6_rested_105, wp_il6 (y := zX6_rested) dX6_rested_106, wp_iconst (y := zX6_rested) ((-1)) ki_m1 dX6_rested_108, wp_icmp_eq (y := zX6_rested) 121 (by decide) dX6_rested_109, wp_al0 (y := zX6_rested) dX6_rested_112, wp_cv0 (y := zX6_rested) kM6_288 (by decide) dX6_rested_113, (show yo zX6_strain = 6 from rfl), wp_il6 (y := zX6_rested) dX6_rested_116, wp_icmp_ge (y := zX6_rested) 133 (by decide) dX6_rested_118, wp_al0 (y := zX6_rested) dX6_rested_121, wp_cv0 (y := zX6_rested) kM6_288 (by decide) dX6_rested_122, (show yo zX6_strain = 6 from rfl), wp_is6 (y := zX6_rested) dX6_rested_125, wp_il1 (y := zX6_rested) dX6_rested_127, wp_il8 (y := zX6_rested) dX6_rested_128, wp_iadd (y := zX6_rested) dX6_rested_130, wp_is7 (y := zX6_rested) dX6_rested_131, wp_al0 (y := zX6_rested) dX6_rested_133, wp_cv0 (y := zX6_rested) kM6_314 (by decide) dX6_rested_134, (show yo zX6_endThought = 6 from rfl), wp_inc8 (y := zX6_rested) (nI 1) ki_1 dX6_rested_137, wp_goto (y := zX6_rested) 83 (by decide) dX6_rested_140, O.oc, O.g0, O.g1, O.g2, O.g3, O.g4, O.g5, O.g6, O.g7, O.g9, O.g10, O.g11, O.p0, O.p7, O.a1, O.a2, O.a3, O.a4, O.a5, O.a6, O.a7, O.a8, O.a9, q, E4, E5, y']
          exact ih (i + 1) (nI (sd0 + i), z) z (nI (sd0 + i)) _ (by omega) (Or.inr ⟨by rw [nI_toInt (by omega)]; omega, zp, rfl, rfl⟩) hit2 R6 F6 h76
        · rw [if_neg y] at hit2
          have y' : (acc.2 ≤ z) = True := eq_true (by rw [Int32.le_iff_toInt_le]; rw [Int32.lt_iff_toInt_lt] at y; omega)
          simp (disch := first | omega | assumption) only [mm_op_some, true_and, and_true, mm_rc_some, mm_rc_none, pk_mul, nI_add, mm_in_t, nI_clamp, ok0, ok1, ok2, ok3, ok4, n1_0, n0_0, nI_le_, nI_lt_, if_true, if_false, not_true, not_false_eq_true, ce_lt, ce_cl, hf_lt, hf_cl, wp_pop_int (y := zX6_rested) dX6_rested_105, wp_il6 (y := zX6_rested) dX6_rested_106, wp_iconst (y := zX6_rested) ((-1)) ki_m1 dX6_rested_108, wp_icmp_eq (y := zX6_rested) 121 (by decide) dX6_rested_109, wp_al0 (y := zX6_rested) dX6_rested_112, wp_cv0 (y := zX6_rested) kM6_288 (by decide) dX6_rested_113, (show yo zX6_strain = 6 from rfl), wp_il6 (y := zX6_rested) dX6_rested_116, wp_icmp_ge (y := zX6_rested) 133 (by decide) dX6_rested_118, wp_al0 (y := zX6_rested) dX6_rested_133, wp_cv0 (y := zX6_rested) kM6_314 (by decide) dX6_rested_134, (show yo zX6_endThought = 6 from rfl), wp_inc8 (y := zX6_rested) (nI 1) ki_1 dX6_rested_137, wp_goto (y := zX6_rested) 83 (by decide) dX6_rested_140, O.oc, O.g0, O.g1, O.g2, O.g3, O.g4, O.g5, O.g6, O.g7, O.g9, O.g10, O.g11, O.p0, O.p7, O.a1, O.a2, O.a3, O.a4, O.a5, O.a6, O.a7, O.a8, O.a9, q, E4, E5, y']
          exact ih (i + 1) acc acc.2 acc.1 _ (by omega) (Or.inr ⟨e1, e2, rfl, rfl⟩) hit2 R6 F6 h76
  simp (disch := first | omega | assumption) only [mm_op_some, true_and, and_true, mm_rc_some, mm_rc_none, pk_mul, nI_add, mm_in_t, nI_clamp, ok0, ok1, ok2, ok3, ok4, n1_0, n0_0, nI_le_, nI_lt_, if_true, if_false, not_true, not_false_eq_true, ce_lt, ce_cl, hf_lt, hf_cl, n1_zz, wp_al0 (y := zX6_rested) dX6_rested_0, wp_iconst (y := zX6_rested) (nI 0) ki_0 dX6_rested_1, wp_putf (y := zX6_rested) kF6_44 rfl dX6_rested_2, wp_il2 (y := zX6_rested) dX6_rested_5, wp_i2l (y := zX6_rested) dX6_rested_6, wp_lconst (y := zX6_rested) (1) kl_1 dX6_rested_7, wp_ldc2 (y := zX6_rested) kL6_320 dX6_rested_8, wp_in (y := zX6_rested) rfl kP6_48 (by decide) dX6_rested_11, wp_if_eq (y := zX6_rested) 68 (by decide) dX6_rested_14, wp_il1 (y := zX6_rested) dX6_rested_17, wp_i2l (y := zX6_rested) dX6_rested_18, wp_lconst (y := zX6_rested) (0) kl_0 dX6_rested_19, wp_ldc2 (y := zX6_rested) kL6_322 dX6_rested_20, wp_il2 (y := zX6_rested) dX6_rested_23, wp_i2l (y := zX6_rested) dX6_rested_24, wp_lsub (y := zX6_rested) dX6_rested_25, wp_in (y := zX6_rested) rfl kP6_48 (by decide) dX6_rested_26, wp_if_eq (y := zX6_rested) 68 (by decide) dX6_rested_29, wp_il3 (y := zX6_rested) dX6_rested_32, wp_i2l (y := zX6_rested) dX6_rested_33, wp_lconst (y := zX6_rested) (1) kl_1 dX6_rested_34, wp_ldc2 (y := zX6_rested) kL6_145 dX6_rested_35, wp_in (y := zX6_rested) rfl kP6_48 (by decide) dX6_rested_38, wp_if_eq (y := zX6_rested) 68 (by decide) dX6_rested_41, wp_il4 (y := zX6_rested) dX6_rested_44, wp_i2l (y := zX6_rested) dX6_rested_46, wp_lconst (y := zX6_rested) (0) kl_0 dX6_rested_47, wp_ldc2 (y := zX6_rested) kL6_145 dX6_rested_48, wp_in (y := zX6_rested) rfl kP6_48 (by decide) dX6_rested_51, wp_if_eq (y := zX6_rested) 68 (by decide) dX6_rested_54, wp_il5 (y := zX6_rested) dX6_rested_57, wp_i2l (y := zX6_rested) dX6_rested_59, wp_lconst (y := zX6_rested) (0) kl_0 dX6_rested_60, wp_lconst (y := zX6_rested) (1) kl_1 dX6_rested_61, wp_in (y := zX6_rested) rfl kP6_48 (by decide) dX6_rested_62, wp_if_ne (y := zX6_rested) 70 (by decide) dX6_rested_65, wp_al0 (y := zX6_rested) dX6_rested_70, wp_cv0 (y := zX6_rested) kM6_301 (by decide) dX6_rested_71, (show yo zX6_think = 6 from rfl), wp_iconst (y := zX6_rested) ((-1)) ki_m1 dX6_rested_74, wp_is6 (y := zX6_rested) dX6_rested_75, wp_iconst (y := zX6_rested) ((-1)) ki_m1 dX6_rested_77, wp_is7 (y := zX6_rested) dX6_rested_78, wp_iconst (y := zX6_rested) (nI 0) ki_0 dX6_rested_80, wp_is8 (y := zX6_rested) dX6_rested_81, O.oc, O.g0, O.g1, O.g2, O.g3, O.g4, O.g5, O.g6, O.g7, O.g9, O.g10, O.g11, O.p0, O.p7, O.a1, O.a2, O.a3, O.a4, O.a5, O.a6, O.a7, O.a8, O.a9, EM, ES, EN, EH, EW, E2]
  exact loop km 0 (-1, 0) (-1) (-1) _ (by omega) (Or.inl ⟨rfl, rfl, rfl⟩) rfl R1 (RS.refl _ _) g2
end MRE
