section PA4
variable {sh : mm_Sh} {p g b : Nat} {μ μ1 : mm_U} {s : Fo} {M : Ms} {I : Ms → Prop} {Q : Option Value → mm_U → Prop}
theorem c_twoSwapsTo (P : PaSh sh p) (F : FoSh sh g) (G : GoodI I) (K : BackI I) (R : RepF s μ g) (hI_ : I s.1) (hd : p + 15 < g ∨ g + 14 < p) (c : Ce) (n : Int32) : cl sh zX3_twoSwapsTo [.ref p, .ref g, .int (nI c.val), .int n] μ (fun r μ' => r = some (.int (fo (fd (twP s.1 c n) 144 0))) ∧ FrP μ μ' p) := by
  have Foc := P.2.oc
  have S := P.2.2.1
  have Moc := S.oc
  show wp sh zX3_twoSwapsTo 0 [.ref p, .ref g, .int (nI c.val), .int n, .null, .null] [] μ _
  simp (disch := first | omega | assumption) only [wp_al0 (y := zX3_twoSwapsTo) dX3_twoSwapsTo_0, wp_getf (y := zX3_twoSwapsTo) kF3_12 dX3_twoSwapsTo_1, wp_al1 (y := zX3_twoSwapsTo) dX3_twoSwapsTo_4, wp_cv_r (y := zX3_twoSwapsTo) kM3_18 (by decide) dX3_twoSwapsTo_5, (show yo zX1_copyOf = 1 from rfl), mm_op_some, true_and, and_true, mm_rc_some, mm_rc_none, nI_xor, tw_xor, pk_mul, nI_add, mm_in_t, nI_clamp, ok0, ok1, ok2, ok3, ok4, n1_0, n0_0, n0_zz, n1_zz, bI_eq0, bI_ne0, bI_zz, nI_le_, nI_lt_, nI_eq_, nI_lt0, nI_ge0, nI_gt0, nI_le0, nI_eq0, m1_lt0, m1_ge0, if_true, if_false, not_true, not_false_eq_true, Classical.not_not, true_or, or_true, false_or, n1_1, k10, Bool.true_eq_false, Bool.false_eq_true, Nat.le_refl, and_self, and_false, false_and, or_self, or_false, i_irr, i_rfl, P.oc, P.g0, Foc]
  refine cl_mono (c_copyFoam P.2 F R (by omega)) ?_
  rintro r μ1 ⟨rfl, R1, F1⟩
  simp (disch := first | omega | assumption) only [wp_al0 (y := zX3_twoSwapsTo) dX3_twoSwapsTo_8, wp_getf (y := zX3_twoSwapsTo) kF3_12 dX3_twoSwapsTo_9, wp_getf (y := zX3_twoSwapsTo) kF3_22 dX3_twoSwapsTo_12, wp_as4 (y := zX3_twoSwapsTo) dX3_twoSwapsTo_15, wp_iconst (y := zX3_twoSwapsTo) (nI 0) ki_0 dX3_twoSwapsTo_17, wp_is5 (y := zX3_twoSwapsTo) dX3_twoSwapsTo_18, mm_op_some, true_and, and_true, mm_rc_some, mm_rc_none, nI_xor, tw_xor, pk_mul, nI_add, mm_in_t, nI_clamp, ok0, ok1, ok2, ok3, ok4, n1_0, n0_0, n0_zz, n1_zz, bI_eq0, bI_ne0, bI_zz, nI_le_, nI_lt_, nI_eq_, nI_lt0, nI_ge0, nI_gt0, nI_le0, nI_eq0, m1_lt0, m1_ge0, if_true, if_false, not_true, not_false_eq_true, Classical.not_not, true_or, or_true, false_or, n1_1, k10, Bool.true_eq_false, Bool.false_eq_true, Nat.le_refl, and_self, and_false, false_and, or_self, or_false, i_irr, i_rfl, P.oc, P.g0, P.2.g0]
  refine lpI 144 (fun i (a : mm_U) => wp sh zX3_twoSwapsTo 20 [.ref p, .ref g, .int (nI c.val), .int n, .ref (p + 1 + 1), .int (nI i)] [] a (fun r μ' => r = some (.int (fo (fd (twP s.1 c n) 144 0))) ∧ FrP μ μ' p)) (fun i a => (RepC (it twG i 0 s.1) a (p + 1 + 1) ∧ I (it twG i 0 s.1)) ∧ FrP μ a p ∧ ∀ k, k < i → twP s.1 c n k = false) ?_ ?_ μ1 ⟨⟨R1.1, hI_⟩, FrF.p F1, fun k hk => absurd hk (Nat.not_lt_zero _)⟩
  · rintro i μ2 hi ⟨⟨R2, I2⟩, F2, hn⟩ kk
    rw [it_last0] at kk
    have K0 : twP s.1 c n i = false → ∀ k, k < i + 1 → twP s.1 c n k = false := fun ha k hk => if z : k = i then z ▸ ha else hn k (by omega)
    have K1 : twP s.1 c n i = true → (some (.int (nI i)) : Option Value) = some (.int (fo (fd (twP s.1 c n) 144 0))) := fun ha => by rw [fd_at hi hn ha]; rfl
    have e1 : twP s.1 c n i = (lv (it twG i 0 s.1) (wI i) && (can (it twG i 0 s.1) (wI i) && (fd (swp (flM (it twG i 0 s.1) (wI i)) c n) 144 0).isSome)) := rfl
    rw [e1] at K0 K1
    generalize it twG i 0 s.1 = M2 at R2 I2 kk K0 K1
    obtain ⟨B2, L2⟩ := G.1 _ I2
    have h9 : ¬ 144 ≤ i := by omega
    have iv := wI_lt hi
    unfold twG at kk
    rw [wp_il5 (y := zX3_twoSwapsTo) dX3_twoSwapsTo_20]
    by_cases hl : lv M2 (wI i) = true
    · have E3 : ∀ Q', cl sh zX2_hasWall [.ref (p + 1 + 1), .int (nI i)] μ2 Q' = Q' (some (.int (nI 1))) μ2 := fun Q' => c_hasWall1 S R2 hi hl
      have E4 : ∀ Q', cl sh zX2_canFlip [.ref (p + 1 + 1), .int (nI i)] μ2 Q' = Q' (some (.int (bI (can M2 (wI i))))) μ2 := fun Q' => by
        have := c_canFlip (Q := Q') S R2 B2 L2 (wI i) hl
        rw [iv] at this
        exact this
      simp only [hl, if_true, Bool.true_and] at kk K0 K1
      by_cases hc : can M2 (wI i) = true
      · simp only [hc, if_true, Bool.true_and] at kk K0 K1
        rw [hc] at E4
        obtain ⟨q1, q2⟩ := G.2.1 _ _ I2 hl hc
        obtain ⟨q3, q4⟩ := K _ _ I2 hl hc
        have J1 := c_flip S R2 B2 (wI i) q1
        rw [iv] at J1
        simp (disch := first | omega | assumption) only [wp_sipush (y := zX3_twoSwapsTo) (nI 144) ks_144 dX3_twoSwapsTo_22, wp_icmp_ge (y := zX3_twoSwapsTo) 81 (by decide) dX3_twoSwapsTo_25, wp_al4 (y := zX3_twoSwapsTo) dX3_twoSwapsTo_28, wp_il5 (y := zX3_twoSwapsTo) dX3_twoSwapsTo_30, wp_cv1 (y := zX3_twoSwapsTo) kM3_36 (by decide) dX3_twoSwapsTo_32, (show yo zX2_hasWall = 2 from rfl), wp_if_eq (y := zX3_twoSwapsTo) 75 (by decide) dX3_twoSwapsTo_35, wp_al4 (y := zX3_twoSwapsTo) dX3_twoSwapsTo_38, wp_il5 (y := zX3_twoSwapsTo) dX3_twoSwapsTo_40, wp_cv1 (y := zX3_twoSwapsTo) kM3_40 (by decide) dX3_twoSwapsTo_42, (show yo zX2_canFlip = 2 from rfl), wp_if_eq (y := zX3_twoSwapsTo) 75 (by decide) dX3_twoSwapsTo_45, wp_al4 (y := zX3_twoSwapsTo) dX3_twoSwapsTo_48, wp_il5 (y := zX3_twoSwapsTo) dX3_twoSwapsTo_50, wp_cv1 (y := zX3_twoSwapsTo) kM3_47 (by decide) dX3_twoSwapsTo_52, (show yo zX2_flip = 2 from rfl), mm_op_some, true_and, and_true, mm_rc_some, mm_rc_none, nI_xor, tw_xor, pk_mul, nI_add, mm_in_t, nI_clamp, ok0, ok1, ok2, ok3, ok4, n1_0, n0_0, n0_zz, n1_zz, bI_eq0, bI_ne0, bI_zz, nI_le_, nI_lt_, nI_eq_, nI_lt0, nI_ge0, nI_gt0, nI_le0, nI_eq0, m1_lt0, m1_ge0, if_true, if_false, not_true, not_false_eq_true, Classical.not_not, true_or, or_true, false_or, n1_1, k10, Bool.true_eq_false, Bool.false_eq_true, Nat.le_refl, and_self, and_false, false_and, or_self, or_false, i_irr, i_rfl, Moc, h9, E3, E4, bI_t]
        refine cl_mono J1 ?_
        rintro r μ3 ⟨rfl, R3, F3⟩
        obtain ⟨B3, L3⟩ := G.1 _ q2
        have E6 : ∀ Q', cl sh zX3_swapTo [.ref (p + 1 + 1), .int (nI c.val), .int n] μ3 Q' = Q' (some (.int (fo (fd (swp (flM M2 (wI i)) c n) 144 0)))) μ3 := fun Q' => c_swapTo S R3 B3 L3 c n
        have F3' := F2.trans (Fr.p F3)
        cases hs : fd (swp (flM M2 (wI i)) c n) 144 0 with
        | some j =>
          have hj : j < 144 := by
            obtain ⟨-, -, z3, -⟩ := fd_some hs
            omega
          rw [hs] at E6 K1
          have ef : fo (some j) = nI j := rfl
          simp (disch := first | omega | assumption) only [wp_al4 (y := zX3_twoSwapsTo) dX3_twoSwapsTo_55, wp_il2 (y := zX3_twoSwapsTo) dX3_twoSwapsTo_57, wp_il3 (y := zX3_twoSwapsTo) dX3_twoSwapsTo_58, wp_cs_rii (y := zX3_twoSwapsTo) kM3_60 (by decide) dX3_twoSwapsTo_59, wp_if_lt (y := zX3_twoSwapsTo) 68 (by decide) dX3_twoSwapsTo_62, wp_il5 (y := zX3_twoSwapsTo) dX3_twoSwapsTo_65, wp_ireti (y := zX3_twoSwapsTo) rfl dX3_twoSwapsTo_67, mm_op_some, true_and, and_true, mm_rc_some, mm_rc_none, nI_xor, tw_xor, pk_mul, nI_add, mm_in_t, nI_clamp, ok0, ok1, ok2, ok3, ok4, n1_0, n0_0, n0_zz, n1_zz, bI_eq0, bI_ne0, bI_zz, nI_le_, nI_lt_, nI_eq_, nI_lt0, nI_ge0, nI_gt0, nI_le0, nI_eq0, m1_lt0, m1_ge0, if_true, if_false, not_true, not_false_eq_true, Classical.not_not, true_or, or_true, false_or, n1_1, k10, Bool.true_eq_false, Bool.false_eq_true, Nat.le_refl, and_self, and_false, false_and, or_self, or_false, i_irr, i_rfl, E6, ef]
          exact ⟨K1 rfl, F3'⟩
        | none =>
          rw [hs] at E6 K0
          have ef : fo none = -1 := rfl
          have J2 := c_flip S R3 B3 (wI i) q3
          rw [iv] at J2
          simp (disch := first | omega | assumption) only [wp_al4 (y := zX3_twoSwapsTo) dX3_twoSwapsTo_55, wp_il2 (y := zX3_twoSwapsTo) dX3_twoSwapsTo_57, wp_il3 (y := zX3_twoSwapsTo) dX3_twoSwapsTo_58, wp_cs_rii (y := zX3_twoSwapsTo) kM3_60 (by decide) dX3_twoSwapsTo_59, wp_if_lt (y := zX3_twoSwapsTo) 68 (by decide) dX3_twoSwapsTo_62, wp_al4 (y := zX3_twoSwapsTo) dX3_twoSwapsTo_68, wp_il5 (y := zX3_twoSwapsTo) dX3_twoSwapsTo_70, wp_cv1 (y := zX3_twoSwapsTo) kM3_47 (by decide) dX3_twoSwapsTo_72, (show yo zX2_flip = 2 from rfl), mm_op_some, true_and, and_true, mm_rc_some, mm_rc_none, nI_xor, tw_xor, pk_mul, nI_add, mm_in_t, nI_clamp, ok0, ok1, ok2, ok3, ok4, n1_0, n0_0, n0_zz, n1_zz, bI_eq0, bI_ne0, bI_zz, nI_le_, nI_lt_, nI_eq_, nI_lt0, nI_ge0, nI_gt0, nI_le0, nI_eq0, m1_lt0, m1_ge0, if_true, if_false, not_true, not_false_eq_true, Classical.not_not, true_or, or_true, false_or, n1_1, k10, Bool.true_eq_false, Bool.false_eq_true, Nat.le_refl, and_self, and_false, false_and, or_self, or_false, i_irr, i_rfl, Moc, E6, ef]
          refine cl_mono J2 ?_
          rintro r μ4 ⟨rfl, R4, F4⟩
          simp (disch := first | omega | assumption) only [wp_inc5 (y := zX3_twoSwapsTo) (nI 1) ki_1 dX3_twoSwapsTo_75, wp_goto (y := zX3_twoSwapsTo) 20 (by decide) dX3_twoSwapsTo_78, mm_op_some, true_and, and_true, mm_rc_some, mm_rc_none, nI_xor, tw_xor, pk_mul, nI_add, mm_in_t, nI_clamp, ok0, ok1, ok2, ok3, ok4, n1_0, n0_0, n0_zz, n1_zz, bI_eq0, bI_ne0, bI_zz, nI_le_, nI_lt_, nI_eq_, nI_lt0, nI_ge0, nI_gt0, nI_le0, nI_eq0, m1_lt0, m1_ge0, if_true, if_false, not_true, not_false_eq_true, Classical.not_not, true_or, or_true, false_or, n1_1, k10, Bool.true_eq_false, Bool.false_eq_true, Nat.le_refl, and_self, and_false, false_and, or_self, or_false, i_irr, i_rfl]
          exact kk _ ⟨⟨R4, q4⟩, F3'.trans (Fr.p F4), K0 rfl⟩
      · have hc' : can M2 (wI i) = false := Bool.eq_false_iff.mpr hc
        simp only [hc', if_false, Bool.false_eq_true, Bool.false_and] at kk K0
        rw [hc'] at E4
        simp (disch := first | omega | assumption) only [wp_sipush (y := zX3_twoSwapsTo) (nI 144) ks_144 dX3_twoSwapsTo_22, wp_icmp_ge (y := zX3_twoSwapsTo) 81 (by decide) dX3_twoSwapsTo_25, wp_al4 (y := zX3_twoSwapsTo) dX3_twoSwapsTo_28, wp_il5 (y := zX3_twoSwapsTo) dX3_twoSwapsTo_30, wp_cv1 (y := zX3_twoSwapsTo) kM3_36 (by decide) dX3_twoSwapsTo_32, (show yo zX2_hasWall = 2 from rfl), wp_if_eq (y := zX3_twoSwapsTo) 75 (by decide) dX3_twoSwapsTo_35, wp_al4 (y := zX3_twoSwapsTo) dX3_twoSwapsTo_38, wp_il5 (y := zX3_twoSwapsTo) dX3_twoSwapsTo_40, wp_cv1 (y := zX3_twoSwapsTo) kM3_40 (by decide) dX3_twoSwapsTo_42, (show yo zX2_canFlip = 2 from rfl), wp_if_eq (y := zX3_twoSwapsTo) 75 (by decide) dX3_twoSwapsTo_45, wp_inc5 (y := zX3_twoSwapsTo) (nI 1) ki_1 dX3_twoSwapsTo_75, wp_goto (y := zX3_twoSwapsTo) 20 (by decide) dX3_twoSwapsTo_78, mm_op_some, true_and, and_true, mm_rc_some, mm_rc_none, nI_xor, tw_xor, pk_mul, nI_add, mm_in_t, nI_clamp, ok0, ok1, ok2, ok3, ok4, n1_0, n0_0, n0_zz, n1_zz, bI_eq0, bI_ne0, bI_zz, nI_le_, nI_lt_, nI_eq_, nI_lt0, nI_ge0, nI_gt0, nI_le0, nI_eq0, m1_lt0, m1_ge0, if_true, if_false, not_true, not_false_eq_true, Classical.not_not, true_or, or_true, false_or, n1_1, k10, Bool.true_eq_false, Bool.false_eq_true, Nat.le_refl, and_self, and_false, false_and, or_self, or_false, i_irr, i_rfl, Moc, h9, E3, E4, bI_f]
        exact kk _ ⟨⟨R2, I2⟩, F2, K0 trivial⟩
    · have hl' : lv M2 (wI i) = false := Bool.eq_false_iff.mpr hl
      have E3 : ∀ Q', cl sh zX2_hasWall [.ref (p + 1 + 1), .int (nI i)] μ2 Q' = Q' (some (.int (nI 0))) μ2 := fun Q' => c_hasWall0 S R2 hi hl
      simp only [hl', if_false, Bool.false_eq_true, Bool.false_and] at kk K0
      simp (disch := first | omega | assumption) only [wp_sipush (y := zX3_twoSwapsTo) (nI 144) ks_144 dX3_twoSwapsTo_22, wp_icmp_ge (y := zX3_twoSwapsTo) 81 (by decide) dX3_twoSwapsTo_25, wp_al4 (y := zX3_twoSwapsTo) dX3_twoSwapsTo_28, wp_il5 (y := zX3_twoSwapsTo) dX3_twoSwapsTo_30, wp_cv1 (y := zX3_twoSwapsTo) kM3_36 (by decide) dX3_twoSwapsTo_32, (show yo zX2_hasWall = 2 from rfl), wp_if_eq (y := zX3_twoSwapsTo) 75 (by decide) dX3_twoSwapsTo_35, wp_inc5 (y := zX3_twoSwapsTo) (nI 1) ki_1 dX3_twoSwapsTo_75, wp_goto (y := zX3_twoSwapsTo) 20 (by decide) dX3_twoSwapsTo_78, mm_op_some, true_and, and_true, mm_rc_some, mm_rc_none, nI_xor, tw_xor, pk_mul, nI_add, mm_in_t, nI_clamp, ok0, ok1, ok2, ok3, ok4, n1_0, n0_0, n0_zz, n1_zz, bI_eq0, bI_ne0, bI_zz, nI_le_, nI_lt_, nI_eq_, nI_lt0, nI_ge0, nI_gt0, nI_le0, nI_eq0, m1_lt0, m1_ge0, if_true, if_false, not_true, not_false_eq_true, Classical.not_not, true_or, or_true, false_or, n1_1, k10, Bool.true_eq_false, Bool.false_eq_true, Nat.le_refl, and_self, and_false, false_and, or_self, or_false, i_irr, i_rfl, Moc, h9, E3]
      exact kk _ ⟨⟨R2, I2⟩, F2, K0 trivial⟩
  · rintro μ2 ⟨R2, F2, hn⟩
    rw [wp_il5 (y := zX3_twoSwapsTo) dX3_twoSwapsTo_20]
    simp (disch := first | omega | assumption) only [wp_sipush (y := zX3_twoSwapsTo) (nI 144) ks_144 dX3_twoSwapsTo_22, wp_icmp_ge (y := zX3_twoSwapsTo) 81 (by decide) dX3_twoSwapsTo_25, wp_iconst (y := zX3_twoSwapsTo) ((-1)) ki_m1 dX3_twoSwapsTo_81, wp_ireti (y := zX3_twoSwapsTo) rfl dX3_twoSwapsTo_82, mm_op_some, true_and, and_true, mm_rc_some, mm_rc_none, nI_xor, tw_xor, pk_mul, nI_add, mm_in_t, nI_clamp, ok0, ok1, ok2, ok3, ok4, n1_0, n0_0, n0_zz, n1_zz, bI_eq0, bI_ne0, bI_zz, nI_le_, nI_lt_, nI_eq_, nI_lt0, nI_ge0, nI_gt0, nI_le0, nI_eq0, m1_lt0, m1_ge0, if_true, if_false, not_true, not_false_eq_true, Classical.not_not, true_or, or_true, false_or, n1_1, k10, Bool.true_eq_false, Bool.false_eq_true, Nat.le_refl, and_self, and_false, false_and, or_self, or_false, i_irr, i_rfl]
    rw [fd_nil hn]
    exact ⟨rfl, F2⟩
theorem c_bestSeed (P : PaSh sh p) (F : FoSh sh g) (G : GoodI I) (R : RepF s μ g) (hI_ : I s.1) (hd : p + 15 < g ∨ g + 14 < p) (seed many n : Nat) (h : Int32) (hs : seed + many ≤ 1900000) (hn : n < 2 ^ 30) : cl sh zX3_bestSeed [.ref p, .ref g, .int (nI seed), .int (nI many), .int (nI n), .int h] μ (fun r μ' => r = some (.int (it (bsS s n h seed) many 0 (-1, μ p 1)).1) ∧ μ' p 1 = (it (bsS s n h seed) many 0 (-1, μ p 1)).2 ∧ FrP μ μ' p) := by
  have Foc := P.2.oc
  have S := P.2.2.1
  have Moc := S.oc
  show wp sh zX3_bestSeed 0 [.ref p, .ref g, .int (nI seed), .int (nI many), .int (nI n), .int h, .null, .null, .null] [] μ _
  simp (disch := first | omega | assumption) only [wp_iconst (y := zX3_bestSeed) ((-1)) ki_m1 dX3_bestSeed_0, wp_is6 (y := zX3_bestSeed) dX3_bestSeed_1, wp_iconst (y := zX3_bestSeed) (nI 0) ki_0 dX3_bestSeed_3, wp_is7 (y := zX3_bestSeed) dX3_bestSeed_4]
  generalize hres : it (bsS s n h seed) many 0 (-1, μ p 1) = res
  refine lpI many (fun i (a : (mm_U × Value) × (Int32 × Int32)) => wp sh zX3_bestSeed 6 [.ref p, .ref g, .int (nI seed), .int (nI many), .int (nI n), .int h, .int a.2.1, .int (nI i), a.1.2] [] a.1.1 (fun r μ' => r = some (.int res.1) ∧ μ' p 1 = res.2 ∧ FrP μ μ' p)) (fun i a => a.2 = it (bsS s n h seed) i 0 (-1, μ p 1) ∧ a.1.1 p 1 = a.2.2 ∧ FrP μ a.1.1 p) ?_ ?_ ((μ, .null), (-1, μ p 1)) ⟨rfl, rfl, FrP.refl _ _⟩
  · rintro i ⟨⟨μ2, v⟩, b2, z2⟩ hi ⟨e0, hz, F2⟩ kk
    replace kk := fun (μ' : mm_U) (v : Value) (x y : Int32) q => kk ((μ', v), x, y) q
    dsimp only at e0 hz F2 kk ⊢
    rw [it_last0, ← e0] at kk
    have h9 : ¬ many ≤ i := by omega
    unfold bsS at kk
    dsimp only at kk
    rw [wp_il7 (y := zX3_bestSeed) dX3_bestSeed_6]
    simp (disch := first | omega | assumption) only [wp_il3 (y := zX3_bestSeed) dX3_bestSeed_8, wp_icmp_ge (y := zX3_bestSeed) 88 (by decide) dX3_bestSeed_9, wp_al0 (y := zX3_bestSeed) dX3_bestSeed_12, wp_getf (y := zX3_bestSeed) kF3_12 dX3_bestSeed_13, wp_al1 (y := zX3_bestSeed) dX3_bestSeed_16, wp_cv_r (y := zX3_bestSeed) kM3_18 (by decide) dX3_bestSeed_17, (show yo zX1_copyOf = 1 from rfl), mm_op_some, true_and, and_true, mm_rc_some, mm_rc_none, nI_xor, tw_xor, pk_mul, nI_add, mm_in_t, nI_clamp, ok0, ok1, ok2, ok3, ok4, n1_0, n0_0, n0_zz, n1_zz, bI_eq0, bI_ne0, bI_zz, nI_le_, nI_lt_, nI_eq_, nI_lt0, nI_ge0, nI_gt0, nI_le0, nI_eq0, m1_lt0, m1_ge0, if_true, if_false, not_true, not_false_eq_true, Classical.not_not, true_or, or_true, false_or, n1_1, k10, Bool.true_eq_false, Bool.false_eq_true, Nat.le_refl, and_self, and_false, false_and, or_self, or_false, i_irr, i_rfl, P.oc, P.g0, Foc, h9]
    refine cl_mono (c_copyFoam P.2 F (R.frP F2 hd) (by omega)) ?_
    rintro r μ3 ⟨rfl, R3, F3⟩
    simp (disch := first | omega | assumption) only [wp_al0 (y := zX3_bestSeed) dX3_bestSeed_20, wp_getf (y := zX3_bestSeed) kF3_12 dX3_bestSeed_21, wp_il2 (y := zX3_bestSeed) dX3_bestSeed_24, wp_il7 (y := zX3_bestSeed) dX3_bestSeed_25, wp_iadd (y := zX3_bestSeed) dX3_bestSeed_27, wp_il4 (y := zX3_bestSeed) dX3_bestSeed_28, wp_il5 (y := zX3_bestSeed) dX3_bestSeed_30, wp_cv3 (y := zX3_bestSeed) kM3_87 (by decide) dX3_bestSeed_32, (show yo zX1_jolt = 1 from rfl), mm_op_some, true_and, and_true, mm_rc_some, mm_rc_none, nI_xor, tw_xor, pk_mul, nI_add, mm_in_t, nI_clamp, ok0, ok1, ok2, ok3, ok4, n1_0, n0_0, n0_zz, n1_zz, bI_eq0, bI_ne0, bI_zz, nI_le_, nI_lt_, nI_eq_, nI_lt0, nI_ge0, nI_gt0, nI_le0, nI_eq0, m1_lt0, m1_ge0, if_true, if_false, not_true, not_false_eq_true, Classical.not_not, true_or, or_true, false_or, n1_1, k10, Bool.true_eq_false, Bool.false_eq_true, Nat.le_refl, and_self, and_false, false_and, or_self, or_false, i_irr, i_rfl, P.oc, P.g0, Foc]
    refine cl_mono (c_jolt P.2 G R3 hI_ (seed + i) n h (by omega) hn) ?_
    rintro r μ4 ⟨rfl, ⟨R4, I4⟩, F4⟩
    simp (disch := first | omega | assumption) only [wp_pop_int (y := zX3_bestSeed) dX3_bestSeed_35, wp_al0 (y := zX3_bestSeed) dX3_bestSeed_36, wp_getf (y := zX3_bestSeed) kF3_12 dX3_bestSeed_37, wp_cv0 (y := zX3_bestSeed) kM3_91 (by decide) dX3_bestSeed_40, (show yo zX1_calm = 1 from rfl), mm_op_some, true_and, and_true, mm_rc_some, mm_rc_none, nI_xor, tw_xor, pk_mul, nI_add, mm_in_t, nI_clamp, ok0, ok1, ok2, ok3, ok4, n1_0, n0_0, n0_zz, n1_zz, bI_eq0, bI_ne0, bI_zz, nI_le_, nI_lt_, nI_eq_, nI_lt0, nI_ge0, nI_gt0, nI_le0, nI_eq0, m1_lt0, m1_ge0, if_true, if_false, not_true, not_false_eq_true, Classical.not_not, true_or, or_true, false_or, n1_1, k10, Bool.true_eq_false, Bool.false_eq_true, Nat.le_refl, and_self, and_false, false_and, or_self, or_false, i_irr, i_rfl, P.oc, P.g0, Foc]
    refine cl_mono (c_calm P.2 G R4 I4) ?_
    rintro r μ5 ⟨rfl, ⟨R5, I5⟩, F5⟩
    have B5 := (G.1 _ I5).1
    have FF : FrP μ μ5 p := ((F2.trans (FrF.p F3)).trans (FrF.p F4)).trans (FrF.p F5)
    have hz5 : μ5 p 1 = z2 := by rw [F5 p (by omega), F4 p (by omega), F3 p (by omega)]; exact hz
    have E1 : ∀ Q', cl sh zX2_strain [.ref (p + 1 + 1)] μ5 Q' = Q' (some (.int (stn (caF 1000000 0 (jlF h n (seed + i) s).2.2).2.1))) μ5 := fun Q' => c_strain S R5.1 B5
    generalize stn (caF 1000000 0 (jlF h n (seed + i) s).2.2).2.1 = zz at E1 kk
    have FM : FrP μ (mu μ5 p (upd (μ5 p) 1 zz)) p := fun a ha => by rw [mu_n _ _ (by omega)]; exact FF a ha
    have hM : mu μ5 p (upd (μ5 p) 1 zz) p 1 = zz := by rw [mu_s, upd_s]
    by_cases hb : b2 < 0
    · simp only [hb, if_true] at kk
      simp (disch := first | omega | assumption) only [wp_pop_int (y := zX3_bestSeed) dX3_bestSeed_43, wp_al0 (y := zX3_bestSeed) dX3_bestSeed_44, wp_getf (y := zX3_bestSeed) kF3_12 dX3_bestSeed_45, wp_getf (y := zX3_bestSeed) kF3_22 dX3_bestSeed_48, wp_cv0 (y := zX3_bestSeed) kM3_26 (by decide) dX3_bestSeed_51, (show yo zX2_strain = 2 from rfl), wp_is8 (y := zX3_bestSeed) dX3_bestSeed_54, wp_il6 (y := zX3_bestSeed) dX3_bestSeed_56, wp_if_lt (y := zX3_bestSeed) 70 (by decide) dX3_bestSeed_58, wp_il2 (y := zX3_bestSeed) dX3_bestSeed_70, wp_il7 (y := zX3_bestSeed) dX3_bestSeed_71, wp_iadd (y := zX3_bestSeed) dX3_bestSeed_73, wp_is6 (y := zX3_bestSeed) dX3_bestSeed_74, wp_al0 (y := zX3_bestSeed) dX3_bestSeed_76, wp_il8 (y := zX3_bestSeed) dX3_bestSeed_77, wp_putf (y := zX3_bestSeed) kF3_94 rfl dX3_bestSeed_79, wp_inc7 (y := zX3_bestSeed) (nI 1) ki_1 dX3_bestSeed_82, wp_goto (y := zX3_bestSeed) 6 (by decide) dX3_bestSeed_85, mm_op_some, true_and, and_true, mm_rc_some, mm_rc_none, nI_xor, tw_xor, pk_mul, nI_add, mm_in_t, nI_clamp, ok0, ok1, ok2, ok3, ok4, n1_0, n0_0, n0_zz, n1_zz, bI_eq0, bI_ne0, bI_zz, nI_le_, nI_lt_, nI_eq_, nI_lt0, nI_ge0, nI_gt0, nI_le0, nI_eq0, m1_lt0, m1_ge0, if_true, if_false, not_true, not_false_eq_true, Classical.not_not, true_or, or_true, false_or, n1_1, k10, Bool.true_eq_false, Bool.false_eq_true, Nat.le_refl, and_self, and_false, false_and, or_self, or_false, i_irr, i_rfl, P.oc, P.g0, P.p1, P.2.g0, Moc, E1, hb]
      exact kk _ _ _ _ ⟨rfl, hM, FM⟩
    · simp only [hb, if_false] at kk
      by_cases hc : zz < z2
      · have hc' : (z2 ≤ zz) = False := i_nle hc
        simp only [hc, if_true] at kk
        simp (disch := first | omega | assumption) only [wp_pop_int (y := zX3_bestSeed) dX3_bestSeed_43, wp_al0 (y := zX3_bestSeed) dX3_bestSeed_44, wp_getf (y := zX3_bestSeed) kF3_12 dX3_bestSeed_45, wp_getf (y := zX3_bestSeed) kF3_22 dX3_bestSeed_48, wp_cv0 (y := zX3_bestSeed) kM3_26 (by decide) dX3_bestSeed_51, (show yo zX2_strain = 2 from rfl), wp_is8 (y := zX3_bestSeed) dX3_bestSeed_54, wp_il6 (y := zX3_bestSeed) dX3_bestSeed_56, wp_if_lt (y := zX3_bestSeed) 70 (by decide) dX3_bestSeed_58, wp_il8 (y := zX3_bestSeed) dX3_bestSeed_61, wp_al0 (y := zX3_bestSeed) dX3_bestSeed_63, wp_getf (y := zX3_bestSeed) kF3_94 dX3_bestSeed_64, wp_icmp_ge (y := zX3_bestSeed) 82 (by decide) dX3_bestSeed_67, wp_il2 (y := zX3_bestSeed) dX3_bestSeed_70, wp_il7 (y := zX3_bestSeed) dX3_bestSeed_71, wp_iadd (y := zX3_bestSeed) dX3_bestSeed_73, wp_is6 (y := zX3_bestSeed) dX3_bestSeed_74, wp_al0 (y := zX3_bestSeed) dX3_bestSeed_76, wp_il8 (y := zX3_bestSeed) dX3_bestSeed_77, wp_putf (y := zX3_bestSeed) kF3_94 rfl dX3_bestSeed_79, wp_inc7 (y := zX3_bestSeed) (nI 1) ki_1 dX3_bestSeed_82, wp_goto (y := zX3_bestSeed) 6 (by decide) dX3_bestSeed_85, mm_op_some, true_and, and_true, mm_rc_some, mm_rc_none, nI_xor, tw_xor, pk_mul, nI_add, mm_in_t, nI_clamp, ok0, ok1, ok2, ok3, ok4, n1_0, n0_0, n0_zz, n1_zz, bI_eq0, bI_ne0, bI_zz, nI_le_, nI_lt_, nI_eq_, nI_lt0, nI_ge0, nI_gt0, nI_le0, nI_eq0, m1_lt0, m1_ge0, if_true, if_false, not_true, not_false_eq_true, Classical.not_not, true_or, or_true, false_or, n1_1, k10, Bool.true_eq_false, Bool.false_eq_true, Nat.le_refl, and_self, and_false, false_and, or_self, or_false, i_irr, i_rfl, P.oc, P.g0, P.g1, P.p1, P.2.g0, Moc, E1, hb, hz5, hc']
        exact kk _ _ _ _ ⟨rfl, hM, FM⟩
      · have hc' : (z2 ≤ zz) = True := i_le hc
        simp only [hc, if_false] at kk
        simp (disch := first | omega | assumption) only [wp_pop_int (y := zX3_bestSeed) dX3_bestSeed_43, wp_al0 (y := zX3_bestSeed) dX3_bestSeed_44, wp_getf (y := zX3_bestSeed) kF3_12 dX3_bestSeed_45, wp_getf (y := zX3_bestSeed) kF3_22 dX3_bestSeed_48, wp_cv0 (y := zX3_bestSeed) kM3_26 (by decide) dX3_bestSeed_51, (show yo zX2_strain = 2 from rfl), wp_is8 (y := zX3_bestSeed) dX3_bestSeed_54, wp_il6 (y := zX3_bestSeed) dX3_bestSeed_56, wp_if_lt (y := zX3_bestSeed) 70 (by decide) dX3_bestSeed_58, wp_il8 (y := zX3_bestSeed) dX3_bestSeed_61, wp_al0 (y := zX3_bestSeed) dX3_bestSeed_63, wp_getf (y := zX3_bestSeed) kF3_94 dX3_bestSeed_64, wp_icmp_ge (y := zX3_bestSeed) 82 (by decide) dX3_bestSeed_67, wp_inc7 (y := zX3_bestSeed) (nI 1) ki_1 dX3_bestSeed_82, wp_goto (y := zX3_bestSeed) 6 (by decide) dX3_bestSeed_85, mm_op_some, true_and, and_true, mm_rc_some, mm_rc_none, nI_xor, tw_xor, pk_mul, nI_add, mm_in_t, nI_clamp, ok0, ok1, ok2, ok3, ok4, n1_0, n0_0, n0_zz, n1_zz, bI_eq0, bI_ne0, bI_zz, nI_le_, nI_lt_, nI_eq_, nI_lt0, nI_ge0, nI_gt0, nI_le0, nI_eq0, m1_lt0, m1_ge0, if_true, if_false, not_true, not_false_eq_true, Classical.not_not, true_or, or_true, false_or, n1_1, k10, Bool.true_eq_false, Bool.false_eq_true, Nat.le_refl, and_self, and_false, false_and, or_self, or_false, i_irr, i_rfl, P.oc, P.g0, P.g1, P.p1, P.2.g0, Moc, E1, hb, hz5, hc']
        exact kk _ _ _ _ ⟨rfl, hz5, FF⟩
  · rintro ⟨⟨μ2, v⟩, a⟩ ⟨e0, hz, F2⟩
    dsimp only at e0 hz F2 ⊢
    rw [← e0] at hres
    subst hres
    rw [wp_il7 (y := zX3_bestSeed) dX3_bestSeed_6]
    simp (disch := first | omega | assumption) only [wp_il3 (y := zX3_bestSeed) dX3_bestSeed_8, wp_icmp_ge (y := zX3_bestSeed) 88 (by decide) dX3_bestSeed_9, wp_il6 (y := zX3_bestSeed) dX3_bestSeed_88, wp_ireti (y := zX3_bestSeed) rfl dX3_bestSeed_90, mm_op_some, true_and, and_true, mm_rc_some, mm_rc_none, nI_xor, tw_xor, pk_mul, nI_add, mm_in_t, nI_clamp, ok0, ok1, ok2, ok3, ok4, n1_0, n0_0, n0_zz, n1_zz, bI_eq0, bI_ne0, bI_zz, nI_le_, nI_lt_, nI_eq_, nI_lt0, nI_ge0, nI_gt0, nI_le0, nI_eq0, m1_lt0, m1_ge0, if_true, if_false, not_true, not_false_eq_true, Classical.not_not, true_or, or_true, false_or, n1_1, k10, Bool.true_eq_false, Bool.false_eq_true, Nat.le_refl, and_self, and_false, false_and, or_self, or_false, i_irr, i_rfl]
    exact ⟨hz, F2⟩
end PA4
