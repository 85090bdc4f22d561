/-- RELAX: swaps of the easiest wall, at most d -/
def caF : Nat → Nat → Fo → Nat × Fo
  | 0, k, s => (k, s)
  | d + 1, k, s => if (es s.1).1 < 0 then (k, s) else caF d (k + 1) (fEv s (flM s.1 (wI (es s.1).1.toNatClampNeg)) 0 7 (es s.1).1)
/-- SHAKE: one try -/
def jlS (h : Int32) (a : Nat × Nat × Fo) : Nat × Nat × Fo :=
  let z := (1103 * a.1 + 12345) % 1000003
  let w := wI (z % 144)
  if lv a.2.2.1 w = true then (if can a.2.2.1 w = true then (if ease a.2.2.1 w < -h then (z, a.2.1, a.2.2) else (z, a.2.1 + 1, fEv a.2.2 (flM a.2.2.1 w) 0 7 (nI (z % 144)))) else (z, a.2.1, a.2.2)) else (z, a.2.1, a.2.2)
def jlF (h : Int32) (n : Nat) (seed : Nat) (s : Fo) : Nat × Nat × Fo := it (fun _ a => jlS h a) n 0 (seed, 0, s)
theorem km6 : (1000000 : Int32) = nI 1000000 := rfl
theorem km7 : (1000003 : Int32) = nI 1000003 := rfl
theorem nI_rem {a c : Nat} (ha : a < 2 ^ 31) (hc : c < 2 ^ 31) (h0 : 0 < c) : nI a - nI a / nI c * nI c = nI (a % c) := by
  have h1 : a / c * c ≤ a := Nat.div_mul_le_self a c
  rw [pk_div ha h0 hc, pk_mul, pk_sub h1]
  congr 1
  have := Nat.div_add_mod a c
  rw [Nat.mul_comm] at this
  omega
section FO4
variable {sh : mm_Sh} {f : Nat} {μ μ1 : mm_U} {s : Fo} {I : Ms → Prop}
theorem ca_loop (F : FoSh sh f) (G : GoodI I) : ∀ (d k : Nat) (s : Fo) (μ1 : mm_U) (v : Value), k + d = 1000000 → RepF s μ1 f → I s.1 → FrF μ μ1 f → wp sh zX1_calm 2 [.ref f, .int (nI k), v] [] μ1 (fun r μ' => r = some (.int (nI (caF d k s).1)) ∧ (RepF (caF d k s).2 μ' f ∧ I (caF d k s).2.1) ∧ FrF μ μ' f) := by
  have S := F.2.1
  have Soc := S.oc
  intro d
  induction d with
  | zero =>
    intro k s μ1 v hk R hI_ F1
    have h9 : k = 1000000 := by omega
    subst h9
    show wp sh zX1_calm 2 [.ref f, .int (nI 1000000), v] [] μ1 (fun r μ' => r = some (.int (nI 1000000)) ∧ (RepF s μ' f ∧ I s.1) ∧ FrF μ μ' f)
    rw [wp_il1 (y := zX1_calm) dX1_calm_2]
    simp (disch := first | omega | assumption) only [wp_ldc (y := zX1_calm) kC1_133 dX1_calm_3, wp_icmp_ge (y := zX1_calm) 33 (by decide) dX1_calm_5, wp_ldc (y := zX1_calm) kC1_133 dX1_calm_33, wp_ireti (y := zX1_calm) rfl dX1_calm_35, mm_op_some, true_and, and_true, mm_rc_some, mm_rc_none, nI_xor, tw_xor, pk_mul, nI_add, mm_in_t, nI_clamp, ok0, ok1, ok2, ok3, ok4, n1_0, n0_0, n0_zz, n1_zz, bI_eq0, bI_ne0, bI_zz, nI_le_, nI_lt_, nI_eq_, nI_lt0, nI_ge0, nI_gt0, nI_le0, nI_eq0, m1_lt0, m1_ge0, if_true, if_false, not_true, not_false_eq_true, Classical.not_not, true_or, or_true, false_or, n1_1, k10, Bool.true_eq_false, Bool.false_eq_true, Nat.le_refl, and_self, and_false, false_and, or_self, or_false, i_irr, i_rfl, km6]
    exact ⟨⟨R, hI_⟩, F1⟩
  | succ d ih =>
    intro k s μ1 v hk R hI_ F1
    have h9 : ¬ 1000000 ≤ k := by omega
    obtain ⟨B, L⟩ := G.1 _ hI_
    have E1 : ∀ Q', cl sh zX2_easiestWall [.ref (f + 1)] μ1 Q' = Q' (some (.int (es s.1).1)) μ1 := fun Q' => c_easiestWall S R.1 B L
    rw [wp_il1 (y := zX1_calm) dX1_calm_2]
    unfold caF
    by_cases he : (es s.1).1 < 0
    · have he' : (0 ≤ (es s.1).1) = False := eq_false (fun q => by rw [Int32.le_iff_toInt_le] at q; rw [Int32.lt_iff_toInt_lt] at he; omega)
      simp only [he, if_true]
      simp (disch := first | omega | assumption) only [wp_ldc (y := zX1_calm) kC1_133 dX1_calm_3, wp_icmp_ge (y := zX1_calm) 33 (by decide) dX1_calm_5, wp_al0 (y := zX1_calm) dX1_calm_8, wp_getf (y := zX1_calm) kF1_12 dX1_calm_9, wp_cv0 (y := zX1_calm) kM1_134 (by decide) dX1_calm_12, (show yo zX2_easiestWall = 2 from rfl), wp_is2 (y := zX1_calm) dX1_calm_15, wp_il2 (y := zX1_calm) dX1_calm_16, wp_if_ge (y := zX1_calm) 22 (by decide) dX1_calm_17, wp_il1 (y := zX1_calm) dX1_calm_20, wp_ireti (y := zX1_calm) rfl dX1_calm_21, mm_op_some, true_and, and_true, mm_rc_some, mm_rc_none, nI_xor, tw_xor, pk_mul, nI_add, mm_in_t, nI_clamp, ok0, ok1, ok2, ok3, ok4, n1_0, n0_0, n0_zz, n1_zz, bI_eq0, bI_ne0, bI_zz, nI_le_, nI_lt_, nI_eq_, nI_lt0, nI_ge0, nI_gt0, nI_le0, nI_eq0, m1_lt0, m1_ge0, if_true, if_false, not_true, not_false_eq_true, Classical.not_not, true_or, or_true, false_or, n1_1, k10, Bool.true_eq_false, Bool.false_eq_true, Nat.le_refl, and_self, and_false, false_and, or_self, or_false, i_irr, i_rfl, F.oc, F.g0, F.g1, F.g2, F.g3, F.g4, F.g5, F.g6, F.g7, F.g8, F.g9, F.g10, F.p3, F.p4, F.p5, F.p6, F.p7, F.p8, F.p9, F.p10, F.a14, Soc, km6, h9, E1, he']
      exact ⟨⟨R, hI_⟩, F1⟩
    · have he' : (0 ≤ (es s.1).1) = True := eq_true (by rw [Int32.le_iff_toInt_le]; rw [Int32.lt_iff_toInt_lt] at he; omega)
      simp only [he, if_false]
      obtain ⟨w, q1, q2, q3⟩ := G.2.2.2.2.2.2.2 _ hI_ he
      obtain ⟨q4, q5⟩ := G.2.1 _ w hI_ q2 q3
      have ew : wI (es s.1).1.toNatClampNeg = w := by rw [q1, wa_cl]; exact wI_val w
      rw [ew]
      simp (disch := first | omega | assumption) only [wp_ldc (y := zX1_calm) kC1_133 dX1_calm_3, wp_icmp_ge (y := zX1_calm) 33 (by decide) dX1_calm_5, wp_al0 (y := zX1_calm) dX1_calm_8, wp_getf (y := zX1_calm) kF1_12 dX1_calm_9, wp_cv0 (y := zX1_calm) kM1_134 (by decide) dX1_calm_12, (show yo zX2_easiestWall = 2 from rfl), wp_is2 (y := zX1_calm) dX1_calm_15, wp_il2 (y := zX1_calm) dX1_calm_16, wp_if_ge (y := zX1_calm) 22 (by decide) dX1_calm_17, wp_il1 (y := zX1_calm) dX1_calm_20, wp_ireti (y := zX1_calm) rfl dX1_calm_21, wp_al0 (y := zX1_calm) dX1_calm_22, wp_il2 (y := zX1_calm) dX1_calm_23, wp_cv1 (y := zX1_calm) kM1_109 (by decide) dX1_calm_24, (show yo zX1_flipWall = 1 from rfl), mm_op_some, true_and, and_true, mm_rc_some, mm_rc_none, nI_xor, tw_xor, pk_mul, nI_add, mm_in_t, nI_clamp, ok0, ok1, ok2, ok3, ok4, n1_0, n0_0, n0_zz, n1_zz, bI_eq0, bI_ne0, bI_zz, nI_le_, nI_lt_, nI_eq_, nI_lt0, nI_ge0, nI_gt0, nI_le0, nI_eq0, m1_lt0, m1_ge0, if_true, if_false, not_true, not_false_eq_true, Classical.not_not, true_or, or_true, false_or, n1_1, k10, Bool.true_eq_false, Bool.false_eq_true, Nat.le_refl, and_self, and_false, false_and, or_self, or_false, i_irr, i_rfl, F.oc, F.g0, F.g1, F.g2, F.g3, F.g4, F.g5, F.g6, F.g7, F.g8, F.g9, F.g10, F.p3, F.p4, F.p5, F.p6, F.p7, F.p8, F.p9, F.p10, F.a14, Soc, km6, h9, E1, he']
      rw [q1]
      refine cl_mono (c_flipWall F R B w q4) ?_
      rintro r μ2 ⟨rfl, R2, F2⟩
      simp (disch := first | omega | assumption) only [wp_inc1 (y := zX1_calm) (nI 1) ki_1 dX1_calm_27, wp_goto (y := zX1_calm) 2 (by decide) dX1_calm_30, mm_op_some, true_and, and_true, mm_rc_some, mm_rc_none, nI_xor, tw_xor, pk_mul, nI_add, mm_in_t, nI_clamp, ok0, ok1, ok2, ok3, ok4, n1_0, n0_0, n0_zz, n1_zz, bI_eq0, bI_ne0, bI_zz, nI_le_, nI_lt_, nI_eq_, nI_lt0, nI_ge0, nI_gt0, nI_le0, nI_eq0, m1_lt0, m1_ge0, if_true, if_false, not_true, not_false_eq_true, Classical.not_not, true_or, or_true, false_or, n1_1, k10, Bool.true_eq_false, Bool.false_eq_true, Nat.le_refl, and_self, and_false, false_and, or_self, or_false, i_irr, i_rfl]
      exact ih (k + 1) _ μ2 _ (by omega) R2 q5 (F1.trans F2)
theorem c_calm (F : FoSh sh f) (G : GoodI I) (R : RepF s μ f) (hI_ : I s.1) : cl sh zX1_calm [.ref f] μ (fun r μ' => r = some (.int (nI (caF 1000000 0 s).1)) ∧ (RepF (caF 1000000 0 s).2 μ' f ∧ I (caF 1000000 0 s).2.1) ∧ FrF μ μ' f) := by
  have K := ca_loop F G 1000000 0 s μ .null (by omega) R hI_ (FrF.refl μ f)
  show wp sh zX1_calm 0 [.ref f, .null, .null] [] μ _
  generalize caF 1000000 0 s = res at K ⊢
  simp (disch := first | omega | assumption) only [wp_iconst (y := zX1_calm) (nI 0) ki_0 dX1_calm_0, wp_is1 (y := zX1_calm) dX1_calm_1]
  exact K
theorem c_jolt (F : FoSh sh f) (G : GoodI I) (R : RepF s μ f) (hI_ : I s.1) (seed n : Nat) (h : Int32) (hs : seed < 1900000) (hn : n < 2 ^ 30) : cl sh zX1_jolt [.ref f, .int (nI seed), .int (nI n), .int h] μ (fun r μ' => r = some (.int (nI (jlF h n seed s).2.1)) ∧ (RepF (jlF h n seed s).2.2 μ' f ∧ I (jlF h n seed s).2.2.1) ∧ FrF μ μ' f) := by
  obtain ⟨g1, g2, -⟩ := G
  have S := F.2.1
  have Soc := S.oc
  show wp sh zX1_jolt 0 [.ref f, .int (nI seed), .int (nI n), .int h, .null, .null, .null, .null] [] μ _
  simp (disch := first | omega | assumption) only [wp_iconst (y := zX1_jolt) (nI 0) ki_0 dX1_jolt_0, wp_is4 (y := zX1_jolt) dX1_jolt_1, wp_il1 (y := zX1_jolt) dX1_jolt_3, wp_is5 (y := zX1_jolt) dX1_jolt_4, wp_iconst (y := zX1_jolt) (nI 0) ki_0 dX1_jolt_6, wp_is6 (y := zX1_jolt) dX1_jolt_7]
  unfold jlF
  generalize hres : it (fun _ a => jlS h a) n 0 (seed, 0, s) = res
  refine lpI n (fun i (a : (mm_U × Value) × (Nat × Nat × Fo)) => wp sh zX1_jolt 9 [.ref f, .int (nI seed), .int (nI n), .int h, .int (nI a.2.2.1), .int (nI a.2.1), .int (nI i), a.1.2] [] a.1.1 (fun r μ' => r = some (.int (nI res.2.1)) ∧ (RepF res.2.2 μ' f ∧ I res.2.2.1) ∧ FrF μ μ' f)) (fun i a => a.2 = it (fun _ a => jlS h a) i 0 (seed, 0, s) ∧ a.2.1 < 1900000 ∧ a.2.2.1 ≤ i ∧ (RepF a.2.2.2 a.1.1 f ∧ I a.2.2.2.1) ∧ FrF μ a.1.1 f) ?_ ?_ ((μ, .null), (seed, 0, s)) ⟨rfl, hs, Nat.le_refl _, ⟨R, hI_⟩, FrF.refl _ _⟩
  · rintro i ⟨⟨μ1, v⟩, z, m, s1⟩ hi ⟨e0, hz, hm, ⟨R1, I1⟩, F1⟩ kk
    replace kk := fun (μ' : mm_U) (v : Value) (z m : Nat) (s' : Fo) q => kk ((μ', v), z, m, s') q
    dsimp only at e0 hz hm R1 I1 F1 kk ⊢
    rw [it_last0, ← e0] at kk
    obtain ⟨B, L⟩ := g1 _ I1
    have h9 : ¬ n ≤ i := by omega
    have k7 : ¬ nI 1000003 = 0 := by decide
    have k8 : ¬ nI 144 = 0 := by decide
    have m1 : nI (1103 * z + 12345) - nI (1103 * z + 12345) / nI 1000003 * nI 1000003 = nI ((1103 * z + 12345) % 1000003) := nI_rem (by omega) (by omega) (by omega)
    have m2 : nI ((1103 * z + 12345) % 1000003) - nI ((1103 * z + 12345) % 1000003) / nI 144 * nI 144 = nI ((1103 * z + 12345) % 1000003 % 144) := nI_rem (by omega) (by omega) (by omega)
    unfold jlS at kk
    dsimp only at kk
    rw [wp_il6 (y := zX1_jolt) dX1_jolt_9]
    have hz' : (1103 * z + 12345) % 1000003 < 1000003 := Nat.mod_lt _ (by omega)
    generalize hzz : (1103 * z + 12345) % 1000003 = z' at m1 m2 kk hz'
    have hw : z' % 144 < 144 := Nat.mod_lt _ (by omega)
    have iv := wI_lt hw
    by_cases hl : lv s1.1 (wI (z' % 144)) = true
    · have E1 : ∀ Q', cl sh zX2_hasWall [.ref (f + 1), .int (nI (z' % 144))] μ1 Q' = Q' (some (.int (nI 1))) μ1 := fun Q' => c_hasWall1 S R1.1 hw hl
      have E2 : ∀ Q', cl sh zX2_canFlip [.ref (f + 1), .int (nI (z' % 144))] μ1 Q' = Q' (some (.int (bI (can s1.1 (wI (z' % 144)))))) μ1 := fun Q' => by
        have := c_canFlip (Q := Q') S R1.1 B L (wI (z' % 144)) hl
        rw [iv] at this
        exact this
      have E3 : ∀ Q', cl sh zX2_easing [.ref (f + 1), .int (nI (z' % 144))] μ1 Q' = Q' (some (.int (ease s1.1 (wI (z' % 144))))) μ1 := fun Q' => by
        have := c_easing (Q := Q') S R1.1 L (wI (z' % 144)) hl
        rw [iv] at this
        exact this
      simp only [hl, if_true] at kk
      by_cases hc : can s1.1 (wI (z' % 144)) = true
      · simp only [hc, if_true] at kk
        rw [hc] at E2
        by_cases he : ease s1.1 (wI (z' % 144)) < -h
        · simp only [he, if_true] at kk
          simp (disch := first | omega | assumption) only [wp_il2 (y := zX1_jolt) dX1_jolt_11, wp_icmp_ge (y := zX1_jolt) 91 (by decide) dX1_jolt_12, wp_sipush (y := zX1_jolt) (nI 1103) ks_1103 dX1_jolt_15, wp_il5 (y := zX1_jolt) dX1_jolt_18, wp_imul (y := zX1_jolt) dX1_jolt_20, wp_sipush (y := zX1_jolt) (nI 12345) ks_12345 dX1_jolt_21, wp_iadd (y := zX1_jolt) dX1_jolt_24, wp_ldc (y := zX1_jolt) kC1_138 dX1_jolt_25, wp_irem' (y := zX1_jolt) dX1_jolt_27, wp_is5 (y := zX1_jolt) dX1_jolt_28, wp_il5 (y := zX1_jolt) dX1_jolt_30, wp_sipush (y := zX1_jolt) (nI 144) ks_144 dX1_jolt_32, wp_irem' (y := zX1_jolt) dX1_jolt_35, wp_is7 (y := zX1_jolt) dX1_jolt_36, wp_al0 (y := zX1_jolt) dX1_jolt_38, wp_getf (y := zX1_jolt) kF1_12 dX1_jolt_39, wp_il7 (y := zX1_jolt) dX1_jolt_42, wp_cv1 (y := zX1_jolt) kM1_99 (by decide) dX1_jolt_44, (show yo zX2_hasWall = 2 from rfl), wp_if_eq (y := zX1_jolt) 85 (by decide) dX1_jolt_47, wp_al0 (y := zX1_jolt) dX1_jolt_50, wp_getf (y := zX1_jolt) kF1_12 dX1_jolt_51, wp_il7 (y := zX1_jolt) dX1_jolt_54, wp_cv1 (y := zX1_jolt) kM1_106 (by decide) dX1_jolt_56, (show yo zX2_canFlip = 2 from rfl), wp_if_eq (y := zX1_jolt) 85 (by decide) dX1_jolt_59, wp_al0 (y := zX1_jolt) dX1_jolt_62, wp_getf (y := zX1_jolt) kF1_12 dX1_jolt_63, wp_il7 (y := zX1_jolt) dX1_jolt_66, wp_cv1 (y := zX1_jolt) kM1_139 (by decide) dX1_jolt_68, (show yo zX2_easing = 2 from rfl), wp_il3 (y := zX1_jolt) dX1_jolt_71, wp_ineg (y := zX1_jolt) dX1_jolt_72, wp_icmp_lt (y := zX1_jolt) 85 (by decide) dX1_jolt_73, wp_inc6 (y := zX1_jolt) (nI 1) ki_1 dX1_jolt_85, wp_goto (y := zX1_jolt) 9 (by decide) dX1_jolt_88, mm_op_some, true_and, and_true, mm_rc_some, mm_rc_none, nI_xor, tw_xor, pk_mul, nI_add, mm_in_t, nI_clamp, ok0, ok1, ok2, ok3, ok4, n1_0, n0_0, n0_zz, n1_zz, bI_eq0, bI_ne0, bI_zz, nI_le_, nI_lt_, nI_eq_, nI_lt0, nI_ge0, nI_gt0, nI_le0, nI_eq0, m1_lt0, m1_ge0, if_true, if_false, not_true, not_false_eq_true, Classical.not_not, true_or, or_true, false_or, n1_1, k10, Bool.true_eq_false, Bool.false_eq_true, Nat.le_refl, and_self, and_false, false_and, or_self, or_false, i_irr, i_rfl, F.oc, F.g0, F.g1, F.g2, F.g3, F.g4, F.g5, F.g6, F.g7, F.g8, F.g9, F.g10, F.p3, F.p4, F.p5, F.p6, F.p7, F.p8, F.p9, F.p10, F.a14, Soc, h9, km7, k7, k8, m1, m2, E1, E2, E3, bI_t, he]
          exact kk _ _ _ _ _ ⟨rfl, by omega, by omega, ⟨R1, I1⟩, F1⟩
        · simp only [he, if_false] at kk
          obtain ⟨q3, q4⟩ := g2 _ _ I1 hl hc
          have K := c_flipWall F R1 B (wI (z' % 144)) q3
          rw [iv] at K
          simp (disch := first | omega | assumption) only [wp_il2 (y := zX1_jolt) dX1_jolt_11, wp_icmp_ge (y := zX1_jolt) 91 (by decide) dX1_jolt_12, wp_sipush (y := zX1_jolt) (nI 1103) ks_1103 dX1_jolt_15, wp_il5 (y := zX1_jolt) dX1_jolt_18, wp_imul (y := zX1_jolt) dX1_jolt_20, wp_sipush (y := zX1_jolt) (nI 12345) ks_12345 dX1_jolt_21, wp_iadd (y := zX1_jolt) dX1_jolt_24, wp_ldc (y := zX1_jolt) kC1_138 dX1_jolt_25, wp_irem' (y := zX1_jolt) dX1_jolt_27, wp_is5 (y := zX1_jolt) dX1_jolt_28, wp_il5 (y := zX1_jolt) dX1_jolt_30, wp_sipush (y := zX1_jolt) (nI 144) ks_144 dX1_jolt_32, wp_irem' (y := zX1_jolt) dX1_jolt_35, wp_is7 (y := zX1_jolt) dX1_jolt_36, wp_al0 (y := zX1_jolt) dX1_jolt_38, wp_getf (y := zX1_jolt) kF1_12 dX1_jolt_39, wp_il7 (y := zX1_jolt) dX1_jolt_42, wp_cv1 (y := zX1_jolt) kM1_99 (by decide) dX1_jolt_44, (show yo zX2_hasWall = 2 from rfl), wp_if_eq (y := zX1_jolt) 85 (by decide) dX1_jolt_47, wp_al0 (y := zX1_jolt) dX1_jolt_50, wp_getf (y := zX1_jolt) kF1_12 dX1_jolt_51, wp_il7 (y := zX1_jolt) dX1_jolt_54, wp_cv1 (y := zX1_jolt) kM1_106 (by decide) dX1_jolt_56, (show yo zX2_canFlip = 2 from rfl), wp_if_eq (y := zX1_jolt) 85 (by decide) dX1_jolt_59, wp_al0 (y := zX1_jolt) dX1_jolt_62, wp_getf (y := zX1_jolt) kF1_12 dX1_jolt_63, wp_il7 (y := zX1_jolt) dX1_jolt_66, wp_cv1 (y := zX1_jolt) kM1_139 (by decide) dX1_jolt_68, (show yo zX2_easing = 2 from rfl), wp_il3 (y := zX1_jolt) dX1_jolt_71, wp_ineg (y := zX1_jolt) dX1_jolt_72, wp_icmp_lt (y := zX1_jolt) 85 (by decide) dX1_jolt_73, wp_al0 (y := zX1_jolt) dX1_jolt_76, wp_il7 (y := zX1_jolt) dX1_jolt_77, wp_cv1 (y := zX1_jolt) kM1_109 (by decide) dX1_jolt_79, (show yo zX1_flipWall = 1 from rfl), mm_op_some, true_and, and_true, mm_rc_some, mm_rc_none, nI_xor, tw_xor, pk_mul, nI_add, mm_in_t, nI_clamp, ok0, ok1, ok2, ok3, ok4, n1_0, n0_0, n0_zz, n1_zz, bI_eq0, bI_ne0, bI_zz, nI_le_, nI_lt_, nI_eq_, nI_lt0, nI_ge0, nI_gt0, nI_le0, nI_eq0, m1_lt0, m1_ge0, if_true, if_false, not_true, not_false_eq_true, Classical.not_not, true_or, or_true, false_or, n1_1, k10, Bool.true_eq_false, Bool.false_eq_true, Nat.le_refl, and_self, and_false, false_and, or_self, or_false, i_irr, i_rfl, F.oc, F.g0, F.g1, F.g2, F.g3, F.g4, F.g5, F.g6, F.g7, F.g8, F.g9, F.g10, F.p3, F.p4, F.p5, F.p6, F.p7, F.p8, F.p9, F.p10, F.a14, Soc, h9, km7, k7, k8, m1, m2, E1, E2, E3, bI_t, he]
          refine cl_mono K ?_
          rintro r μ2 ⟨rfl, R2, F2⟩
          simp (disch := first | omega | assumption) only [wp_inc4 (y := zX1_jolt) (nI 1) ki_1 dX1_jolt_82, wp_inc6 (y := zX1_jolt) (nI 1) ki_1 dX1_jolt_85, wp_goto (y := zX1_jolt) 9 (by decide) dX1_jolt_88, mm_op_some, true_and, and_true, mm_rc_some, mm_rc_none, nI_xor, tw_xor, pk_mul, nI_add, mm_in_t, nI_clamp, ok0, ok1, ok2, ok3, ok4, n1_0, n0_0, n0_zz, n1_zz, bI_eq0, bI_ne0, bI_zz, nI_le_, nI_lt_, nI_eq_, nI_lt0, nI_ge0, nI_gt0, nI_le0, nI_eq0, m1_lt0, m1_ge0, if_true, if_false, not_true, not_false_eq_true, Classical.not_not, true_or, or_true, false_or, n1_1, k10, Bool.true_eq_false, Bool.false_eq_true, Nat.le_refl, and_self, and_false, false_and, or_self, or_false, i_irr, i_rfl]
          exact kk _ _ _ _ _ ⟨rfl, by omega, by omega, ⟨R2, q4⟩, F1.trans F2⟩
      · have hc' : can s1.1 (wI (z' % 144)) = false := Bool.eq_false_iff.mpr hc
        simp only [hc', if_false, Bool.false_eq_true] at kk
        rw [hc'] at E2
        simp (disch := first | omega | assumption) only [wp_il2 (y := zX1_jolt) dX1_jolt_11, wp_icmp_ge (y := zX1_jolt) 91 (by decide) dX1_jolt_12, wp_sipush (y := zX1_jolt) (nI 1103) ks_1103 dX1_jolt_15, wp_il5 (y := zX1_jolt) dX1_jolt_18, wp_imul (y := zX1_jolt) dX1_jolt_20, wp_sipush (y := zX1_jolt) (nI 12345) ks_12345 dX1_jolt_21, wp_iadd (y := zX1_jolt) dX1_jolt_24, wp_ldc (y := zX1_jolt) kC1_138 dX1_jolt_25, wp_irem' (y := zX1_jolt) dX1_jolt_27, wp_is5 (y := zX1_jolt) dX1_jolt_28, wp_il5 (y := zX1_jolt) dX1_jolt_30, wp_sipush (y := zX1_jolt) (nI 144) ks_144 dX1_jolt_32, wp_irem' (y := zX1_jolt) dX1_jolt_35, wp_is7 (y := zX1_jolt) dX1_jolt_36, wp_al0 (y := zX1_jolt) dX1_jolt_38, wp_getf (y := zX1_jolt) kF1_12 dX1_jolt_39, wp_il7 (y := zX1_jolt) dX1_jolt_42, wp_cv1 (y := zX1_jolt) kM1_99 (by decide) dX1_jolt_44, (show yo zX2_hasWall = 2 from rfl), wp_if_eq (y := zX1_jolt) 85 (by decide) dX1_jolt_47, wp_al0 (y := zX1_jolt) dX1_jolt_50, wp_getf (y := zX1_jolt) kF1_12 dX1_jolt_51, wp_il7 (y := zX1_jolt) dX1_jolt_54, wp_cv1 (y := zX1_jolt) kM1_106 (by decide) dX1_jolt_56, (show yo zX2_canFlip = 2 from rfl), wp_if_eq (y := zX1_jolt) 85 (by decide) dX1_jolt_59, wp_inc6 (y := zX1_jolt) (nI 1) ki_1 dX1_jolt_85, wp_goto (y := zX1_jolt) 9 (by decide) dX1_jolt_88, mm_op_some, true_and, and_true, mm_rc_some, mm_rc_none, nI_xor, tw_xor, pk_mul, nI_add, mm_in_t, nI_clamp, ok0, ok1, ok2, ok3, ok4, n1_0, n0_0, n0_zz, n1_zz, bI_eq0, bI_ne0, bI_zz, nI_le_, nI_lt_, nI_eq_, nI_lt0, nI_ge0, nI_gt0, nI_le0, nI_eq0, m1_lt0, m1_ge0, if_true, if_false, not_true, not_false_eq_true, Classical.not_not, true_or, or_true, false_or, n1_1, k10, Bool.true_eq_false, Bool.false_eq_true, Nat.le_refl, and_self, and_false, false_and, or_self, or_false, i_irr, i_rfl, F.oc, F.g0, F.g1, F.g2, F.g3, F.g4, F.g5, F.g6, F.g7, F.g8, F.g9, F.g10, F.p3, F.p4, F.p5, F.p6, F.p7, F.p8, F.p9, F.p10, F.a14, Soc, h9, km7, k7, k8, m1, m2, E1, E2, bI_f]
        exact kk _ _ _ _ _ ⟨rfl, by omega, by omega, ⟨R1, I1⟩, F1⟩
    · have E1 : ∀ Q', cl sh zX2_hasWall [.ref (f + 1), .int (nI (z' % 144))] μ1 Q' = Q' (some (.int (nI 0))) μ1 := fun Q' => c_hasWall0 S R1.1 hw hl
      have hl' : lv s1.1 (wI (z' % 144)) = false := Bool.eq_false_iff.mpr hl
      simp only [hl', if_false, Bool.false_eq_true] at kk
      simp (disch := first | omega | assumption) only [wp_il2 (y := zX1_jolt) dX1_jolt_11, wp_icmp_ge (y := zX1_jolt) 91 (by decide) dX1_jolt_12, wp_sipush (y := zX1_jolt) (nI 1103) ks_1103 dX1_jolt_15, wp_il5 (y := zX1_jolt) dX1_jolt_18, wp_imul (y := zX1_jolt) dX1_jolt_20, wp_sipush (y := zX1_jolt) (nI 12345) ks_12345 dX1_jolt_21, wp_iadd (y := zX1_jolt) dX1_jolt_24, wp_ldc (y := zX1_jolt) kC1_138 dX1_jolt_25, wp_irem' (y := zX1_jolt) dX1_jolt_27, wp_is5 (y := zX1_jolt) dX1_jolt_28, wp_il5 (y := zX1_jolt) dX1_jolt_30, wp_sipush (y := zX1_jolt) (nI 144) ks_144 dX1_jolt_32, wp_irem' (y := zX1_jolt) dX1_jolt_35, wp_is7 (y := zX1_jolt) dX1_jolt_36, wp_al0 (y := zX1_jolt) dX1_jolt_38, wp_getf (y := zX1_jolt) kF1_12 dX1_jolt_39, wp_il7 (y := zX1_jolt) dX1_jolt_42, wp_cv1 (y := zX1_jolt) kM1_99 (by decide) dX1_jolt_44, (show yo zX2_hasWall = 2 from rfl), wp_if_eq (y := zX1_jolt) 85 (by decide) dX1_jolt_47, wp_inc6 (y := zX1_jolt) (nI 1) ki_1 dX1_jolt_85, wp_goto (y := zX1_jolt) 9 (by decide) dX1_jolt_88, mm_op_some, true_and, and_true, mm_rc_some, mm_rc_none, nI_xor, tw_xor, pk_mul, nI_add, mm_in_t, nI_clamp, ok0, ok1, ok2, ok3, ok4, n1_0, n0_0, n0_zz, n1_zz, bI_eq0, bI_ne0, bI_zz, nI_le_, nI_lt_, nI_eq_, nI_lt0, nI_ge0, nI_gt0, nI_le0, nI_eq0, m1_lt0, m1_ge0, if_true, if_false, not_true, not_false_eq_true, Classical.not_not, true_or, or_true, false_or, n1_1, k10, Bool.true_eq_false, Bool.false_eq_true, Nat.le_refl, and_self, and_false, false_and, or_self, or_false, i_irr, i_rfl, F.oc, F.g0, F.g1, F.g2, F.g3, F.g4, F.g5, F.g6, F.g7, F.g8, F.g9, F.g10, F.p3, F.p4, F.p5, F.p6, F.p7, F.p8, F.p9, F.p10, F.a14, Soc, h9, km7, k7, k8, m1, m2, E1]
      exact kk _ _ _ _ _ ⟨rfl, by omega, by omega, ⟨R1, I1⟩, F1⟩
  · rintro ⟨⟨μ1, v⟩, a⟩ ⟨e0, hz, hm, R1, F1⟩
    dsimp only at e0 hz hm R1 F1 ⊢
    rw [← e0] at hres
    subst hres
    rw [wp_il6 (y := zX1_jolt) dX1_jolt_9]
    simp (disch := first | omega | assumption) only [wp_il2 (y := zX1_jolt) dX1_jolt_11, wp_icmp_ge (y := zX1_jolt) 91 (by decide) dX1_jolt_12, wp_il4 (y := zX1_jolt) dX1_jolt_91, wp_ireti (y := zX1_jolt) rfl dX1_jolt_93, mm_op_some, true_and, and_true, mm_rc_some, mm_rc_none, nI_xor, tw_xor, pk_mul, nI_add, mm_in_t, nI_clamp, ok0, ok1, ok2, ok3, ok4, n1_0, n0_0, n0_zz, n1_zz, bI_eq0, bI_ne0, bI_zz, nI_le_, nI_lt_, nI_eq_, nI_lt0, nI_ge0, nI_gt0, nI_le0, nI_eq0, m1_lt0, m1_ge0, if_true, if_false, not_true, not_false_eq_true, Classical.not_not, true_or, or_true, false_or, n1_1, k10, Bool.true_eq_false, Bool.false_eq_true, Nat.le_refl, and_self, and_false, false_and, or_self, or_false, i_irr, i_rfl]
    exact ⟨R1, F1⟩
end FO4
