section MLX
variable {sh : mm_Sh} {m : Nat} {M : Ms} {μ : mm_U} {s : Fo} {Q : Option Value → mm_U → Prop}
theorem m_layWays (O : MoSh sh m) (A : MeR M (μ (m + 1))) (J : Inv M) (least : Int32) (c : Ce) (hc : 0 < sd M c) : cl sh zX6_layWays [.ref m, .int (nI c.val), .int least] μ (fun r μ' => r = none ∧ FrA μ μ' (m + 8) ∧ (∀ v : P3, μ' (m + 8) v.val = fo ((srF M least c).1 v)) ∧ (∀ v e, (srF M least c).1 v = some e → e ≤ 1200)) := by
  show wp sh zX6_layWays 0 [.ref m, .int (nI c.val), .int least, .null, .null, .null] [] μ _
  have fin : ∀ (f : P3 → Option Nat) (μ' : mm_U), FrA μ μ' (m + 8) → DsG (Gr3 M least) (p3 c (nI 0) (nI 0)) f → (∀ v : P3, μ' (m + 8) v.val = fo (f v)) → (∀ v e, f v = some e → e ≤ 1200) → (fun (r : Option Value) (μ' : mm_U) => r = none ∧ FrA μ μ' (m + 8) ∧ (∀ v : P3, μ' (m + 8) v.val = fo ((srF M least c).1 v)) ∧ (∀ v e, (srF M least c).1 v = some e → e ≤ 1200)) none μ' := fun f μ' h1 h2 h3 h4 => by
    have e := h2.uniq (srd M least c)
    subst e
    exact ⟨rfl, h1, h3, h4⟩
  generalize (fun (r : Option Value) (μ' : mm_U) => r = none ∧ FrA μ μ' (m + 8) ∧ (∀ v : P3, μ' (m + 8) v.val = fo ((srF M least c).1 v)) ∧ (∀ v e, (srF M least c).1 v = some e → e ≤ 1200)) = QQ at fin ⊢
  have c0 : c3 (p3 c (nI 0) (nI 0)) = c := (p3_val nr0 nr0).2
  have EST : ∀ μ Q', cl sh zX6_stateOf [.int (nI c.val), .int (nI 0), .int (nI 0)] μ Q' = Q' (some (.int (nI (p3 c (nI 0) (nI 0)).val))) μ := fun μ Q' => m_stateOf _ nr0 nr0
  generalize p3 c (nI 0) (nI 0) = src at fin c0 EST
  have sb := src.isLt
  have outer : ∀ n d (f : P3 → Option Nat) (μ1 : mm_U) (v5 : Value), cnN f < n → d + cnN f ≤ 1200 → LyG (Gr3 M least) src d f → (∀ v e, f v = some e → e ≤ d) → FrA μ μ1 (m + 8) → (∀ v : P3, μ1 (m + 8) v.val = fo (f v)) → wp sh zX6_layWays 39 [.ref m, .int (nI c.val), .int least, .int (nI 1), .int (nI d), v5] [] μ1 QQ := by
    intro n
    induction n with
    | zero => intro d f μ1 v4 hn; exact absurd hn (Nat.not_lt_zero _)
    | succ n ih =>
      intro d f μ1 v4 hn hd L bd F1 r1
      have inner : ∀ k i (f' : P3 → Option Nat) (mo : Nat) (μ2 : mm_U), i + k = 1200 → LyG (Gr3 M least) src d f' → (∀ v e, f v = some e → f' v = some e) → (∀ u v : P3, u.val < i → f' u = some d → Gr3 M least u v → f' v ≠ none) → FrA μ μ2 (m + 8) → (∀ v : P3, μ2 (m + 8) v.val = fo (f' v)) → ((mo = 0 ∧ f' = f) ∨ (mo = 1 ∧ ∃ v, f v = none ∧ f' v ≠ none)) → wp sh zX6_layWays 48 [.ref m, .int (nI c.val), .int least, .int (nI mo), .int (nI d), .int (nI i)] [] μ2 QQ := by
        intro k
        induction k with
        | zero =>
          intro i f' mo μ2 hi L2 mon cmp F2 r2 hm
          have e : i = 1200 := by omega
          subst e
          have L3 := L2.next (fun u v hu hg => cmp u v u.isLt hu hg)
          rw [wp_il5 (y := zX6_layWays) dX6_layWays_48]
          rcases hm with ⟨rfl, rfl⟩ | ⟨rfl, v, v1, v2⟩
          · simp (disch := first | omega | assumption) only [mm_op_some, true_and, and_true, mm_rc_some, mm_rc_none, pk_mul, nI_add, mm_in_t, nI_clamp, ok0, ok1, ok2, ok3, ok4, n1_0, n0_0, nI_le_, nI_lt_, if_true, if_false, not_true, not_false_eq_true, ce_lt, ce_cl, hf_lt, hf_cl, n0_zz, n1_zz, wp_sipush (y := zX6_layWays) (nI 1200) ks_1200 dX6_layWays_50, wp_icmp_ge (y := zX6_layWays) 96 (by decide) dX6_layWays_53, wp_inc4 (y := zX6_layWays) (nI 1) ki_1 dX6_layWays_96, wp_goto (y := zX6_layWays) 39 (by decide) dX6_layWays_99, wp_il3 (y := zX6_layWays) dX6_layWays_39, wp_if_eq (y := zX6_layWays) 102 (by decide) dX6_layWays_40, wp_vret (y := zX6_layWays) rfl dX6_layWays_102, O.oc, O.g0, O.g1, O.g2, O.g3, O.g4, O.g5, O.g6, O.g7, O.g9, O.g10, O.g11, O.p0, O.p7, O.a1, O.a2, O.a3, O.a4, O.a5, O.a6, O.a7, O.a8, O.a9, Nat.le_refl]
            exact fin _ _ F2 (L3.dsg (fun v e q => by have := bd v e q; omega)) r2 (fun v e q => by have := bd v e q; omega)
          · have lt : cnN f' < cnN f := cnN_lt (fun w hw => by
              cases q : f w with
              | none => exact absurd q hw
              | some e => rw [mon w e q]; exact fun q => by cases q) v1 v2
            simp (disch := first | omega | assumption) only [mm_op_some, true_and, and_true, mm_rc_some, mm_rc_none, pk_mul, nI_add, mm_in_t, nI_clamp, ok0, ok1, ok2, ok3, ok4, n1_0, n0_0, nI_le_, nI_lt_, if_true, if_false, not_true, not_false_eq_true, ce_lt, ce_cl, hf_lt, hf_cl, n0_zz, n1_zz, wp_sipush (y := zX6_layWays) (nI 1200) ks_1200 dX6_layWays_50, wp_icmp_ge (y := zX6_layWays) 96 (by decide) dX6_layWays_53, wp_inc4 (y := zX6_layWays) (nI 1) ki_1 dX6_layWays_96, wp_goto (y := zX6_layWays) 39 (by decide) dX6_layWays_99, O.oc, O.g0, O.g1, O.g2, O.g3, O.g4, O.g5, O.g6, O.g7, O.g9, O.g10, O.g11, O.p0, O.p7, O.a1, O.a2, O.a3, O.a4, O.a5, O.a6, O.a7, O.a8, O.a9, Nat.le_refl]
            exact ih (d + 1) f' μ2 _ (by omega) (by omega) L3 (fun v e q => L2.2.2.2 v e q) F2 r2
        | succ k ihk =>
          intro i f' mo μ2 hi L2 mon cmp F2 r2 hm
          have hi' : i < 1200 := by omega
          have h9 : (1200 ≤ i) = False := eq_false (by omega)
          have A2 : MeR M (μ2 (m + 1)) := by rw [F2 (m + 1) (by omega)]; exact A
          have bd2 : ∀ v e, f' v = some e → e < 2 ^ 31 := fun v e q => by have := L2.2.2.2 v e q; omega
          have q1 := r2 ⟨i, hi'⟩
          have q1 : μ2 (m + 8) i = fo (f' ⟨i, hi'⟩) := q1
          have d1 : (fo (f' ⟨i, hi'⟩) = nI d) = (f' ⟨i, hi'⟩ = some d) := fo_eqd (bd2 _) (by omega)
          have pos : f' ⟨i, hi'⟩ = some d → 0 < sd M (c3 ⟨i, hi'⟩) := fun q => by
            cases d with
            | zero =>
              rw [(L2.1 _).mp q, c0]
              exact hc
            | succ d =>
              obtain ⟨u, _, g⟩ := L2.2.1 _ d q
              exact J.gr3 g
          rw [wp_il5 (y := zX6_layWays) dX6_layWays_48]
          by_cases p1 : f' ⟨i, hi'⟩ = some d
          · have t1 := eq_true p1
            simp (disch := first | omega | assumption) only [mm_op_some, true_and, and_true, mm_rc_some, mm_rc_none, pk_mul, nI_add, mm_in_t, nI_clamp, ok0, ok1, ok2, ok3, ok4, n1_0, n0_0, nI_le_, nI_lt_, if_true, if_false, not_true, not_false_eq_true, ce_lt, ce_cl, hf_lt, hf_cl, n0_zz, n1_zz, wp_sipush (y := zX6_layWays) (nI 1200) ks_1200 dX6_layWays_50, wp_icmp_ge (y := zX6_layWays) 96 (by decide) dX6_layWays_53, wp_al0 (y := zX6_layWays) dX6_layWays_56, wp_getf (y := zX6_layWays) kF6_34 dX6_layWays_57, wp_il5 (y := zX6_layWays) dX6_layWays_60, wp_iald (y := zX6_layWays) dX6_layWays_62, wp_il4 (y := zX6_layWays) dX6_layWays_63, wp_icmp_ne (y := zX6_layWays) 80 (by decide) dX6_layWays_65, wp_al0 (y := zX6_layWays) dX6_layWays_68, wp_il5 (y := zX6_layWays) dX6_layWays_69, wp_il4 (y := zX6_layWays) dX6_layWays_71, wp_il2 (y := zX6_layWays) dX6_layWays_73, wp_cv3 (y := zX6_layWays) kM6_273 (by decide) dX6_layWays_74, (show yo zX6_spread = 6 from rfl), O.oc, O.g0, O.g1, O.g2, O.g3, O.g4, O.g5, O.g6, O.g7, O.g9, O.g10, O.g11, O.p0, O.p7, O.a1, O.a2, O.a3, O.a4, O.a5, O.a6, O.a7, O.a8, O.a9, h9, q1, d1, t1]
            refine cl_mono (m_spread O A2 J src ⟨i, hi'⟩ d (by omega) f' L2 p1 (pos p1) r2) ?_
            rintro r μ3 ⟨f2, any, rfl, F3, r3, L3, mon3, inv3, cmp3, hm3⟩
            have F3' : FrA μ μ3 (m + 8) := fun a ha => (F3 a ha).trans (F2 a ha)
            have cm : ∀ u v : P3, u.val < i + 1 → f2 u = some d → Gr3 M least u v → f2 v ≠ none := fun u v hu hf hg => by
              by_cases z : u.val = i
              · have : u = ⟨i, hi'⟩ := Fin.ext z
                rw [this] at hg
                exact cmp3 v hg
              · have hf' : f' u = some d := by
                  rcases inv3 u d hf with q | q
                  · exact q
                  · omega
                have := cmp u v (by omega) hf' hg
                cases q : f' v with
                | none => exact absurd q this
                | some e => rw [mon3 v e q]; exact fun q => by cases q
            have mm : ∀ v e, f v = some e → f2 v = some e := fun v e q => mon3 v e (mon v e q)
            rcases hm3 with ⟨rfl, rfl⟩ | ⟨rfl, v, v1, v2⟩
            · rcases hm with ⟨rfl, e2⟩ | ⟨rfl, e2⟩
              · simp (disch := first | omega | assumption) only [mm_op_some, true_and, and_true, mm_rc_some, mm_rc_none, pk_mul, nI_add, mm_in_t, nI_clamp, ok0, ok1, ok2, ok3, ok4, n1_0, n0_0, nI_le_, nI_lt_, if_true, if_false, not_true, not_false_eq_true, ce_lt, ce_cl, hf_lt, hf_cl, n0_zz, n1_zz, wp_if_ne (y := zX6_layWays) 84 (by decide) dX6_layWays_77, wp_il3 (y := zX6_layWays) dX6_layWays_80, wp_if_eq (y := zX6_layWays) 88 (by decide) dX6_layWays_81, wp_iconst (y := zX6_layWays) (nI 0) ki_0 dX6_layWays_88, wp_is3 (y := zX6_layWays) dX6_layWays_89, wp_inc5 (y := zX6_layWays) (nI 1) ki_1 dX6_layWays_90, wp_goto (y := zX6_layWays) 48 (by decide) dX6_layWays_93, O.oc, O.g0, O.g1, O.g2, O.g3, O.g4, O.g5, O.g6, O.g7, O.g9, O.g10, O.g11, O.p0, O.p7, O.a1, O.a2, O.a3, O.a4, O.a5, O.a6, O.a7, O.a8, O.a9]
                exact ihk (i + 1) f2 0 μ3 (by omega) L3 mm cm F3' r3 (Or.inl ⟨rfl, e2⟩)
              · simp (disch := first | omega | assumption) only [mm_op_some, true_and, and_true, mm_rc_some, mm_rc_none, pk_mul, nI_add, mm_in_t, nI_clamp, ok0, ok1, ok2, ok3, ok4, n1_0, n0_0, nI_le_, nI_lt_, if_true, if_false, not_true, not_false_eq_true, ce_lt, ce_cl, hf_lt, hf_cl, n0_zz, n1_zz, wp_if_ne (y := zX6_layWays) 84 (by decide) dX6_layWays_77, wp_il3 (y := zX6_layWays) dX6_layWays_80, wp_if_eq (y := zX6_layWays) 88 (by decide) dX6_layWays_81, wp_iconst (y := zX6_layWays) (nI 1) ki_1 dX6_layWays_84, wp_goto (y := zX6_layWays) 89 (by decide) dX6_layWays_85, wp_is3 (y := zX6_layWays) dX6_layWays_89, wp_inc5 (y := zX6_layWays) (nI 1) ki_1 dX6_layWays_90, wp_goto (y := zX6_layWays) 48 (by decide) dX6_layWays_93, O.oc, O.g0, O.g1, O.g2, O.g3, O.g4, O.g5, O.g6, O.g7, O.g9, O.g10, O.g11, O.p0, O.p7, O.a1, O.a2, O.a3, O.a4, O.a5, O.a6, O.a7, O.a8, O.a9]
                exact ihk (i + 1) f2 1 μ3 (by omega) L3 mm cm F3' r3 (Or.inr ⟨rfl, e2⟩)
            · simp (disch := first | omega | assumption) only [mm_op_some, true_and, and_true, mm_rc_some, mm_rc_none, pk_mul, nI_add, mm_in_t, nI_clamp, ok0, ok1, ok2, ok3, ok4, n1_0, n0_0, nI_le_, nI_lt_, if_true, if_false, not_true, not_false_eq_true, ce_lt, ce_cl, hf_lt, hf_cl, n0_zz, n1_zz, wp_if_ne (y := zX6_layWays) 84 (by decide) dX6_layWays_77, wp_iconst (y := zX6_layWays) (nI 1) ki_1 dX6_layWays_84, wp_goto (y := zX6_layWays) 89 (by decide) dX6_layWays_85, wp_is3 (y := zX6_layWays) dX6_layWays_89, wp_inc5 (y := zX6_layWays) (nI 1) ki_1 dX6_layWays_90, wp_goto (y := zX6_layWays) 48 (by decide) dX6_layWays_93, O.oc, O.g0, O.g1, O.g2, O.g3, O.g4, O.g5, O.g6, O.g7, O.g9, O.g10, O.g11, O.p0, O.p7, O.a1, O.a2, O.a3, O.a4, O.a5, O.a6, O.a7, O.a8, O.a9]
              refine ihk (i + 1) f2 1 μ3 (by omega) L3 mm cm F3' r3 (Or.inr ⟨rfl, v, ?_, v2⟩)
              cases q : f v with
              | none => rfl
              | some e => rw [mon v e q] at v1; cases v1
          · have t1 := eq_false p1
            have cm : ∀ u v : P3, u.val < i + 1 → f' u = some d → Gr3 M least u v → f' v ≠ none := fun u v hu hf hg => by
              by_cases z : u.val = i
              · have : u = ⟨i, hi'⟩ := Fin.ext z
                rw [this] at hf
                exact absurd hf p1
              · exact cmp u v (by omega) hf hg
            rcases hm with ⟨rfl, e2⟩ | ⟨rfl, e2⟩
            · simp (disch := first | omega | assumption) only [mm_op_some, true_and, and_true, mm_rc_some, mm_rc_none, pk_mul, nI_add, mm_in_t, nI_clamp, ok0, ok1, ok2, ok3, ok4, n1_0, n0_0, nI_le_, nI_lt_, if_true, if_false, not_true, not_false_eq_true, ce_lt, ce_cl, hf_lt, hf_cl, n0_zz, n1_zz, wp_sipush (y := zX6_layWays) (nI 1200) ks_1200 dX6_layWays_50, wp_icmp_ge (y := zX6_layWays) 96 (by decide) dX6_layWays_53, wp_al0 (y := zX6_layWays) dX6_layWays_56, wp_getf (y := zX6_layWays) kF6_34 dX6_layWays_57, wp_il5 (y := zX6_layWays) dX6_layWays_60, wp_iald (y := zX6_layWays) dX6_layWays_62, wp_il4 (y := zX6_layWays) dX6_layWays_63, wp_icmp_ne (y := zX6_layWays) 80 (by decide) dX6_layWays_65, wp_il3 (y := zX6_layWays) dX6_layWays_80, wp_if_eq (y := zX6_layWays) 88 (by decide) dX6_layWays_81, wp_iconst (y := zX6_layWays) (nI 0) ki_0 dX6_layWays_88, wp_is3 (y := zX6_layWays) dX6_layWays_89, wp_inc5 (y := zX6_layWays) (nI 1) ki_1 dX6_layWays_90, wp_goto (y := zX6_layWays) 48 (by decide) dX6_layWays_93, O.oc, O.g0, O.g1, O.g2, O.g3, O.g4, O.g5, O.g6, O.g7, O.g9, O.g10, O.g11, O.p0, O.p7, O.a1, O.a2, O.a3, O.a4, O.a5, O.a6, O.a7, O.a8, O.a9, h9, q1, d1, t1]
              exact ihk (i + 1) f' 0 μ2 (by omega) L2 mon cm F2 r2 (Or.inl ⟨rfl, e2⟩)
            · simp (disch := first | omega | assumption) only [mm_op_some, true_and, and_true, mm_rc_some, mm_rc_none, pk_mul, nI_add, mm_in_t, nI_clamp, ok0, ok1, ok2, ok3, ok4, n1_0, n0_0, nI_le_, nI_lt_, if_true, if_false, not_true, not_false_eq_true, ce_lt, ce_cl, hf_lt, hf_cl, n0_zz, n1_zz, wp_sipush (y := zX6_layWays) (nI 1200) ks_1200 dX6_layWays_50, wp_icmp_ge (y := zX6_layWays) 96 (by decide) dX6_layWays_53, wp_al0 (y := zX6_layWays) dX6_layWays_56, wp_getf (y := zX6_layWays) kF6_34 dX6_layWays_57, wp_il5 (y := zX6_layWays) dX6_layWays_60, wp_iald (y := zX6_layWays) dX6_layWays_62, wp_il4 (y := zX6_layWays) dX6_layWays_63, wp_icmp_ne (y := zX6_layWays) 80 (by decide) dX6_layWays_65, wp_il3 (y := zX6_layWays) dX6_layWays_80, wp_if_eq (y := zX6_layWays) 88 (by decide) dX6_layWays_81, wp_iconst (y := zX6_layWays) (nI 1) ki_1 dX6_layWays_84, wp_goto (y := zX6_layWays) 89 (by decide) dX6_layWays_85, wp_is3 (y := zX6_layWays) dX6_layWays_89, wp_inc5 (y := zX6_layWays) (nI 1) ki_1 dX6_layWays_90, wp_goto (y := zX6_layWays) 48 (by decide) dX6_layWays_93, O.oc, O.g0, O.g1, O.g2, O.g3, O.g4, O.g5, O.g6, O.g7, O.g9, O.g10, O.g11, O.p0, O.p7, O.a1, O.a2, O.a3, O.a4, O.a5, O.a6, O.a7, O.a8, O.a9, h9, q1, d1, t1]
              exact ihk (i + 1) f' 1 μ2 (by omega) L2 mon cm F2 r2 (Or.inr ⟨rfl, e2⟩)
      rw [wp_il3 (y := zX6_layWays) dX6_layWays_39]
      simp (disch := first | omega | assumption) only [mm_op_some, true_and, and_true, mm_rc_some, mm_rc_none, pk_mul, nI_add, mm_in_t, nI_clamp, ok0, ok1, ok2, ok3, ok4, n1_0, n0_0, nI_le_, nI_lt_, if_true, if_false, not_true, not_false_eq_true, ce_lt, ce_cl, hf_lt, hf_cl, n0_zz, n1_zz, wp_if_eq (y := zX6_layWays) 102 (by decide) dX6_layWays_40, wp_iconst (y := zX6_layWays) (nI 0) ki_0 dX6_layWays_43, wp_is3 (y := zX6_layWays) dX6_layWays_44, wp_iconst (y := zX6_layWays) (nI 0) ki_0 dX6_layWays_45, wp_is5 (y := zX6_layWays) dX6_layWays_46, O.oc, O.g0, O.g1, O.g2, O.g3, O.g4, O.g5, O.g6, O.g7, O.g9, O.g10, O.g11, O.p0, O.p7, O.a1, O.a2, O.a3, O.a4, O.a5, O.a6, O.a7, O.a8, O.a9]
      exact inner 1200 0 f 0 μ1 (by omega) L (fun v e q => q) (fun u v hh => absurd hh (Nat.not_lt_zero _)) F1 r1 (Or.inl ⟨rfl, rfl⟩)
  have first : ∀ k i (μ1 : mm_U), i + k = 1200 → FrA μ μ1 (m + 8) → (∀ v, v < i → μ1 (m + 8) v = -1) → wp sh zX6_layWays 2 [.ref m, .int (nI c.val), .int least, .int (nI i), .null, .null] [] μ1 QQ := by
    intro k
    induction k with
    | zero =>
      intro i μ1 hi F1 r1
      have e : i = 1200 := by omega
      subst e
      rw [wp_il3 (y := zX6_layWays) dX6_layWays_2]
      simp (disch := first | omega | assumption) only [mm_op_some, true_and, and_true, mm_rc_some, mm_rc_none, pk_mul, nI_add, mm_in_t, nI_clamp, ok0, ok1, ok2, ok3, ok4, n1_0, n0_0, nI_le_, nI_lt_, if_true, if_false, not_true, not_false_eq_true, ce_lt, ce_cl, hf_lt, hf_cl, n0_zz, n1_zz, wp_sipush (y := zX6_layWays) (nI 1200) ks_1200 dX6_layWays_3, wp_icmp_ge (y := zX6_layWays) 22 (by decide) dX6_layWays_6, wp_al0 (y := zX6_layWays) dX6_layWays_22, wp_getf (y := zX6_layWays) kF6_34 dX6_layWays_23, wp_il1 (y := zX6_layWays) dX6_layWays_26, wp_iconst (y := zX6_layWays) (nI 0) ki_0 dX6_layWays_27, wp_iconst (y := zX6_layWays) (nI 0) ki_0 dX6_layWays_28, wp_cs3 (y := zX6_layWays) kM6_270 (by decide) dX6_layWays_29, wp_iconst (y := zX6_layWays) (nI 0) ki_0 dX6_layWays_32, wp_iast (y := zX6_layWays) dX6_layWays_33, wp_iconst (y := zX6_layWays) (nI 1) ki_1 dX6_layWays_34, wp_is3 (y := zX6_layWays) dX6_layWays_35, wp_iconst (y := zX6_layWays) (nI 0) ki_0 dX6_layWays_36, wp_is4 (y := zX6_layWays) dX6_layWays_37, O.oc, O.g0, O.g1, O.g2, O.g3, O.g4, O.g5, O.g6, O.g7, O.g9, O.g10, O.g11, O.p0, O.p7, O.a1, O.a2, O.a3, O.a4, O.a5, O.a6, O.a7, O.a8, O.a9, Nat.le_refl, EST]
      have cb := cnN_le (fu (fun _ : P3 => (none : Option Nat)) src (some 0))
      refine outer (cnN (fu (fun _ : P3 => (none : Option Nat)) src (some 0)) + 1) 0 (fu (fun _ : P3 => (none : Option Nat)) src (some 0)) _ _ (Nat.lt_succ_self _) (by rw [Nat.zero_add]; exact cb) LyG.start (fun v e q => ?_) (FrA_mu F1 _) (fun v => ?_)
      · by_cases z : v = src
        · rw [z, fu_s] at q
          cases q
          exact Nat.le_refl _
        · rw [fu_n _ _ z] at q
          cases q
      · rw [mu_s, upd_fin]
        unfold fu
        split
        · rfl
        · exact r1 v.val v.isLt
    | succ k ih =>
      intro i μ1 hi F1 r1
      have hi' : i < 1200 := by omega
      have h9 : (1200 ≤ i) = False := eq_false (by omega)
      rw [wp_il3 (y := zX6_layWays) dX6_layWays_2]
      simp (disch := first | omega | assumption) only [mm_op_some, true_and, and_true, mm_rc_some, mm_rc_none, pk_mul, nI_add, mm_in_t, nI_clamp, ok0, ok1, ok2, ok3, ok4, n1_0, n0_0, nI_le_, nI_lt_, if_true, if_false, not_true, not_false_eq_true, ce_lt, ce_cl, hf_lt, hf_cl, n0_zz, n1_zz, wp_sipush (y := zX6_layWays) (nI 1200) ks_1200 dX6_layWays_3, wp_icmp_ge (y := zX6_layWays) 22 (by decide) dX6_layWays_6, wp_al0 (y := zX6_layWays) dX6_layWays_9, wp_getf (y := zX6_layWays) kF6_34 dX6_layWays_10, wp_il3 (y := zX6_layWays) dX6_layWays_13, wp_iconst (y := zX6_layWays) ((-1)) ki_m1 dX6_layWays_14, wp_iast (y := zX6_layWays) dX6_layWays_15, wp_inc3 (y := zX6_layWays) (nI 1) ki_1 dX6_layWays_16, wp_goto (y := zX6_layWays) 2 (by decide) dX6_layWays_19, O.oc, O.g0, O.g1, O.g2, O.g3, O.g4, O.g5, O.g6, O.g7, O.g9, O.g10, O.g11, O.p0, O.p7, O.a1, O.a2, O.a3, O.a4, O.a5, O.a6, O.a7, O.a8, O.a9, h9]
      refine ih (i + 1) _ (by omega) (FrA_mu F1 _) (fun v hv => ?_)
      rw [mu_s]
      by_cases z : v = i
      · rw [z, upd_s]
      · rw [upd_n _ _ z]
        exact r1 v (by omega)
  simp (disch := first | omega | assumption) only [mm_op_some, true_and, and_true, mm_rc_some, mm_rc_none, pk_mul, nI_add, mm_in_t, nI_clamp, ok0, ok1, ok2, ok3, ok4, n1_0, n0_0, nI_le_, nI_lt_, if_true, if_false, not_true, not_false_eq_true, ce_lt, ce_cl, hf_lt, hf_cl, wp_iconst (y := zX6_layWays) (nI 0) ki_0 dX6_layWays_0, wp_is3 (y := zX6_layWays) dX6_layWays_1]
  exact first 1200 0 μ (by omega) (FrA.refl _ _) (fun v hv => absurd hv (Nat.not_lt_zero _))
end MLX
