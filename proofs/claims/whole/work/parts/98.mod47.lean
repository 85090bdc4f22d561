theorem fo_eqd {x : Option Nat} {d : Nat} (hx : ∀ e, x = some e → e < 2 ^ 31) (hd : d < 2 ^ 31) : (fo x = nI d) = (x = some d) := by
  cases x with
  | none =>
    refine propext ⟨fun q => ?_, fun q => by cases q⟩
    exact absurd q.symm (by have := nI_m1 hd; exact of_eq_false this)
  | some e =>
    have he := hx e rfl
    refine propext ⟨fun q => ?_, fun q => by cases q; rfl⟩
    have q : nI e = nI d := q
    have := congrArg Int32.toInt q
    rw [nI_toInt he, nI_toInt hd] at this
    rw [show e = d by omega]
theorem fo_eqn {x : Option Nat} (hx : ∀ e, x = some e → e < 2 ^ 31) : (fo x = -1) = (x = none) := by
  cases x with
  | none => exact propext ⟨fun _ => rfl, fun _ => rfl⟩
  | some e =>
    refine propext ⟨fun q => ?_, fun q => by cases q⟩
    exact absurd q (of_eq_false (nI_m1 (hx e rfl)))
/-- only one array changed -/
def FrA (μ μ' : mm_U) (b : Nat) : Prop := ∀ a, a ≠ b → μ' a = μ a
theorem FrA.refl (μ : mm_U) (b : Nat) : FrA μ μ b := fun _ _ => rfl
theorem FrA_mu {μ μ1 : mm_U} {b : Nat} (h : FrA μ μ1 b) (f : Nat → Int32) : FrA μ (mu μ1 b f) b := fun a ha => by rw [mu_n _ _ ha]; exact h a ha
section MLF
variable {sh : mm_Sh} {m : Nat} {M : Ms} {μ : mm_U} {s : Fo} {Q : Option Value → mm_U → Prop}
theorem m_layFar (O : MoSh sh m) (A : MeR M (μ (m + 1))) (J : Inv M) (c : Ce) : cl sh zX6_layFar [.ref m, .int (nI c.val)] μ (fun r μ' => r = none ∧ FrA μ μ' (m + 7) ∧ (∀ v : Ce, μ' (m + 7) v.val = fo ((spF M (nI 0) c (fun _ => none)).1 v)) ∧ (∀ v e, (spF M (nI 0) c (fun _ => none)).1 v = some e → e ≤ 48)) := by
  show wp sh zX6_layFar 0 [.ref m, .int (nI c.val), .null, .null, .null] [] μ _
  have fin : ∀ (f : Ce → Option Nat) (μ' : mm_U), FrA μ μ' (m + 7) → DsG (GrM M (nI 0)) c f → (∀ v : Ce, μ' (m + 7) v.val = fo (f v)) → (∀ v e, f v = some e → e ≤ 48) → (fun (r : Option Value) (μ' : mm_U) => r = none ∧ FrA μ μ' (m + 7) ∧ (∀ v : Ce, μ' (m + 7) v.val = fo ((spF M (nI 0) c (fun _ => none)).1 v)) ∧ (∀ v e, (spF M (nI 0) c (fun _ => none)).1 v = some e → e ≤ 48)) none μ' := fun f μ' h1 h2 h3 h4 => by
    have e := h2.uniq (J.spd c)
    subst e
    exact ⟨rfl, h1, h3, h4⟩
  generalize (fun (r : Option Value) (μ' : mm_U) => r = none ∧ FrA μ μ' (m + 7) ∧ (∀ v : Ce, μ' (m + 7) v.val = fo ((spF M (nI 0) c (fun _ => none)).1 v)) ∧ (∀ v e, (spF M (nI 0) c (fun _ => none)).1 v = some e → e ≤ 48)) = QQ at fin ⊢
  -- the rounds
  have outer : ∀ n d (f : Ce → Option Nat) (μ1 : mm_U) (v4 : Value), cnN f < n → d + cnN f ≤ 48 → LyG (GrM M (nI 0)) c d f → (∀ v e, f v = some e → e ≤ d) → FrA μ μ1 (m + 7) → (∀ v : Ce, μ1 (m + 7) v.val = fo (f v)) → wp sh zX6_layFar 34 [.ref m, .int (nI c.val), .int (nI 1), .int (nI d), v4] [] μ1 QQ := by
    intro n
    induction n with
    | zero => intro d f μ1 v4 hn; exact absurd hn (Nat.not_lt_zero _)
    | succ n ih =>
      intro d f μ1 v4 hn hd L bd F1 r1
      have inner : ∀ k i (f' : Ce → Option Nat) (mo : Nat) (μ2 : mm_U), i + k = 288 → LyG (GrM M (nI 0)) c d f' → (∀ v e, f v = some e → f' v = some e) → (∀ h : Hf, h.val < i → LvH M h → f' (ow M h) = some d → f' (ow M (tw h)) ≠ none) → FrA μ μ2 (m + 7) → (∀ v : Ce, μ2 (m + 7) v.val = fo (f' v)) → ((mo = 0 ∧ f' = f) ∨ (mo = 1 ∧ ∃ v, f v = none ∧ f' v ≠ none)) → wp sh zX6_layFar 43 [.ref m, .int (nI c.val), .int (nI mo), .int (nI d), .int (nI i)] [] μ2 QQ := by
        intro k
        induction k with
        | zero =>
          intro i f' mo μ2 hi L2 mon cmp F2 r2 hm
          have e : i = 288 := by omega
          subst e
          have L3 := L2.next (fun u v hu hg => by
            obtain ⟨h, lh, oh, ov, _⟩ := hg
            have := cmp h h.isLt lh (by rw [oh]; exact hu)
            rw [ov] at this
            exact this)
          rw [wp_il4 (y := zX6_layFar) dX6_layFar_43]
          rcases hm with ⟨rfl, rfl⟩ | ⟨rfl, v, v1, v2⟩
          · simp (disch := first | omega | assumption) only [mm_op_some, true_and, and_true, mm_rc_some, mm_rc_none, pk_mul, nI_add, mm_in_t, nI_clamp, ok0, ok1, ok2, ok3, ok4, n1_0, n0_0, nI_le_, nI_lt_, if_true, if_false, not_true, not_false_eq_true, ce_lt, ce_cl, hf_lt, hf_cl, n0_zz, n1_zz, wp_sipush (y := zX6_layFar) (nI 288) ks_288 dX6_layFar_45, wp_icmp_ge (y := zX6_layFar) 114 (by decide) dX6_layFar_48, wp_inc3 (y := zX6_layFar) (nI 1) ki_1 dX6_layFar_114, wp_goto (y := zX6_layFar) 34 (by decide) dX6_layFar_117, wp_il2 (y := zX6_layFar) dX6_layFar_34, wp_if_eq (y := zX6_layFar) 120 (by decide) dX6_layFar_35, wp_vret (y := zX6_layFar) rfl dX6_layFar_120, O.oc, O.g0, O.g1, O.g2, O.g3, O.g4, O.g5, O.g6, O.g7, O.g9, O.g10, O.g11, O.p0, O.p7, O.a1, O.a2, O.a3, O.a4, O.a5, O.a6, O.a7, O.a8, O.a9, Nat.le_refl]
            exact fin _ _ F2 (L3.dsg (fun v e q => by have := bd v e q; omega)) r2 (fun v e q => by have := bd v e q; omega)
          · have lt : cnN f' < cnN f := cnN_lt (fun w hw => by
              cases q : f w with
              | none => exact absurd q hw
              | some e => rw [mon w e q]; exact fun q => by cases q) v1 v2
            simp (disch := first | omega | assumption) only [mm_op_some, true_and, and_true, mm_rc_some, mm_rc_none, pk_mul, nI_add, mm_in_t, nI_clamp, ok0, ok1, ok2, ok3, ok4, n1_0, n0_0, nI_le_, nI_lt_, if_true, if_false, not_true, not_false_eq_true, ce_lt, ce_cl, hf_lt, hf_cl, n0_zz, n1_zz, wp_sipush (y := zX6_layFar) (nI 288) ks_288 dX6_layFar_45, wp_icmp_ge (y := zX6_layFar) 114 (by decide) dX6_layFar_48, wp_inc3 (y := zX6_layFar) (nI 1) ki_1 dX6_layFar_114, wp_goto (y := zX6_layFar) 34 (by decide) dX6_layFar_117, O.oc, O.g0, O.g1, O.g2, O.g3, O.g4, O.g5, O.g6, O.g7, O.g9, O.g10, O.g11, O.p0, O.p7, O.a1, O.a2, O.a3, O.a4, O.a5, O.a6, O.a7, O.a8, O.a9, Nat.le_refl]
            exact ih (d + 1) f' μ2 _ (by omega) (by omega) L3 (fun v e q => L2.2.2.2 v e q) F2 r2
        | succ k ihk =>
          intro i f' mo μ2 hi L2 mon cmp F2 r2 hm
          have hi' : i < 288 := by omega
          have h9 : (288 ≤ i) = False := eq_false (by omega)
          have dv := nI_div2 hi'
          have k2 : ¬ nI 2 = 0 := by decide
          have A2 : MeR M (μ2 (m + 1)) := by rw [F2 (m + 1) (by omega)]; exact A
          have iv := hI_lt hi'
          have wv : (wl (hI i)).val = i / 2 := by rw [wl_val, iv]
          have bd2 : ∀ v e, f' v = some e → e < 2 ^ 31 := fun v e q => by have := L2.2.2.2 v e q; omega
          rw [wp_il4 (y := zX6_layFar) dX6_layFar_43]
          by_cases hl : lv M (wl (hI i)) = true
          · have E0 : ∀ Q', cl sh zX6_isWall [.ref m, .int (nI (i / 2))] μ2 Q' = Q' (some (.int (nI 1))) μ2 := fun Q' => by
              rw [← wv]
              exact m_isWallS O A2 J.lnb hl
            have E1 : ∀ Q', cl sh zX6_cellOf [.ref m, .int (nI i)] μ2 Q' = Q' (some (.int (nI (ow M (hI i)).val))) μ2 := fun Q' => by
              have := m_cellOf (Q := Q') O A2 (hI i) hl
              rw [iv] at this
              exact this
            have E2 : ∀ Q', cl sh zX6_over [.ref m, .int (nI i)] μ2 Q' = Q' (some (.int (nI (ow M (tw (hI i))).val))) μ2 := fun Q' => by
              have := m_over (Q := Q') O A2 (hI i) hl
              rw [iv] at this
              exact this
            have q1 := r2 (ow M (hI i))
            have q2 := r2 (ow M (tw (hI i)))
            have d1 : (fo (f' (ow M (hI i))) = nI d) = (f' (ow M (hI i)) = some d) := fo_eqd (bd2 _) (by omega)
            have d2 : (fo (f' (ow M (tw (hI i)))) = -1) = (f' (ow M (tw (hI i))) = none) := fo_eqn (bd2 _)
            by_cases p1 : f' (ow M (hI i)) = some d
            · have t1 := eq_true p1
              by_cases p2 : f' (ow M (tw (hI i))) = none
              · have t2 := eq_true p2
                simp (disch := first | omega | assumption) only [mm_op_some, true_and, and_true, mm_rc_some, mm_rc_none, pk_mul, nI_add, mm_in_t, nI_clamp, ok0, ok1, ok2, ok3, ok4, n1_0, n0_0, nI_le_, nI_lt_, if_true, if_false, not_true, not_false_eq_true, ce_lt, ce_cl, hf_lt, hf_cl, n0_zz, n1_zz, wp_sipush (y := zX6_layFar) (nI 288) ks_288 dX6_layFar_45, wp_icmp_ge (y := zX6_layFar) 114 (by decide) dX6_layFar_48, wp_al0 (y := zX6_layFar) dX6_layFar_51, wp_il4 (y := zX6_layFar) dX6_layFar_52, wp_iconst (y := zX6_layFar) (nI 2) ki_2 dX6_layFar_54, wp_idiv' (y := zX6_layFar) dX6_layFar_55, wp_cv1 (y := zX6_layFar) kM6_80 (by decide) dX6_layFar_56, (show yo zX6_isWall = 6 from rfl), wp_if_eq (y := zX6_layFar) 108 (by decide) dX6_layFar_59, wp_al0 (y := zX6_layFar) dX6_layFar_62, wp_getf (y := zX6_layFar) kF6_31 dX6_layFar_63, wp_al0 (y := zX6_layFar) dX6_layFar_66, wp_il4 (y := zX6_layFar) dX6_layFar_67, wp_cv1 (y := zX6_layFar) kM6_84 (by decide) dX6_layFar_69, (show yo zX6_cellOf = 6 from rfl), wp_iald (y := zX6_layFar) dX6_layFar_72, wp_il3 (y := zX6_layFar) dX6_layFar_73, wp_icmp_ne (y := zX6_layFar) 108 (by decide) dX6_layFar_74, wp_al0 (y := zX6_layFar) dX6_layFar_77, wp_getf (y := zX6_layFar) kF6_31 dX6_layFar_78, wp_al0 (y := zX6_layFar) dX6_layFar_81, wp_il4 (y := zX6_layFar) dX6_layFar_82, wp_cv1 (y := zX6_layFar) kM6_105 (by decide) dX6_layFar_84, (show yo zX6_over = 6 from rfl), wp_iald (y := zX6_layFar) dX6_layFar_87, wp_iconst (y := zX6_layFar) ((-1)) ki_m1 dX6_layFar_88, wp_icmp_ne (y := zX6_layFar) 108 (by decide) dX6_layFar_89, wp_al0 (y := zX6_layFar) dX6_layFar_92, wp_getf (y := zX6_layFar) kF6_31 dX6_layFar_93, wp_al0 (y := zX6_layFar) dX6_layFar_96, wp_il4 (y := zX6_layFar) dX6_layFar_97, wp_cv1 (y := zX6_layFar) kM6_105 (by decide) dX6_layFar_99, (show yo zX6_over = 6 from rfl), wp_il3 (y := zX6_layFar) dX6_layFar_102, wp_iconst (y := zX6_layFar) (nI 1) ki_1 dX6_layFar_103, wp_iadd (y := zX6_layFar) dX6_layFar_104, wp_iast (y := zX6_layFar) dX6_layFar_105, wp_iconst (y := zX6_layFar) (nI 1) ki_1 dX6_layFar_106, wp_is2 (y := zX6_layFar) dX6_layFar_107, wp_inc4 (y := zX6_layFar) (nI 1) ki_1 dX6_layFar_108, wp_goto (y := zX6_layFar) 43 (by decide) dX6_layFar_111, O.oc, O.g0, O.g1, O.g2, O.g3, O.g4, O.g5, O.g6, O.g7, O.g9, O.g10, O.g11, O.p0, O.p7, O.a1, O.a2, O.a3, O.a4, O.a5, O.a6, O.a7, O.a8, O.a9, E0, E1, E2, h9, k2, dv, q1, q2, d1, d2, t1, t2]
                have g : GrM M (nI 0) (ow M (hI i)) (ow M (tw (hI i))) := ⟨hI i, hl, rfl, rfl, fun q => by rw [Int32.lt_iff_toInt_lt, nI_toInt (by have := J.sdb (ow M (tw (hI i))); omega), nI_toInt (by decide)] at q; omega⟩
                refine ihk (i + 1) (fu f' (ow M (tw (hI i))) (some (d + 1))) 1 _ (by omega) (L2.put p1 g p2) (fun v e q => ?_) (fun h hh lh q => ?_) (FrA_mu F2 _) (fun v => ?_) (Or.inr ⟨rfl, ow M (tw (hI i)), ?_, by rw [fu_s]; exact fun q => by cases q⟩)
                · have := mon v e q
                  rw [fu_n _ _ (fun z => by rw [z, p2] at this; cases this)]
                  exact this
                · have nn : ∀ w, f' w ≠ none → fu f' (ow M (tw (hI i))) (some (d + 1)) w ≠ none := fun w hw => by
                    by_cases z : w = ow M (tw (hI i))
                    · rw [z, fu_s]
                      exact fun q => by cases q
                    · rw [fu_n _ _ z]
                      exact hw
                  have q' : f' (ow M h) = some d := by
                    by_cases z : ow M h = ow M (tw (hI i))
                    · rw [z, fu_s] at q
                      have := Option.some.inj q
                      omega
                    · rw [fu_n _ _ z] at q
                      exact q
                  by_cases z : h = hI i
                  · rw [z, fu_s]
                    exact fun q => by cases q
                  · exact nn _ (cmp h (by
                      have : h.val ≠ i := fun q => z (by rw [← q, hI_val])
                      omega) lh q')
                · rw [mu_s, upd_fin]
                  unfold fu
                  split
                  · rfl
                  · exact r2 v
                · cases q : f (ow M (tw (hI i))) with
                  | none => rfl
                  | some e => rw [mon _ e q] at p2; cases p2
              · have t2 := eq_false p2
                simp (disch := first | omega | assumption) only [mm_op_some, true_and, and_true, mm_rc_some, mm_rc_none, pk_mul, nI_add, mm_in_t, nI_clamp, ok0, ok1, ok2, ok3, ok4, n1_0, n0_0, nI_le_, nI_lt_, if_true, if_false, not_true, not_false_eq_true, ce_lt, ce_cl, hf_lt, hf_cl, n0_zz, n1_zz, wp_sipush (y := zX6_layFar) (nI 288) ks_288 dX6_layFar_45, wp_icmp_ge (y := zX6_layFar) 114 (by decide) dX6_layFar_48, wp_al0 (y := zX6_layFar) dX6_layFar_51, wp_il4 (y := zX6_layFar) dX6_layFar_52, wp_iconst (y := zX6_layFar) (nI 2) ki_2 dX6_layFar_54, wp_idiv' (y := zX6_layFar) dX6_layFar_55, wp_cv1 (y := zX6_layFar) kM6_80 (by decide) dX6_layFar_56, (show yo zX6_isWall = 6 from rfl), wp_if_eq (y := zX6_layFar) 108 (by decide) dX6_layFar_59, wp_al0 (y := zX6_layFar) dX6_layFar_62, wp_getf (y := zX6_layFar) kF6_31 dX6_layFar_63, wp_al0 (y := zX6_layFar) dX6_layFar_66, wp_il4 (y := zX6_layFar) dX6_layFar_67, wp_cv1 (y := zX6_layFar) kM6_84 (by decide) dX6_layFar_69, (show yo zX6_cellOf = 6 from rfl), wp_iald (y := zX6_layFar) dX6_layFar_72, wp_il3 (y := zX6_layFar) dX6_layFar_73, wp_icmp_ne (y := zX6_layFar) 108 (by decide) dX6_layFar_74, wp_al0 (y := zX6_layFar) dX6_layFar_77, wp_getf (y := zX6_layFar) kF6_31 dX6_layFar_78, wp_al0 (y := zX6_layFar) dX6_layFar_81, wp_il4 (y := zX6_layFar) dX6_layFar_82, wp_cv1 (y := zX6_layFar) kM6_105 (by decide) dX6_layFar_84, (show yo zX6_over = 6 from rfl), wp_iald (y := zX6_layFar) dX6_layFar_87, wp_iconst (y := zX6_layFar) ((-1)) ki_m1 dX6_layFar_88, wp_icmp_ne (y := zX6_layFar) 108 (by decide) dX6_layFar_89, wp_inc4 (y := zX6_layFar) (nI 1) ki_1 dX6_layFar_108, wp_goto (y := zX6_layFar) 43 (by decide) dX6_layFar_111, O.oc, O.g0, O.g1, O.g2, O.g3, O.g4, O.g5, O.g6, O.g7, O.g9, O.g10, O.g11, O.p0, O.p7, O.a1, O.a2, O.a3, O.a4, O.a5, O.a6, O.a7, O.a8, O.a9, E0, E1, E2, h9, k2, dv, q1, q2, d1, d2, t1, t2]
                refine ihk (i + 1) f' mo μ2 (by omega) L2 mon (fun h hh lh q => ?_) F2 r2 hm
                by_cases z : h = hI i
                · rw [z]
                  exact p2
                · exact cmp h (by
                    have : h.val ≠ i := fun q => z (by rw [← q, hI_val])
                    omega) lh q
            · have t1 := eq_false p1
              simp (disch := first | omega | assumption) only [mm_op_some, true_and, and_true, mm_rc_some, mm_rc_none, pk_mul, nI_add, mm_in_t, nI_clamp, ok0, ok1, ok2, ok3, ok4, n1_0, n0_0, nI_le_, nI_lt_, if_true, if_false, not_true, not_false_eq_true, ce_lt, ce_cl, hf_lt, hf_cl, n0_zz, n1_zz, wp_sipush (y := zX6_layFar) (nI 288) ks_288 dX6_layFar_45, wp_icmp_ge (y := zX6_layFar) 114 (by decide) dX6_layFar_48, wp_al0 (y := zX6_layFar) dX6_layFar_51, wp_il4 (y := zX6_layFar) dX6_layFar_52, wp_iconst (y := zX6_layFar) (nI 2) ki_2 dX6_layFar_54, wp_idiv' (y := zX6_layFar) dX6_layFar_55, wp_cv1 (y := zX6_layFar) kM6_80 (by decide) dX6_layFar_56, (show yo zX6_isWall = 6 from rfl), wp_if_eq (y := zX6_layFar) 108 (by decide) dX6_layFar_59, wp_al0 (y := zX6_layFar) dX6_layFar_62, wp_getf (y := zX6_layFar) kF6_31 dX6_layFar_63, wp_al0 (y := zX6_layFar) dX6_layFar_66, wp_il4 (y := zX6_layFar) dX6_layFar_67, wp_cv1 (y := zX6_layFar) kM6_84 (by decide) dX6_layFar_69, (show yo zX6_cellOf = 6 from rfl), wp_iald (y := zX6_layFar) dX6_layFar_72, wp_il3 (y := zX6_layFar) dX6_layFar_73, wp_icmp_ne (y := zX6_layFar) 108 (by decide) dX6_layFar_74, wp_inc4 (y := zX6_layFar) (nI 1) ki_1 dX6_layFar_108, wp_goto (y := zX6_layFar) 43 (by decide) dX6_layFar_111, O.oc, O.g0, O.g1, O.g2, O.g3, O.g4, O.g5, O.g6, O.g7, O.g9, O.g10, O.g11, O.p0, O.p7, O.a1, O.a2, O.a3, O.a4, O.a5, O.a6, O.a7, O.a8, O.a9, E0, E1, E2, h9, k2, dv, q1, q2, d1, d2, t1]
              refine ihk (i + 1) f' mo μ2 (by omega) L2 mon (fun h hh lh q => ?_) F2 r2 hm
              by_cases z : h = hI i
              · rw [z] at q
                exact absurd q p1
              · exact cmp h (by
                  have : h.val ≠ i := fun q => z (by rw [← q, hI_val])
                  omega) lh q
          · have E0 : ∀ Q', cl sh zX6_isWall [.ref m, .int (nI (i / 2))] μ2 Q' = Q' (some (.int (nI 0))) μ2 := fun Q' => by
              rw [← wv]
              exact m_isWall0 O A2 (wl (hI i)).isLt (by rw [wI_val]; exact hl)
            simp (disch := first | omega | assumption) only [mm_op_some, true_and, and_true, mm_rc_some, mm_rc_none, pk_mul, nI_add, mm_in_t, nI_clamp, ok0, ok1, ok2, ok3, ok4, n1_0, n0_0, nI_le_, nI_lt_, if_true, if_false, not_true, not_false_eq_true, ce_lt, ce_cl, hf_lt, hf_cl, n0_zz, n1_zz, wp_sipush (y := zX6_layFar) (nI 288) ks_288 dX6_layFar_45, wp_icmp_ge (y := zX6_layFar) 114 (by decide) dX6_layFar_48, wp_al0 (y := zX6_layFar) dX6_layFar_51, wp_il4 (y := zX6_layFar) dX6_layFar_52, wp_iconst (y := zX6_layFar) (nI 2) ki_2 dX6_layFar_54, wp_idiv' (y := zX6_layFar) dX6_layFar_55, wp_cv1 (y := zX6_layFar) kM6_80 (by decide) dX6_layFar_56, (show yo zX6_isWall = 6 from rfl), wp_if_eq (y := zX6_layFar) 108 (by decide) dX6_layFar_59, wp_inc4 (y := zX6_layFar) (nI 1) ki_1 dX6_layFar_108, wp_goto (y := zX6_layFar) 43 (by decide) dX6_layFar_111, O.oc, O.g0, O.g1, O.g2, O.g3, O.g4, O.g5, O.g6, O.g7, O.g9, O.g10, O.g11, O.p0, O.p7, O.a1, O.a2, O.a3, O.a4, O.a5, O.a6, O.a7, O.a8, O.a9, E0, h9, k2, dv]
            refine ihk (i + 1) f' mo μ2 (by omega) L2 mon (fun h hh lh q => ?_) F2 r2 hm
            by_cases z : h = hI i
            · rw [z] at lh
              exact absurd lh hl
            · exact cmp h (by
                have : h.val ≠ i := fun q => z (by rw [← q, hI_val])
                omega) lh q
      rw [wp_il2 (y := zX6_layFar) dX6_layFar_34]
      simp (disch := first | omega | assumption) only [mm_op_some, true_and, and_true, mm_rc_some, mm_rc_none, pk_mul, nI_add, mm_in_t, nI_clamp, ok0, ok1, ok2, ok3, ok4, n1_0, n0_0, nI_le_, nI_lt_, if_true, if_false, not_true, not_false_eq_true, ce_lt, ce_cl, hf_lt, hf_cl, n0_zz, n1_zz, wp_if_eq (y := zX6_layFar) 120 (by decide) dX6_layFar_35, wp_iconst (y := zX6_layFar) (nI 0) ki_0 dX6_layFar_38, wp_is2 (y := zX6_layFar) dX6_layFar_39, wp_iconst (y := zX6_layFar) (nI 0) ki_0 dX6_layFar_40, wp_is4 (y := zX6_layFar) dX6_layFar_41, O.oc, O.g0, O.g1, O.g2, O.g3, O.g4, O.g5, O.g6, O.g7, O.g9, O.g10, O.g11, O.p0, O.p7, O.a1, O.a2, O.a3, O.a4, O.a5, O.a6, O.a7, O.a8, O.a9]
      exact inner 288 0 f 0 μ1 (by omega) L (fun v e q => q) (fun h hh => absurd hh (Nat.not_lt_zero _)) F1 r1 (Or.inl ⟨rfl, rfl⟩)
  have first : ∀ k i (μ1 : mm_U), i + k = 48 → FrA μ μ1 (m + 7) → (∀ v : Ce, v.val < i → μ1 (m + 7) v.val = fo (fu (fun _ => none) c (some 0) v)) → wp sh zX6_layFar 2 [.ref m, .int (nI c.val), .int (nI i), .null, .null] [] μ1 QQ := by
    intro k
    induction k with
    | zero =>
      intro i μ1 hi F1 r1
      have e : i = 48 := by omega
      subst e
      rw [wp_il2 (y := zX6_layFar) dX6_layFar_2]
      simp (disch := first | omega | assumption) only [mm_op_some, true_and, and_true, mm_rc_some, mm_rc_none, pk_mul, nI_add, mm_in_t, nI_clamp, ok0, ok1, ok2, ok3, ok4, n1_0, n0_0, nI_le_, nI_lt_, if_true, if_false, not_true, not_false_eq_true, ce_lt, ce_cl, hf_lt, hf_cl, n0_zz, n1_zz, wp_bipush (y := zX6_layFar) (nI 48) kb_48 dX6_layFar_3, wp_icmp_ge (y := zX6_layFar) 30 (by decide) dX6_layFar_5, wp_iconst (y := zX6_layFar) (nI 1) ki_1 dX6_layFar_30, wp_is2 (y := zX6_layFar) dX6_layFar_31, wp_iconst (y := zX6_layFar) (nI 0) ki_0 dX6_layFar_32, wp_is3 (y := zX6_layFar) dX6_layFar_33, O.oc, O.g0, O.g1, O.g2, O.g3, O.g4, O.g5, O.g6, O.g7, O.g9, O.g10, O.g11, O.p0, O.p7, O.a1, O.a2, O.a3, O.a4, O.a5, O.a6, O.a7, O.a8, O.a9, Nat.le_refl]
      have cb := cnN_le (fu (fun _ : Ce => (none : Option Nat)) c (some 0))
      refine outer (cnN (fu (fun _ : Ce => (none : Option Nat)) c (some 0)) + 1) 0 (fu (fun _ : Ce => (none : Option Nat)) c (some 0)) μ1 _ (Nat.lt_succ_self _) (by rw [Nat.zero_add]; exact cb) LyG.start (fun v e q => ?_) F1 (fun v => r1 v v.isLt)
      by_cases z : v = c
      · rw [z, fu_s] at q
        cases q
        exact Nat.le_refl _
      · rw [fu_n _ _ z] at q
        cases q
    | succ k ih =>
      intro i μ1 hi F1 r1
      have hi' : i < 48 := by omega
      have h9 : (48 ≤ i) = False := eq_false (by omega)
      have iv := cI_lt hi'
      have nx1 : ∀ x, x = fo (fu (fun _ => none) c (some 0) (cI i)) → wp sh zX6_layFar 2 [.ref m, .int (nI c.val), .int (nI (i + 1)), .null, .null] [] (mu μ1 (m + 7) (upd (μ1 (m + 7)) i x)) QQ := fun x hx => by
        refine ih (i + 1) _ (by omega) (FrA_mu F1 _) (fun v hv => ?_)
        rw [mu_s]
        by_cases z : v.val = i
        · rw [z, upd_s, hx, show v = cI i from Fin.ext (by rw [z, iv])]
        · rw [upd_n _ _ z]
          exact r1 v (by omega)
      rw [wp_il2 (y := zX6_layFar) dX6_layFar_2]
      by_cases z : i = c.val
      · have z' : (nI i = nI c.val) = True := eq_true (by rw [z])
        simp (disch := first | omega | assumption) only [mm_op_some, true_and, and_true, mm_rc_some, mm_rc_none, pk_mul, nI_add, mm_in_t, nI_clamp, ok0, ok1, ok2, ok3, ok4, n1_0, n0_0, nI_le_, nI_lt_, if_true, if_false, not_true, not_false_eq_true, ce_lt, ce_cl, hf_lt, hf_cl, n0_zz, n1_zz, wp_bipush (y := zX6_layFar) (nI 48) kb_48 dX6_layFar_3, wp_icmp_ge (y := zX6_layFar) 30 (by decide) dX6_layFar_5, wp_al0 (y := zX6_layFar) dX6_layFar_8, wp_getf (y := zX6_layFar) kF6_31 dX6_layFar_9, wp_il2 (y := zX6_layFar) dX6_layFar_12, wp_il2 (y := zX6_layFar) dX6_layFar_13, wp_il1 (y := zX6_layFar) dX6_layFar_14, wp_icmp_ne (y := zX6_layFar) 22 (by decide) dX6_layFar_15, wp_iconst (y := zX6_layFar) (nI 0) ki_0 dX6_layFar_18, wp_goto (y := zX6_layFar) 23 (by decide) dX6_layFar_19, wp_iast (y := zX6_layFar) dX6_layFar_23, wp_inc2 (y := zX6_layFar) (nI 1) ki_1 dX6_layFar_24, wp_goto (y := zX6_layFar) 2 (by decide) dX6_layFar_27, O.oc, O.g0, O.g1, O.g2, O.g3, O.g4, O.g5, O.g6, O.g7, O.g9, O.g10, O.g11, O.p0, O.p7, O.a1, O.a2, O.a3, O.a4, O.a5, O.a6, O.a7, O.a8, O.a9, h9, z']
        exact nx1 _ (by rw [show cI i = c from Fin.ext (by rw [iv, z]), fu_s]; rfl)
      · have z' : (nI i = nI c.val) = False := eq_false (fun q => z (by
          have := congrArg Int32.toInt q
          rw [nI_toInt (by omega), nI_toInt (by omega)] at this
          omega))
        simp (disch := first | omega | assumption) only [mm_op_some, true_and, and_true, mm_rc_some, mm_rc_none, pk_mul, nI_add, mm_in_t, nI_clamp, ok0, ok1, ok2, ok3, ok4, n1_0, n0_0, nI_le_, nI_lt_, if_true, if_false, not_true, not_false_eq_true, ce_lt, ce_cl, hf_lt, hf_cl, n0_zz, n1_zz, wp_bipush (y := zX6_layFar) (nI 48) kb_48 dX6_layFar_3, wp_icmp_ge (y := zX6_layFar) 30 (by decide) dX6_layFar_5, wp_al0 (y := zX6_layFar) dX6_layFar_8, wp_getf (y := zX6_layFar) kF6_31 dX6_layFar_9, wp_il2 (y := zX6_layFar) dX6_layFar_12, wp_il2 (y := zX6_layFar) dX6_layFar_13, wp_il1 (y := zX6_layFar) dX6_layFar_14, wp_icmp_ne (y := zX6_layFar) 22 (by decide) dX6_layFar_15, wp_iconst (y := zX6_layFar) ((-1)) ki_m1 dX6_layFar_22, wp_iast (y := zX6_layFar) dX6_layFar_23, wp_inc2 (y := zX6_layFar) (nI 1) ki_1 dX6_layFar_24, wp_goto (y := zX6_layFar) 2 (by decide) dX6_layFar_27, O.oc, O.g0, O.g1, O.g2, O.g3, O.g4, O.g5, O.g6, O.g7, O.g9, O.g10, O.g11, O.p0, O.p7, O.a1, O.a2, O.a3, O.a4, O.a5, O.a6, O.a7, O.a8, O.a9, h9, z']
        exact nx1 _ (by rw [fu_n _ _ (fun q => z (by rw [← q, iv]))]; rfl)
  simp (disch := first | omega | assumption) only [mm_op_some, true_and, and_true, mm_rc_some, mm_rc_none, pk_mul, nI_add, mm_in_t, nI_clamp, ok0, ok1, ok2, ok3, ok4, n1_0, n0_0, nI_le_, nI_lt_, if_true, if_false, not_true, not_false_eq_true, ce_lt, ce_cl, hf_lt, hf_cl, wp_iconst (y := zX6_layFar) (nI 0) ki_0 dX6_layFar_0, wp_is2 (y := zX6_layFar) dX6_layFar_1]
  exact first 48 0 μ (by omega) (FrA.refl _ _) (fun v hv => absurd hv (Nat.not_lt_zero _))
end MLF
