section MLW2
variable {sh : mm_Sh} {m : Nat} {M : Ms} {μ : mm_U} {s : Fo} {Q : Option Value → mm_U → Prop} {least : Int32}
def SpP (M : Ms) (least : Int32) (src k : P3) (d : Nat) (f : P3 → Option Nat) (μ : mm_U) (m : Nat) (r : Option Value) (μ' : mm_U) : Prop := ∃ f' any, r = some (.int (nI any)) ∧ FrA μ μ' (m + 8) ∧ (∀ v : P3, μ' (m + 8) v.val = fo (f' v)) ∧ LyG (Gr3 M least) src d f' ∧ (∀ v e, f v = some e → f' v = some e) ∧ (∀ v e, f' v = some e → f v = some e ∨ e = d + 1) ∧ (∀ v, Gr3 M least k v → f' v ≠ none) ∧ ((any = 0 ∧ f' = f) ∨ (any = 1 ∧ ∃ v, f v = none ∧ f' v ≠ none))
theorem m_spread (O : MoSh sh m) (A : MeR M (μ (m + 1))) (J : Inv M) (src k : P3) (d : Nat) (hd : d < 2000) (f : P3 → Option Nat) (L : LyG (Gr3 M least) src d f) (hk : f k = some d) (hc : 0 < sd M (c3 k)) (r0 : ∀ v : P3, μ (m + 8) v.val = fo (f v)) : cl sh zX6_spread [.ref m, .int (nI k.val), .int (nI d), .int least] μ (SpP M least src k d f μ m) := by
  show wp sh zX6_spread 0 [.ref m, .int (nI k.val), .int (nI d), .int least, .null, .null, .null, .null, .null, .null] [] μ _
  have fin : ∀ (f' : P3 → Option Nat) (any : Nat) (μ' : mm_U), FrA μ μ' (m + 8) → (∀ v : P3, μ' (m + 8) v.val = fo (f' v)) → LyG (Gr3 M least) src d f' → (∀ v e, f v = some e → f' v = some e) → (∀ v e, f' v = some e → f v = some e ∨ e = d + 1) → (∀ v, Gr3 M least k v → f' v ≠ none) → ((any = 0 ∧ f' = f) ∨ (any = 1 ∧ ∃ v, f v = none ∧ f' v ≠ none)) → SpP M least src k d f μ m (some (.int (nI any))) μ' := fun f' any μ' a1 a2 a3 a4 a5 a6 a7 => ⟨f', any, rfl, a1, a2, a3, a4, a5, a6, a7⟩
  generalize SpP M least src k d f μ m = QQ at fin ⊢
  obtain ⟨g, fh, lg, og⟩ := J.hasf (c3 k) hc
  have g0 : hI ((fH M (c3 k)).getD 0) = g := by rw [fh]; exact hI_val g
  have kb := k.isLt
  have k25 : nI k.val / nI 25 = nI (c3 k).val := pk_div (by omega) (by omega) (by omega)
  have EF : ∀ Q', cl sh zX6_firstSide [.ref m, .int (nI (c3 k).val)] μ Q' = Q' (some (.int (nI g.val))) μ := fun Q' => m_firstSide O A J.lnb (c3 k) g fh
  have sb := J.sdb (c3 k)
  have d5 : nI k.val / nI 5 = nI (k.val / 5) := pk_div (by omega) (by omega) (by omega)
  have d55 : nI (k.val / 5) / nI 5 = nI (k.val / 5 / 5) := pk_div (by omega) (by omega) (by omega)
  have m1 : nI (k.val / 5) - nI (k.val / 5 / 5 * 5) - nI 2 = x3 k := by
    have := nI_rem (a := k.val / 5) (c := 5) (by omega) (by omega) (by omega)
    rw [d55, pk_mul] at this
    rw [this]
    unfold x3
    rw [show k.val / 5 % 5 = k.val % 25 / 5 by omega]
  have m2 : nI k.val - nI (k.val / 5 * 5) - nI 2 = y3 k := by
    have := nI_rem (a := k.val) (c := 5) (by omega) (by omega) (by omega)
    rw [d5, pk_mul] at this
    rw [this]
    rfl
  have k5 : ¬ nI 5 = 0 := by decide
  have k25' : ¬ nI 25 = 0 := by decide
  have loop : ∀ j n (f' : P3 → Option Nat) (any : Nat) (μ2 : mm_U) (v8 v9 : Value), n + j = sd M (c3 k) → LyG (Gr3 M least) src d f' → (∀ v e, f v = some e → f' v = some e) → (∀ v e, f' v = some e → f v = some e ∨ e = d + 1) → (∀ j v, j < n → gg3 M least k j = some v → f' v ≠ none) → FrA μ μ2 (m + 8) → (∀ v : P3, μ2 (m + 8) v.val = fo (f' v)) → ((any = 0 ∧ f' = f) ∨ (any = 1 ∧ ∃ v, f v = none ∧ f' v ≠ none)) → wp sh zX6_spread 20 [.ref m, .int (nI k.val), .int (nI d), .int least, .int (nI any), .int (nI (c3 k).val), .int (nI (nxi M n g).val), .int (nI n), v8, v9] [] μ2 QQ := by
    intro j
    induction j with
    | zero =>
      intro n f' any μ2 v8 v9 hn L2 mon inv cmp F2 r2 hm
      have A2 : MeR M (μ2 (m + 1)) := by rw [F2 (m + 1) (by omega)]; exact A
      have ES : ∀ Q', cl sh zX6_sidesOf [.ref m, .int (nI (c3 k).val)] μ2 Q' = Q' (some (.int (nI (sd M (c3 k))))) μ2 := fun Q' => m_sidesOf O A2 _
      have e : n = sd M (c3 k) := by omega
      rw [← e] at ES
      rw [wp_il7 (y := zX6_spread) dX6_spread_20]
      simp (disch := first | omega | assumption) only [mm_op_some, true_and, and_true, mm_rc_some, mm_rc_none, pk_mul, nI_add, mm_in_t, nI_clamp, ok0, ok1, ok2, ok3, ok4, n1_0, n0_0, nI_le_, nI_lt_, if_true, if_false, not_true, not_false_eq_true, ce_lt, ce_cl, hf_lt, hf_cl, wp_al0 (y := zX6_spread) dX6_spread_22, wp_il5 (y := zX6_spread) dX6_spread_23, wp_cv1 (y := zX6_spread) kM6_115 (by decide) dX6_spread_25, (show yo zX6_sidesOf = 6 from rfl), wp_icmp_ge (y := zX6_spread) 175 (by decide) dX6_spread_28, wp_il4 (y := zX6_spread) dX6_spread_175, wp_iretz (y := zX6_spread) rfl dX6_spread_177, O.oc, O.g0, O.g1, O.g2, O.g3, O.g4, O.g5, O.g6, O.g7, O.g9, O.g10, O.g11, O.p0, O.p7, O.a1, O.a2, O.a3, O.a4, O.a5, O.a6, O.a7, O.a8, O.a9, ES, Nat.le_refl]
      refine ⟨?_, fin f' any μ2 F2 r2 L2 mon inv (fun v hv => ?_) hm⟩
      · rcases hm with ⟨q, _⟩ | ⟨q, _⟩
        · exact Or.inl (by rw [q]; rfl)
        · exact Or.inr (by rw [q]; rfl)
      obtain ⟨i, hi, q⟩ := hv
      exact cmp i v (by omega) q
    | succ j ih =>
      intro n f' any μ2 v8 v9 hn L2 mon inv cmp F2 r2 hm
      have A2 : MeR M (μ2 (m + 1)) := by rw [F2 (m + 1) (by omega)]; exact A
      have ES : ∀ Q', cl sh zX6_sidesOf [.ref m, .int (nI (c3 k).val)] μ2 Q' = Q' (some (.int (nI (sd M (c3 k))))) μ2 := fun Q' => m_sidesOf O A2 _
      have h9 : (sd M (c3 k) ≤ n) = False := eq_false (by omega)
      obtain ⟨lh, oh⟩ := J.1.lit n g lg
      rw [← nxi_itn] at lh oh
      have nn : nxi M (n + 1) g = nx M (nxi M n g) := nxi_s M n g
      have gd : gg3 M least k n = if nr (x3 k + rx M (nxi M n g)) = true ∧ nr (y3 k + ry M (nxi M n g)) = true ∧ ¬ nI (sd M (ow M (tw (nxi M n g)))) < least then some (p3 (ow M (tw (nxi M n g))) (x3 k + rx M (nxi M n g)) (y3 k + ry M (nxi M n g))) else none := by unfold gg3; rw [g0]
      have ih := fun f' any μ2 v8 v9 => ih (n + 1) f' any μ2 v8 v9 (by omega)
      rw [nn] at ih
      generalize nxi M n g = h at lh oh gd ih ⊢
      have hb := h.isLt
      have tb := J.owl _ (LvH_tw.mpr lh)
      have sb2 := J.sdb (ow M (tw h))
      have vX := (A2.1 h lh).2.2.2.1
      have vY := (A2.1 h lh).2.2.2.2
      have EO : ∀ Q', cl sh zX6_over [.ref m, .int (nI h.val)] μ2 Q' = Q' (some (.int (nI (ow M (tw h)).val))) μ2 := fun Q' => m_over O A2 h lh
      have ES2 : ∀ Q', cl sh zX6_sidesOf [.ref m, .int (nI (ow M (tw h)).val)] μ2 Q' = Q' (some (.int (nI (sd M (ow M (tw h)))))) μ2 := fun Q' => m_sidesOf O A2 _
      have bd2 : ∀ v e, f' v = some e → e < 2 ^ 31 := fun v e q => by have := L2.2.2.2 v e q; omega
      have nxt : ∀ (f2 : P3 → Option Nat) (any2 : Nat) (μ3 : mm_U), LyG (Gr3 M least) src d f2 → (∀ v e, f v = some e → f2 v = some e) → (∀ v e, f2 v = some e → f v = some e ∨ e = d + 1) → (∀ j v, j < n + 1 → gg3 M least k j = some v → f2 v ≠ none) → FrA μ μ3 (m + 8) → (∀ v : P3, μ3 (m + 8) v.val = fo (f2 v)) → ((any2 = 0 ∧ f2 = f) ∨ (any2 = 1 ∧ ∃ v, f v = none ∧ f2 v ≠ none)) → wp sh zX6_spread 161 [.ref m, .int (nI k.val), .int (nI d), .int least, .int (nI any2), .int (nI (c3 k).val), .int (nI h.val), .int (nI n), .int (x3 k + rx M h), .int (y3 k + ry M h)] [] μ3 QQ := by
        intro f2 any2 μ3 L3 mon3 inv3 cmp3 F3 r3 hm3
        have A3 : MeR M (μ3 (m + 1)) := by rw [F3 (m + 1) (by omega)]; exact A
        have EN : ∀ Q', cl sh zX6_next [.ref m, .int (nI h.val)] μ3 Q' = Q' (some (.int (nI (nx M h).val))) μ3 := fun Q' => m_next O A3 h lh
        simp (disch := first | omega | assumption) only [mm_op_some, true_and, and_true, mm_rc_some, mm_rc_none, pk_mul, nI_add, mm_in_t, nI_clamp, ok0, ok1, ok2, ok3, ok4, n1_0, n0_0, nI_le_, nI_lt_, if_true, if_false, not_true, not_false_eq_true, ce_lt, ce_cl, hf_lt, hf_cl, wp_al0 (y := zX6_spread) dX6_spread_161, wp_il6 (y := zX6_spread) dX6_spread_162, wp_cv1 (y := zX6_spread) kM6_90 (by decide) dX6_spread_164, (show yo zX6_next = 6 from rfl), wp_is6 (y := zX6_spread) dX6_spread_167, wp_inc7 (y := zX6_spread) (nI 1) ki_1 dX6_spread_169, wp_goto (y := zX6_spread) 20 (by decide) dX6_spread_172, O.oc, O.g0, O.g1, O.g2, O.g3, O.g4, O.g5, O.g6, O.g7, O.g9, O.g10, O.g11, O.p0, O.p7, O.a1, O.a2, O.a3, O.a4, O.a5, O.a6, O.a7, O.a8, O.a9, EN]
        exact ih f2 any2 μ3 _ _ L3 mon3 inv3 cmp3 F3 r3 hm3
      have stay : gg3 M least k n = none → (∀ j v, j < n + 1 → gg3 M least k j = some v → f' v ≠ none) := fun q j v hj e => by
        by_cases z : j = n
        · rw [z, q] at e
          cases e
        · exact cmp j v (by omega) e
      have i1 := isin_nr (x3 k + rx M h)
      have i2 := isin_nr (y3 k + ry M h)
      rw [wp_il7 (y := zX6_spread) dX6_spread_20]
      cases p1 : nr (x3 k + rx M h) with
      | false =>
        rw [p1, bI_f] at i1
        have gn : gg3 M least k n = none := by rw [gd, if_neg (fun q => by rw [p1] at q; cases q.1)]
        simp (disch := first | omega | assumption) only [mm_op_some, true_and, and_true, mm_rc_some, mm_rc_none, pk_mul, nI_add, mm_in_t, nI_clamp, ok0, ok1, ok2, ok3, ok4, n1_0, n0_0, nI_le_, nI_lt_, if_true, if_false, not_true, not_false_eq_true, ce_lt, ce_cl, hf_lt, hf_cl, n0_zz, n1_zz, wp_al0 (y := zX6_spread) dX6_spread_22, wp_il5 (y := zX6_spread) dX6_spread_23, wp_cv1 (y := zX6_spread) kM6_115 (by decide) dX6_spread_25, (show yo zX6_sidesOf = 6 from rfl), wp_icmp_ge (y := zX6_spread) 175 (by decide) dX6_spread_28, wp_il1 (y := zX6_spread) dX6_spread_31, wp_iconst (y := zX6_spread) (nI 5) ki_5 dX6_spread_32, wp_idiv' (y := zX6_spread) dX6_spread_33, wp_iconst (y := zX6_spread) (nI 5) ki_5 dX6_spread_34, wp_irem' (y := zX6_spread) dX6_spread_35, wp_iconst (y := zX6_spread) (nI 2) ki_2 dX6_spread_36, wp_isub (y := zX6_spread) dX6_spread_37, wp_al0 (y := zX6_spread) dX6_spread_38, wp_getf (y := zX6_spread) kF6_9 dX6_spread_39, wp_sipush (y := zX6_spread) (nI 880) ks_880 dX6_spread_42, wp_il6 (y := zX6_spread) dX6_spread_45, wp_iadd (y := zX6_spread) dX6_spread_47, wp_iald (y := zX6_spread) dX6_spread_48, wp_iadd (y := zX6_spread) dX6_spread_49, wp_is8 (y := zX6_spread) dX6_spread_50, wp_il1 (y := zX6_spread) dX6_spread_52, wp_iconst (y := zX6_spread) (nI 5) ki_5 dX6_spread_53, wp_irem' (y := zX6_spread) dX6_spread_54, wp_iconst (y := zX6_spread) (nI 2) ki_2 dX6_spread_55, wp_isub (y := zX6_spread) dX6_spread_56, wp_al0 (y := zX6_spread) dX6_spread_57, wp_getf (y := zX6_spread) kF6_9 dX6_spread_58, wp_sipush (y := zX6_spread) (nI 1168) ks_1168 dX6_spread_61, wp_il6 (y := zX6_spread) dX6_spread_64, wp_iadd (y := zX6_spread) dX6_spread_66, wp_iald (y := zX6_spread) dX6_spread_67, wp_iadd (y := zX6_spread) dX6_spread_68, wp_is9 (y := zX6_spread) dX6_spread_69, wp_il8 (y := zX6_spread) dX6_spread_71, wp_i2l (y := zX6_spread) dX6_spread_73, wp_ldc2 (y := zX6_spread) kL6_277 dX6_spread_74, wp_ldc2 (y := zX6_spread) kL6_253 dX6_spread_77, wp_in (y := zX6_spread) rfl kP6_48 (by decide) dX6_spread_80, wp_if_eq (y := zX6_spread) 161 (by decide) dX6_spread_83, O.oc, O.g0, O.g1, O.g2, O.g3, O.g4, O.g5, O.g6, O.g7, O.g9, O.g10, O.g11, O.p0, O.p7, O.a1, O.a2, O.a3, O.a4, O.a5, O.a6, O.a7, O.a8, O.a9, ES, h9, d5, d55, m1, m2, vX, vY, i1, k5]
        exact nxt f' any μ2 L2 mon inv (stay gn) F2 r2 hm
      | true =>
        rw [p1, bI_t] at i1
        cases p2 : nr (y3 k + ry M h) with
        | false =>
          rw [p2, bI_f] at i2
          have gn : gg3 M least k n = none := by rw [gd, if_neg (fun q => by rw [p2] at q; cases q.2.1)]
          simp (disch := first | omega | assumption) only [mm_op_some, true_and, and_true, mm_rc_some, mm_rc_none, pk_mul, nI_add, mm_in_t, nI_clamp, ok0, ok1, ok2, ok3, ok4, n1_0, n0_0, nI_le_, nI_lt_, if_true, if_false, not_true, not_false_eq_true, ce_lt, ce_cl, hf_lt, hf_cl, n0_zz, n1_zz, wp_al0 (y := zX6_spread) dX6_spread_22, wp_il5 (y := zX6_spread) dX6_spread_23, wp_cv1 (y := zX6_spread) kM6_115 (by decide) dX6_spread_25, (show yo zX6_sidesOf = 6 from rfl), wp_icmp_ge (y := zX6_spread) 175 (by decide) dX6_spread_28, wp_il1 (y := zX6_spread) dX6_spread_31, wp_iconst (y := zX6_spread) (nI 5) ki_5 dX6_spread_32, wp_idiv' (y := zX6_spread) dX6_spread_33, wp_iconst (y := zX6_spread) (nI 5) ki_5 dX6_spread_34, wp_irem' (y := zX6_spread) dX6_spread_35, wp_iconst (y := zX6_spread) (nI 2) ki_2 dX6_spread_36, wp_isub (y := zX6_spread) dX6_spread_37, wp_al0 (y := zX6_spread) dX6_spread_38, wp_getf (y := zX6_spread) kF6_9 dX6_spread_39, wp_sipush (y := zX6_spread) (nI 880) ks_880 dX6_spread_42, wp_il6 (y := zX6_spread) dX6_spread_45, wp_iadd (y := zX6_spread) dX6_spread_47, wp_iald (y := zX6_spread) dX6_spread_48, wp_iadd (y := zX6_spread) dX6_spread_49, wp_is8 (y := zX6_spread) dX6_spread_50, wp_il1 (y := zX6_spread) dX6_spread_52, wp_iconst (y := zX6_spread) (nI 5) ki_5 dX6_spread_53, wp_irem' (y := zX6_spread) dX6_spread_54, wp_iconst (y := zX6_spread) (nI 2) ki_2 dX6_spread_55, wp_isub (y := zX6_spread) dX6_spread_56, wp_al0 (y := zX6_spread) dX6_spread_57, wp_getf (y := zX6_spread) kF6_9 dX6_spread_58, wp_sipush (y := zX6_spread) (nI 1168) ks_1168 dX6_spread_61, wp_il6 (y := zX6_spread) dX6_spread_64, wp_iadd (y := zX6_spread) dX6_spread_66, wp_iald (y := zX6_spread) dX6_spread_67, wp_iadd (y := zX6_spread) dX6_spread_68, wp_is9 (y := zX6_spread) dX6_spread_69, wp_il8 (y := zX6_spread) dX6_spread_71, wp_i2l (y := zX6_spread) dX6_spread_73, wp_ldc2 (y := zX6_spread) kL6_277 dX6_spread_74, wp_ldc2 (y := zX6_spread) kL6_253 dX6_spread_77, wp_in (y := zX6_spread) rfl kP6_48 (by decide) dX6_spread_80, wp_if_eq (y := zX6_spread) 161 (by decide) dX6_spread_83, wp_il9 (y := zX6_spread) dX6_spread_86, wp_i2l (y := zX6_spread) dX6_spread_88, wp_ldc2 (y := zX6_spread) kL6_277 dX6_spread_89, wp_ldc2 (y := zX6_spread) kL6_253 dX6_spread_92, wp_in (y := zX6_spread) rfl kP6_48 (by decide) dX6_spread_95, wp_if_eq (y := zX6_spread) 161 (by decide) dX6_spread_98, O.oc, O.g0, O.g1, O.g2, O.g3, O.g4, O.g5, O.g6, O.g7, O.g9, O.g10, O.g11, O.p0, O.p7, O.a1, O.a2, O.a3, O.a4, O.a5, O.a6, O.a7, O.a8, O.a9, ES, h9, d5, d55, m1, m2, vX, vY, i1, i2, k5]
          exact nxt f' any μ2 L2 mon inv (stay gn) F2 r2 hm
        | true =>
          rw [p2, bI_t] at i2
          by_cases p4 : nI (sd M (ow M (tw h))) < least
          · have p4' := eq_true p4
            have gn : gg3 M least k n = none := by rw [gd, if_neg (fun q => q.2.2 p4)]
            simp (disch := first | omega | assumption) only [mm_op_some, true_and, and_true, mm_rc_some, mm_rc_none, pk_mul, nI_add, mm_in_t, nI_clamp, ok0, ok1, ok2, ok3, ok4, n1_0, n0_0, nI_le_, nI_lt_, if_true, if_false, not_true, not_false_eq_true, ce_lt, ce_cl, hf_lt, hf_cl, n0_zz, n1_zz, wp_al0 (y := zX6_spread) dX6_spread_22, wp_il5 (y := zX6_spread) dX6_spread_23, wp_cv1 (y := zX6_spread) kM6_115 (by decide) dX6_spread_25, (show yo zX6_sidesOf = 6 from rfl), wp_icmp_ge (y := zX6_spread) 175 (by decide) dX6_spread_28, wp_il1 (y := zX6_spread) dX6_spread_31, wp_iconst (y := zX6_spread) (nI 5) ki_5 dX6_spread_32, wp_idiv' (y := zX6_spread) dX6_spread_33, wp_iconst (y := zX6_spread) (nI 5) ki_5 dX6_spread_34, wp_irem' (y := zX6_spread) dX6_spread_35, wp_iconst (y := zX6_spread) (nI 2) ki_2 dX6_spread_36, wp_isub (y := zX6_spread) dX6_spread_37, wp_al0 (y := zX6_spread) dX6_spread_38, wp_getf (y := zX6_spread) kF6_9 dX6_spread_39, wp_sipush (y := zX6_spread) (nI 880) ks_880 dX6_spread_42, wp_il6 (y := zX6_spread) dX6_spread_45, wp_iadd (y := zX6_spread) dX6_spread_47, wp_iald (y := zX6_spread) dX6_spread_48, wp_iadd (y := zX6_spread) dX6_spread_49, wp_is8 (y := zX6_spread) dX6_spread_50, wp_il1 (y := zX6_spread) dX6_spread_52, wp_iconst (y := zX6_spread) (nI 5) ki_5 dX6_spread_53, wp_irem' (y := zX6_spread) dX6_spread_54, wp_iconst (y := zX6_spread) (nI 2) ki_2 dX6_spread_55, wp_isub (y := zX6_spread) dX6_spread_56, wp_al0 (y := zX6_spread) dX6_spread_57, wp_getf (y := zX6_spread) kF6_9 dX6_spread_58, wp_sipush (y := zX6_spread) (nI 1168) ks_1168 dX6_spread_61, wp_il6 (y := zX6_spread) dX6_spread_64, wp_iadd (y := zX6_spread) dX6_spread_66, wp_iald (y := zX6_spread) dX6_spread_67, wp_iadd (y := zX6_spread) dX6_spread_68, wp_is9 (y := zX6_spread) dX6_spread_69, wp_il8 (y := zX6_spread) dX6_spread_71, wp_i2l (y := zX6_spread) dX6_spread_73, wp_ldc2 (y := zX6_spread) kL6_277 dX6_spread_74, wp_ldc2 (y := zX6_spread) kL6_253 dX6_spread_77, wp_in (y := zX6_spread) rfl kP6_48 (by decide) dX6_spread_80, wp_if_eq (y := zX6_spread) 161 (by decide) dX6_spread_83, wp_il9 (y := zX6_spread) dX6_spread_86, wp_i2l (y := zX6_spread) dX6_spread_88, wp_ldc2 (y := zX6_spread) kL6_277 dX6_spread_89, wp_ldc2 (y := zX6_spread) kL6_253 dX6_spread_92, wp_in (y := zX6_spread) rfl kP6_48 (by decide) dX6_spread_95, wp_if_eq (y := zX6_spread) 161 (by decide) dX6_spread_98, wp_al0 (y := zX6_spread) dX6_spread_101, wp_al0 (y := zX6_spread) dX6_spread_102, wp_il6 (y := zX6_spread) dX6_spread_103, wp_cv1 (y := zX6_spread) kM6_105 (by decide) dX6_spread_105, (show yo zX6_over = 6 from rfl), wp_cv1 (y := zX6_spread) kM6_115 (by decide) dX6_spread_108, (show yo zX6_sidesOf = 6 from rfl), wp_il3 (y := zX6_spread) dX6_spread_111, wp_icmp_lt (y := zX6_spread) 161 (by decide) dX6_spread_112, O.oc, O.g0, O.g1, O.g2, O.g3, O.g4, O.g5, O.g6, O.g7, O.g9, O.g10, O.g11, O.p0, O.p7, O.a1, O.a2, O.a3, O.a4, O.a5, O.a6, O.a7, O.a8, O.a9, ES, ES2, EO, h9, d5, d55, m1, m2, vX, vY, i1, i2, k5, p4']
            exact nxt f' any μ2 L2 mon inv (stay gn) F2 r2 hm
          · have p4' := eq_false p4
            rw [if_pos ⟨p1, p2, p4⟩] at gd
            have EST : ∀ Q', cl sh zX6_stateOf [.int (nI (ow M (tw h)).val), .int (x3 k + rx M h), .int (y3 k + ry M h)] μ2 Q' = Q' (some (.int (nI (p3 (ow M (tw h)) (x3 k + rx M h) (y3 k + ry M h)).val))) μ2 := fun Q' => m_stateOf _ p1 p2
            generalize p3 (ow M (tw h)) (x3 k + rx M h) (y3 k + ry M h) = o at gd EST
            have ob := o.isLt
            have q5 := r2 o
            have e5 := fo_eqn (bd2 o)
            have gr : Gr3 M least k o := ⟨n, by omega, gd⟩
            by_cases p5 : f' o = none
            · have p5' := eq_true p5
              simp (disch := first | omega | assumption) only [mm_op_some, true_and, and_true, mm_rc_some, mm_rc_none, pk_mul, nI_add, mm_in_t, nI_clamp, ok0, ok1, ok2, ok3, ok4, n1_0, n0_0, nI_le_, nI_lt_, if_true, if_false, not_true, not_false_eq_true, ce_lt, ce_cl, hf_lt, hf_cl, n0_zz, n1_zz, wp_al0 (y := zX6_spread) dX6_spread_22, wp_il5 (y := zX6_spread) dX6_spread_23, wp_cv1 (y := zX6_spread) kM6_115 (by decide) dX6_spread_25, (show yo zX6_sidesOf = 6 from rfl), wp_icmp_ge (y := zX6_spread) 175 (by decide) dX6_spread_28, wp_il1 (y := zX6_spread) dX6_spread_31, wp_iconst (y := zX6_spread) (nI 5) ki_5 dX6_spread_32, wp_idiv' (y := zX6_spread) dX6_spread_33, wp_iconst (y := zX6_spread) (nI 5) ki_5 dX6_spread_34, wp_irem' (y := zX6_spread) dX6_spread_35, wp_iconst (y := zX6_spread) (nI 2) ki_2 dX6_spread_36, wp_isub (y := zX6_spread) dX6_spread_37, wp_al0 (y := zX6_spread) dX6_spread_38, wp_getf (y := zX6_spread) kF6_9 dX6_spread_39, wp_sipush (y := zX6_spread) (nI 880) ks_880 dX6_spread_42, wp_il6 (y := zX6_spread) dX6_spread_45, wp_iadd (y := zX6_spread) dX6_spread_47, wp_iald (y := zX6_spread) dX6_spread_48, wp_iadd (y := zX6_spread) dX6_spread_49, wp_is8 (y := zX6_spread) dX6_spread_50, wp_il1 (y := zX6_spread) dX6_spread_52, wp_iconst (y := zX6_spread) (nI 5) ki_5 dX6_spread_53, wp_irem' (y := zX6_spread) dX6_spread_54, wp_iconst (y := zX6_spread) (nI 2) ki_2 dX6_spread_55, wp_isub (y := zX6_spread) dX6_spread_56, wp_al0 (y := zX6_spread) dX6_spread_57, wp_getf (y := zX6_spread) kF6_9 dX6_spread_58, wp_sipush (y := zX6_spread) (nI 1168) ks_1168 dX6_spread_61, wp_il6 (y := zX6_spread) dX6_spread_64, wp_iadd (y := zX6_spread) dX6_spread_66, wp_iald (y := zX6_spread) dX6_spread_67, wp_iadd (y := zX6_spread) dX6_spread_68, wp_is9 (y := zX6_spread) dX6_spread_69, wp_il8 (y := zX6_spread) dX6_spread_71, wp_i2l (y := zX6_spread) dX6_spread_73, wp_ldc2 (y := zX6_spread) kL6_277 dX6_spread_74, wp_ldc2 (y := zX6_spread) kL6_253 dX6_spread_77, wp_in (y := zX6_spread) rfl kP6_48 (by decide) dX6_spread_80, wp_if_eq (y := zX6_spread) 161 (by decide) dX6_spread_83, wp_il9 (y := zX6_spread) dX6_spread_86, wp_i2l (y := zX6_spread) dX6_spread_88, wp_ldc2 (y := zX6_spread) kL6_277 dX6_spread_89, wp_ldc2 (y := zX6_spread) kL6_253 dX6_spread_92, wp_in (y := zX6_spread) rfl kP6_48 (by decide) dX6_spread_95, wp_if_eq (y := zX6_spread) 161 (by decide) dX6_spread_98, wp_al0 (y := zX6_spread) dX6_spread_101, wp_al0 (y := zX6_spread) dX6_spread_102, wp_il6 (y := zX6_spread) dX6_spread_103, wp_cv1 (y := zX6_spread) kM6_105 (by decide) dX6_spread_105, (show yo zX6_over = 6 from rfl), wp_cv1 (y := zX6_spread) kM6_115 (by decide) dX6_spread_108, (show yo zX6_sidesOf = 6 from rfl), wp_il3 (y := zX6_spread) dX6_spread_111, wp_icmp_lt (y := zX6_spread) 161 (by decide) dX6_spread_112, wp_al0 (y := zX6_spread) dX6_spread_115, wp_getf (y := zX6_spread) kF6_34 dX6_spread_116, wp_al0 (y := zX6_spread) dX6_spread_119, wp_il6 (y := zX6_spread) dX6_spread_120, wp_cv1 (y := zX6_spread) kM6_105 (by decide) dX6_spread_122, (show yo zX6_over = 6 from rfl), wp_il8 (y := zX6_spread) dX6_spread_125, wp_il9 (y := zX6_spread) dX6_spread_127, wp_cs3 (y := zX6_spread) kM6_270 (by decide) dX6_spread_129, wp_iald (y := zX6_spread) dX6_spread_132, wp_iconst (y := zX6_spread) ((-1)) ki_m1 dX6_spread_133, wp_icmp_ne (y := zX6_spread) 161 (by decide) dX6_spread_134, wp_al0 (y := zX6_spread) dX6_spread_137, wp_getf (y := zX6_spread) kF6_34 dX6_spread_138, wp_al0 (y := zX6_spread) dX6_spread_141, wp_il6 (y := zX6_spread) dX6_spread_142, wp_cv1 (y := zX6_spread) kM6_105 (by decide) dX6_spread_144, (show yo zX6_over = 6 from rfl), wp_il8 (y := zX6_spread) dX6_spread_147, wp_il9 (y := zX6_spread) dX6_spread_149, wp_cs3 (y := zX6_spread) kM6_270 (by decide) dX6_spread_151, wp_il2 (y := zX6_spread) dX6_spread_154, wp_iconst (y := zX6_spread) (nI 1) ki_1 dX6_spread_155, wp_iadd (y := zX6_spread) dX6_spread_156, wp_iast (y := zX6_spread) dX6_spread_157, wp_iconst (y := zX6_spread) (nI 1) ki_1 dX6_spread_158, wp_is4 (y := zX6_spread) dX6_spread_159, O.oc, O.g0, O.g1, O.g2, O.g3, O.g4, O.g5, O.g6, O.g7, O.g9, O.g10, O.g11, O.p0, O.p7, O.a1, O.a2, O.a3, O.a4, O.a5, O.a6, O.a7, O.a8, O.a9, ES, ES2, EO, EST, h9, d5, d55, m1, m2, vX, vY, i1, i2, k5, p4', q5, e5, p5']
              have old : ∀ v e, f' v = some e → fu f' o (some (d + 1)) v = some e := fun v e q => by
                rw [fu_n _ _ (fun z => by rw [z, p5] at q; cases q)]
                exact q
              refine nxt (fu f' o (some (d + 1))) 1 _ (L2.put (mon k d hk) gr p5) (fun v e q => old v e (mon v e q)) (fun v e q => ?_) (fun j v hj q => ?_) (FrA_mu F2 _) (fun v => ?_) (Or.inr ⟨rfl, o, ?_, by rw [fu_s]; exact fun q => by cases q⟩)
              · by_cases z : v = o
                · rw [z, fu_s] at q
                  exact Or.inr (Option.some.inj q).symm
                · rw [fu_n _ _ z] at q
                  exact inv v e q
              · by_cases z : v = o
                · rw [z, fu_s]
                  exact fun q => by cases q
                · rw [fu_n _ _ z]
                  by_cases zj : j = n
                  · rw [zj, gd] at q
                    exact absurd (Option.some.inj q).symm z
                  · exact cmp j v (by omega) q
              · rw [mu_s, upd_fin]
                unfold fu
                split
                · rfl
                · exact r2 v
              · cases q : f o with
                | none => rfl
                | some e => rw [mon _ e q] at p5; cases p5
            · have p5' := eq_false p5
              simp (disch := first | omega | assumption) only [mm_op_some, true_and, and_true, mm_rc_some, mm_rc_none, pk_mul, nI_add, mm_in_t, nI_clamp, ok0, ok1, ok2, ok3, ok4, n1_0, n0_0, nI_le_, nI_lt_, if_true, if_false, not_true, not_false_eq_true, ce_lt, ce_cl, hf_lt, hf_cl, n0_zz, n1_zz, wp_al0 (y := zX6_spread) dX6_spread_22, wp_il5 (y := zX6_spread) dX6_spread_23, wp_cv1 (y := zX6_spread) kM6_115 (by decide) dX6_spread_25, (show yo zX6_sidesOf = 6 from rfl), wp_icmp_ge (y := zX6_spread) 175 (by decide) dX6_spread_28, wp_il1 (y := zX6_spread) dX6_spread_31, wp_iconst (y := zX6_spread) (nI 5) ki_5 dX6_spread_32, wp_idiv' (y := zX6_spread) dX6_spread_33, wp_iconst (y := zX6_spread) (nI 5) ki_5 dX6_spread_34, wp_irem' (y := zX6_spread) dX6_spread_35, wp_iconst (y := zX6_spread) (nI 2) ki_2 dX6_spread_36, wp_isub (y := zX6_spread) dX6_spread_37, wp_al0 (y := zX6_spread) dX6_spread_38, wp_getf (y := zX6_spread) kF6_9 dX6_spread_39, wp_sipush (y := zX6_spread) (nI 880) ks_880 dX6_spread_42, wp_il6 (y := zX6_spread) dX6_spread_45, wp_iadd (y := zX6_spread) dX6_spread_47, wp_iald (y := zX6_spread) dX6_spread_48, wp_iadd (y := zX6_spread) dX6_spread_49, wp_is8 (y := zX6_spread) dX6_spread_50, wp_il1 (y := zX6_spread) dX6_spread_52, wp_iconst (y := zX6_spread) (nI 5) ki_5 dX6_spread_53, wp_irem' (y := zX6_spread) dX6_spread_54, wp_iconst (y := zX6_spread) (nI 2) ki_2 dX6_spread_55, wp_isub (y := zX6_spread) dX6_spread_56, wp_al0 (y := zX6_spread) dX6_spread_57, wp_getf (y := zX6_spread) kF6_9 dX6_spread_58, wp_sipush (y := zX6_spread) (nI 1168) ks_1168 dX6_spread_61, wp_il6 (y := zX6_spread) dX6_spread_64, wp_iadd (y := zX6_spread) dX6_spread_66, wp_iald (y := zX6_spread) dX6_spread_67, wp_iadd (y := zX6_spread) dX6_spread_68, wp_is9 (y := zX6_spread) dX6_spread_69, wp_il8 (y := zX6_spread) dX6_spread_71, wp_i2l (y := zX6_spread) dX6_spread_73, wp_ldc2 (y := zX6_spread) kL6_277 dX6_spread_74, wp_ldc2 (y := zX6_spread) kL6_253 dX6_spread_77, wp_in (y := zX6_spread) rfl kP6_48 (by decide) dX6_spread_80, wp_if_eq (y := zX6_spread) 161 (by decide) dX6_spread_83, wp_il9 (y := zX6_spread) dX6_spread_86, wp_i2l (y := zX6_spread) dX6_spread_88, wp_ldc2 (y := zX6_spread) kL6_277 dX6_spread_89, wp_ldc2 (y := zX6_spread) kL6_253 dX6_spread_92, wp_in (y := zX6_spread) rfl kP6_48 (by decide) dX6_spread_95, wp_if_eq (y := zX6_spread) 161 (by decide) dX6_spread_98, wp_al0 (y := zX6_spread) dX6_spread_101, wp_al0 (y := zX6_spread) dX6_spread_102, wp_il6 (y := zX6_spread) dX6_spread_103, wp_cv1 (y := zX6_spread) kM6_105 (by decide) dX6_spread_105, (show yo zX6_over = 6 from rfl), wp_cv1 (y := zX6_spread) kM6_115 (by decide) dX6_spread_108, (show yo zX6_sidesOf = 6 from rfl), wp_il3 (y := zX6_spread) dX6_spread_111, wp_icmp_lt (y := zX6_spread) 161 (by decide) dX6_spread_112, wp_al0 (y := zX6_spread) dX6_spread_115, wp_getf (y := zX6_spread) kF6_34 dX6_spread_116, wp_al0 (y := zX6_spread) dX6_spread_119, wp_il6 (y := zX6_spread) dX6_spread_120, wp_cv1 (y := zX6_spread) kM6_105 (by decide) dX6_spread_122, (show yo zX6_over = 6 from rfl), wp_il8 (y := zX6_spread) dX6_spread_125, wp_il9 (y := zX6_spread) dX6_spread_127, wp_cs3 (y := zX6_spread) kM6_270 (by decide) dX6_spread_129, wp_iald (y := zX6_spread) dX6_spread_132, wp_iconst (y := zX6_spread) ((-1)) ki_m1 dX6_spread_133, wp_icmp_ne (y := zX6_spread) 161 (by decide) dX6_spread_134, O.oc, O.g0, O.g1, O.g2, O.g3, O.g4, O.g5, O.g6, O.g7, O.g9, O.g10, O.g11, O.p0, O.p7, O.a1, O.a2, O.a3, O.a4, O.a5, O.a6, O.a7, O.a8, O.a9, ES, ES2, EO, EST, h9, d5, d55, m1, m2, vX, vY, i1, i2, k5, p4', q5, e5, p5']
              exact nxt f' any μ2 L2 mon inv (fun j v hj q => by
                by_cases zj : j = n
                · rw [zj, gd] at q
                  cases q
                  exact p5
                · exact cmp j v (by omega) q) F2 r2 hm
  simp (disch := first | omega | assumption) only [mm_op_some, true_and, and_true, mm_rc_some, mm_rc_none, pk_mul, nI_add, mm_in_t, nI_clamp, ok0, ok1, ok2, ok3, ok4, n1_0, n0_0, nI_le_, nI_lt_, if_true, if_false, not_true, not_false_eq_true, ce_lt, ce_cl, hf_lt, hf_cl, n0_zz, n1_zz, wp_iconst (y := zX6_spread) (nI 0) ki_0 dX6_spread_0, wp_is4 (y := zX6_spread) dX6_spread_1, wp_il1 (y := zX6_spread) dX6_spread_3, wp_bipush (y := zX6_spread) (nI 25) kb_25 dX6_spread_4, wp_idiv' (y := zX6_spread) dX6_spread_6, wp_is5 (y := zX6_spread) dX6_spread_7, wp_al0 (y := zX6_spread) dX6_spread_9, wp_il5 (y := zX6_spread) dX6_spread_10, wp_cv1 (y := zX6_spread) kM6_87 (by decide) dX6_spread_12, (show yo zX6_firstSide = 6 from rfl), wp_is6 (y := zX6_spread) dX6_spread_15, wp_iconst (y := zX6_spread) (nI 0) ki_0 dX6_spread_17, wp_is7 (y := zX6_spread) dX6_spread_18, O.oc, O.g0, O.g1, O.g2, O.g3, O.g4, O.g5, O.g6, O.g7, O.g9, O.g10, O.g11, O.p0, O.p7, O.a1, O.a2, O.a3, O.a4, O.a5, O.a6, O.a7, O.a8, O.a9, k25, k25', EF]
  exact loop (sd M (c3 k)) 0 f 0 μ _ _ (by omega) L (fun v e q => q) (fun v e q => Or.inl q) (fun j v hj => absurd hj (Nat.not_lt_zero _)) (FrA.refl _ _) r0 (Or.inl ⟨rfl, rfl⟩)
end MLW2
