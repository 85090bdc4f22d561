section MLO
variable {sh : mm_Sh} {m : Nat} {M : Ms} {μ μ0 μ1 μ2 : mm_U} {s : Fo} {Q : Option Value → mm_U → Prop}
/-- in a thought, the row as it was laid aside -/
def TH (μ0 μ1 : mm_U) (m : Nat) : Prop := (∀ a, a ≠ m + 1 → μ1 a = μ0 a) ∧ ∀ k, k < 1786 → μ1 (m + 1) k = μ0 (m + 1) k
theorem TH.rep (T : TH μ0 μ1 m) (R : RepM s μ0 m) : RepM s μ1 m := by
  refine ⟨R.1.cg (fun k _ hk => T.2 k (by omega)), ?_⟩
  rw [T.1 m (by omega)]
  exact R.2.cgb T.2
theorem TH.back (as : ∀ k, k < 1786 → μ0 (m + 2) k = μ0 (m + 1) k) (F : ∀ a, a ≠ m + 1 → μ2 a = μ0 a) : TH μ0 (mu μ2 (m + 1) (cpR (μ2 (m + 2)) (μ2 (m + 1)) 0 0 1786)) m := by
  refine ⟨fun a ha => by rw [mu_n _ _ ha]; exact F a ha, fun k hk => ?_⟩
  rw [mu_s]
  unfold cpR
  rw [if_pos (by omega), F (m + 2) (by omega), show 0 + (k - 0) = k by omega]
  exact as k hk
theorem TH.mt {v : Int32} (g0 : μ m 7 = nI 0) (R : RepM s μ m) (J : Inv s.1) (T : TH (mu (mu μ m (upd (μ m) 0 (nI 0))) (m + 2) (cpR ((mu μ m (upd (μ m) 0 (nI 0))) (m + 1)) ((mu μ m (upd (μ m) 0 (nI 0))) (m + 2)) 0 0 1786)) μ1 m) : MT m μ (v, s) (some (.int v)) μ1 :=
  ⟨rfl, T.rep (th_of (R.mu0 (nI 0))), J, by rw [T.1 m (by omega), mu_n _ _ (by omega), mu_s, upd_n _ _ (by omega)]; exact g0, by rw [T.1 m (by omega), mu_n _ _ (by omega), mu_s, upd_s], fun a h1 h2 => by rw [T.1 a (by omega), mu_n _ _ (by omega), mu_n _ _ (by omega)]⟩
theorem asd (μ : mm_U) (m : Nat) : ∀ k, k < 1786 → (mu (mu μ m (upd (μ m) 0 (nI 0))) (m + 2) (cpR ((mu μ m (upd (μ m) 0 (nI 0))) (m + 1)) ((mu μ m (upd (μ m) 0 (nI 0))) (m + 2)) 0 0 1786)) (m + 2) k = (mu (mu μ m (upd (μ m) 0 (nI 0))) (m + 2) (cpR ((mu μ m (upd (μ m) 0 (nI 0))) (m + 1)) ((mu μ m (upd (μ m) 0 (nI 0))) (m + 2)) 0 0 1786)) (m + 1) k := fun k hk => by
  rw [mu_s, mu_n _ _ (show m + 1 ≠ m + 2 by omega)]
  unfold cpR
  rw [if_pos (by omega), show 0 + (k - 0) = k by omega]
theorem m_lowest (O : MoSh sh m) (R : RepM s μ m) (J : Inv s.1) (g0 : μ m 7 = nI 0) (x : Int32) : cl sh zX6_lowest [.ref m, .int x] μ (MT m μ (a_lowest s x, s)) := by
  have R0 := R.mu0 (nI 0)
  have A := R0.1
  show wp sh zX6_lowest 0 [.ref m, .int x, .null, .null, .null, .null] [] μ _
  unfold a_lowest
  by_cases hx : x < 0 ∨ nI 2 < x
  · rw [if_pos hx]
    have i0 : mm_isin x.toInt64 0 2 = nI 0 := isin_an (lo := 0) (hi := nI 2) rfl rfl hx
    have fin : MT m μ ((-1 : Int32), s) (some (.int (-1))) (mu μ m (upd (μ m) 0 (nI 0))) := mt_ro g0 rfl (RO.refl _ _) rfl R0 J
    generalize MT m μ ((-1 : Int32), s) = QQ at fin ⊢
    simp (disch := first | omega | assumption) only [mm_op_some, true_and, and_true, mm_rc_some, mm_rc_none, pk_mul, nI_add, mm_in_t, nI_clamp, ok0, ok1, ok2, ok3, ok4, n1_0, n0_0, nI_le_, nI_lt_, if_true, if_false, not_true, not_false_eq_true, ce_lt, ce_cl, hf_lt, hf_cl, n0_zz, n1_zz, wp_al0 (y := zX6_lowest) dX6_lowest_0, wp_iconst (y := zX6_lowest) (nI 0) ki_0 dX6_lowest_1, wp_putf (y := zX6_lowest) kF6_44 rfl dX6_lowest_2, wp_il1 (y := zX6_lowest) dX6_lowest_5, wp_i2l (y := zX6_lowest) dX6_lowest_6, wp_lconst (y := zX6_lowest) (0) kl_0 dX6_lowest_7, wp_ldc2 (y := zX6_lowest) kL6_253 dX6_lowest_8, wp_in (y := zX6_lowest) rfl kP6_48 (by decide) dX6_lowest_11, wp_if_ne (y := zX6_lowest) 19 (by decide) dX6_lowest_14, wp_iconst (y := zX6_lowest) ((-1)) ki_m1 dX6_lowest_17, wp_ireti (y := zX6_lowest) rfl dX6_lowest_18, O.oc, O.g0, O.g1, O.g2, O.g3, O.g4, O.g5, O.g6, O.g7, O.g9, O.g10, O.g11, O.p0, O.p7, O.a1, O.a2, O.a3, O.a4, O.a5, O.a6, O.a7, O.a8, O.a9, i0]
    exact fin
  · rw [if_neg hx]
    have i0 : mm_isin x.toInt64 0 2 = nI 1 := isin_ab (lo := 0) (hi := nI 2) rfl rfl (fun q => hx (Or.inl q)) (fun q => hx (Or.inr q))
    have ES : ∀ Q', cl sh zX6_strain [.ref m] (mu μ m (upd (μ m) 0 (nI 0))) Q' = Q' (some (.int (stn s.1))) (mu μ m (upd (μ m) 0 (nI 0))) := fun Q' => m_strain O A J
    have EE : ∀ Q', cl sh zX6_eased [.ref m] (mu μ m (upd (μ m) 0 (nI 0))) Q' = Q' (some (.int (mEs s.1))) (mu μ m (upd (μ m) 0 (nI 0))) := fun Q' => m_eased O A J
    have ET : ∀ Q', cl sh zX6_think [.ref m] (mu μ m (upd (μ m) 0 (nI 0))) Q' = Q' none (mu (mu μ m (upd (μ m) 0 (nI 0))) (m + 2) (cpR ((mu μ m (upd (μ m) 0 (nI 0))) (m + 1)) ((mu μ m (upd (μ m) 0 (nI 0))) (m + 2)) 0 0 1786)) := fun Q' => m_think O
    have fin : ∀ v μ', TH (mu (mu μ m (upd (μ m) 0 (nI 0))) (m + 2) (cpR ((mu μ m (upd (μ m) 0 (nI 0))) (m + 1)) ((mu μ m (upd (μ m) 0 (nI 0))) (m + 2)) 0 0 1786)) μ' m → MT m μ (v, s) (some (.int v)) μ' := fun v μ' T => T.mt g0 R J
    have x3 : x = nI 0 ∨ x = nI 1 ∨ x = nI 2 := by
      rw [Int32.lt_iff_toInt_lt, Int32.lt_iff_toInt_lt, show (0 : Int32).toInt = 0 from rfl, show (nI 2).toInt = 2 from rfl] at hx
      have : x.toInt = 0 ∨ x.toInt = 1 ∨ x.toInt = 2 := by omega
      rcases this with e | e | e
      · exact Or.inl (Int32.toInt_inj.mp (by rw [e]; rfl))
      · exact Or.inr (Or.inl (Int32.toInt_inj.mp (by rw [e]; rfl)))
      · exact Or.inr (Or.inr (Int32.toInt_inj.mp (by rw [e]; rfl)))
    have t0 : TH (mu (mu μ m (upd (μ m) 0 (nI 0))) (m + 2) (cpR ((mu μ m (upd (μ m) 0 (nI 0))) (m + 1)) ((mu μ m (upd (μ m) 0 (nI 0))) (m + 2)) 0 0 1786)) (mu (mu μ m (upd (μ m) 0 (nI 0))) (m + 2) (cpR ((mu μ m (upd (μ m) 0 (nI 0))) (m + 1)) ((mu μ m (upd (μ m) 0 (nI 0))) (m + 2)) 0 0 1786)) m := ⟨fun _ _ => rfl, fun _ _ => rfl⟩
    have c0 : (nI 0 = nI 2) = False := eq_false (by decide)
    have c1 : (nI 1 = nI 2) = False := eq_false (by decide)
    have c2 : (nI 2 = nI 2) = True := eq_true rfl
    have z2 : (nI 2 = 0) = False := eq_false (by decide)
    have h9 : (144 ≤ 0) = False := eq_false (by omega)
    rcases x3 with rfl | rfl | rfl
    · have e : lsF s.1 (nI 0) = stn s.1 - nI 0 := by
        unfold lsF
        rw [if_pos (by decide)]
        exact (Int32.sub_zero _).symm
      rw [e]
      have fin := fin (stn s.1 - nI 0) _ t0
      generalize MT m μ (stn s.1 - nI 0, s) = QQ at fin ⊢
      simp (disch := first | omega | assumption) only [mm_op_some, true_and, and_true, mm_rc_some, mm_rc_none, pk_mul, nI_add, mm_in_t, nI_clamp, ok0, ok1, ok2, ok3, ok4, n1_0, n0_0, nI_le_, nI_lt_, if_true, if_false, not_true, not_false_eq_true, ce_lt, ce_cl, hf_lt, hf_cl, n0_zz, n1_zz, wp_al0 (y := zX6_lowest) dX6_lowest_0, wp_iconst (y := zX6_lowest) (nI 0) ki_0 dX6_lowest_1, wp_putf (y := zX6_lowest) kF6_44 rfl dX6_lowest_2, wp_il1 (y := zX6_lowest) dX6_lowest_5, wp_i2l (y := zX6_lowest) dX6_lowest_6, wp_lconst (y := zX6_lowest) (0) kl_0 dX6_lowest_7, wp_ldc2 (y := zX6_lowest) kL6_253 dX6_lowest_8, wp_in (y := zX6_lowest) rfl kP6_48 (by decide) dX6_lowest_11, wp_if_ne (y := zX6_lowest) 19 (by decide) dX6_lowest_14, wp_al0 (y := zX6_lowest) dX6_lowest_19, wp_cv0 (y := zX6_lowest) kM6_288 (by decide) dX6_lowest_20, (show yo zX6_strain = 6 from rfl), wp_is2 (y := zX6_lowest) dX6_lowest_23, wp_il1 (y := zX6_lowest) dX6_lowest_24, wp_if_ne (y := zX6_lowest) 32 (by decide) dX6_lowest_25, wp_iconst (y := zX6_lowest) (nI 0) ki_0 dX6_lowest_28, wp_goto (y := zX6_lowest) 36 (by decide) dX6_lowest_29, wp_is3 (y := zX6_lowest) dX6_lowest_36, wp_al0 (y := zX6_lowest) dX6_lowest_37, wp_cv0 (y := zX6_lowest) kM6_301 (by decide) dX6_lowest_38, (show yo zX6_think = 6 from rfl), wp_iconst (y := zX6_lowest) (nI 0) ki_0 dX6_lowest_41, wp_is4 (y := zX6_lowest) dX6_lowest_42, wp_il4 (y := zX6_lowest) dX6_lowest_44, wp_sipush (y := zX6_lowest) (nI 144) ks_144 dX6_lowest_46, wp_icmp_ge (y := zX6_lowest) 115 (by decide) dX6_lowest_49, wp_il1 (y := zX6_lowest) dX6_lowest_52, wp_iconst (y := zX6_lowest) (nI 2) ki_2 dX6_lowest_53, wp_icmp_ne (y := zX6_lowest) 115 (by decide) dX6_lowest_54, wp_il2 (y := zX6_lowest) dX6_lowest_115, wp_il3 (y := zX6_lowest) dX6_lowest_116, wp_isub (y := zX6_lowest) dX6_lowest_117, wp_ireti (y := zX6_lowest) rfl dX6_lowest_118, O.oc, O.g0, O.g1, O.g2, O.g3, O.g4, O.g5, O.g6, O.g7, O.g9, O.g10, O.g11, O.p0, O.p7, O.a1, O.a2, O.a3, O.a4, O.a5, O.a6, O.a7, O.a8, O.a9, i0, ES, ET, c0, h9]
      exact fin
    · have e : lsF s.1 (nI 1) = stn s.1 - mEs s.1 := by
        unfold lsF
        rw [if_neg (by decide), if_pos (by decide)]
      rw [e]
      have fin := fin (stn s.1 - mEs s.1) _ t0
      generalize MT m μ (stn s.1 - mEs s.1, s) = QQ at fin ⊢
      simp (disch := first | omega | assumption) only [mm_op_some, true_and, and_true, mm_rc_some, mm_rc_none, pk_mul, nI_add, mm_in_t, nI_clamp, ok0, ok1, ok2, ok3, ok4, n1_0, n0_0, nI_le_, nI_lt_, if_true, if_false, not_true, not_false_eq_true, ce_lt, ce_cl, hf_lt, hf_cl, n0_zz, n1_zz, wp_al0 (y := zX6_lowest) dX6_lowest_0, wp_iconst (y := zX6_lowest) (nI 0) ki_0 dX6_lowest_1, wp_putf (y := zX6_lowest) kF6_44 rfl dX6_lowest_2, wp_il1 (y := zX6_lowest) dX6_lowest_5, wp_i2l (y := zX6_lowest) dX6_lowest_6, wp_lconst (y := zX6_lowest) (0) kl_0 dX6_lowest_7, wp_ldc2 (y := zX6_lowest) kL6_253 dX6_lowest_8, wp_in (y := zX6_lowest) rfl kP6_48 (by decide) dX6_lowest_11, wp_if_ne (y := zX6_lowest) 19 (by decide) dX6_lowest_14, wp_al0 (y := zX6_lowest) dX6_lowest_19, wp_cv0 (y := zX6_lowest) kM6_288 (by decide) dX6_lowest_20, (show yo zX6_strain = 6 from rfl), wp_is2 (y := zX6_lowest) dX6_lowest_23, wp_il1 (y := zX6_lowest) dX6_lowest_24, wp_if_ne (y := zX6_lowest) 32 (by decide) dX6_lowest_25, wp_al0 (y := zX6_lowest) dX6_lowest_32, wp_cv0 (y := zX6_lowest) kM6_298 (by decide) dX6_lowest_33, (show yo zX6_eased = 6 from rfl), wp_is3 (y := zX6_lowest) dX6_lowest_36, wp_al0 (y := zX6_lowest) dX6_lowest_37, wp_cv0 (y := zX6_lowest) kM6_301 (by decide) dX6_lowest_38, (show yo zX6_think = 6 from rfl), wp_iconst (y := zX6_lowest) (nI 0) ki_0 dX6_lowest_41, wp_is4 (y := zX6_lowest) dX6_lowest_42, wp_il4 (y := zX6_lowest) dX6_lowest_44, wp_sipush (y := zX6_lowest) (nI 144) ks_144 dX6_lowest_46, wp_icmp_ge (y := zX6_lowest) 115 (by decide) dX6_lowest_49, wp_il1 (y := zX6_lowest) dX6_lowest_52, wp_iconst (y := zX6_lowest) (nI 2) ki_2 dX6_lowest_53, wp_icmp_ne (y := zX6_lowest) 115 (by decide) dX6_lowest_54, wp_il2 (y := zX6_lowest) dX6_lowest_115, wp_il3 (y := zX6_lowest) dX6_lowest_116, wp_isub (y := zX6_lowest) dX6_lowest_117, wp_ireti (y := zX6_lowest) rfl dX6_lowest_118, O.oc, O.g0, O.g1, O.g2, O.g3, O.g4, O.g5, O.g6, O.g7, O.g9, O.g10, O.g11, O.p0, O.p7, O.a1, O.a2, O.a3, O.a4, O.a5, O.a6, O.a7, O.a8, O.a9, i0, ES, EE, ET, c1, h9]
      exact fin
    · have e : lsF s.1 (nI 2) = stn s.1 - it (mxG s.1) 144 0 (mEs s.1) := by
        unfold lsF
        rw [if_neg (by decide), if_neg (by decide), ls_eq J]
      rw [e]
      have fin := fin (stn s.1 - it (mxG s.1) 144 0 (mEs s.1))
      generalize MT m μ (stn s.1 - it (mxG s.1) 144 0 (mEs s.1), s) = QQ at fin ⊢
      have as := asd μ m
      have R2 := th_of R0
      simp (disch := first | omega | assumption) only [mm_op_some, true_and, and_true, mm_rc_some, mm_rc_none, pk_mul, nI_add, mm_in_t, nI_clamp, ok0, ok1, ok2, ok3, ok4, n1_0, n0_0, nI_le_, nI_lt_, if_true, if_false, not_true, not_false_eq_true, ce_lt, ce_cl, hf_lt, hf_cl, n0_zz, n1_zz, wp_al0 (y := zX6_lowest) dX6_lowest_0, wp_iconst (y := zX6_lowest) (nI 0) ki_0 dX6_lowest_1, wp_putf (y := zX6_lowest) kF6_44 rfl dX6_lowest_2, wp_il1 (y := zX6_lowest) dX6_lowest_5, wp_i2l (y := zX6_lowest) dX6_lowest_6, wp_lconst (y := zX6_lowest) (0) kl_0 dX6_lowest_7, wp_ldc2 (y := zX6_lowest) kL6_253 dX6_lowest_8, wp_in (y := zX6_lowest) rfl kP6_48 (by decide) dX6_lowest_11, wp_if_ne (y := zX6_lowest) 19 (by decide) dX6_lowest_14, wp_al0 (y := zX6_lowest) dX6_lowest_19, wp_cv0 (y := zX6_lowest) kM6_288 (by decide) dX6_lowest_20, (show yo zX6_strain = 6 from rfl), wp_is2 (y := zX6_lowest) dX6_lowest_23, wp_il1 (y := zX6_lowest) dX6_lowest_24, wp_if_ne (y := zX6_lowest) 32 (by decide) dX6_lowest_25, wp_al0 (y := zX6_lowest) dX6_lowest_32, wp_cv0 (y := zX6_lowest) kM6_298 (by decide) dX6_lowest_33, (show yo zX6_eased = 6 from rfl), wp_is3 (y := zX6_lowest) dX6_lowest_36, wp_al0 (y := zX6_lowest) dX6_lowest_37, wp_cv0 (y := zX6_lowest) kM6_301 (by decide) dX6_lowest_38, (show yo zX6_think = 6 from rfl), wp_iconst (y := zX6_lowest) (nI 0) ki_0 dX6_lowest_41, wp_is4 (y := zX6_lowest) dX6_lowest_42, O.oc, O.g0, O.g1, O.g2, O.g3, O.g4, O.g5, O.g6, O.g7, O.g9, O.g10, O.g11, O.p0, O.p7, O.a1, O.a2, O.a3, O.a4, O.a5, O.a6, O.a7, O.a8, O.a9, i0, ES, EE, ET, z2]
      generalize hU : (mu (mu μ m (upd (μ m) 0 (nI 0))) (m + 2) (cpR ((mu μ m (upd (μ m) 0 (nI 0))) (m + 1)) ((mu μ m (upd (μ m) 0 (nI 0))) (m + 2)) 0 0 1786)) = V at as R2 fin ⊢
      have key : ∀ d i v5 (μ1 : mm_U), i + d = 144 → TH V μ1 m → wp sh zX6_lowest 44 [.ref m, .int (nI 2), .int (stn s.1), .int (it (mxG s.1) i 0 (mEs s.1)), .int (nI i), v5] [] μ1 QQ := by
        intro d
        induction d with
        | zero =>
          intro i v5 μ1 hi T
          have e : i = 144 := by omega
          subst e
          rw [wp_il4 (y := zX6_lowest) dX6_lowest_44]
          simp (disch := first | omega | assumption) only [mm_op_some, true_and, and_true, mm_rc_some, mm_rc_none, pk_mul, nI_add, mm_in_t, nI_clamp, ok0, ok1, ok2, ok3, ok4, n1_0, n0_0, nI_le_, nI_lt_, if_true, if_false, not_true, not_false_eq_true, ce_lt, ce_cl, hf_lt, hf_cl, n0_zz, n1_zz, wp_sipush (y := zX6_lowest) (nI 144) ks_144 dX6_lowest_46, wp_icmp_ge (y := zX6_lowest) 115 (by decide) dX6_lowest_49, wp_il2 (y := zX6_lowest) dX6_lowest_115, wp_il3 (y := zX6_lowest) dX6_lowest_116, wp_isub (y := zX6_lowest) dX6_lowest_117, wp_ireti (y := zX6_lowest) rfl dX6_lowest_118, Nat.le_refl]
          exact fin _ T
        | succ d ih =>
          intro i v5 μ1 hi T
          have hi' : i < 144 := by omega
          have h9 : (144 ≤ i) = False := eq_false (by omega)
          have iv := wI_lt hi'
          have A1 := (T.rep R2).1
          have nxt := fun v5 μ2 => ih (i + 1) v5 μ2 (by omega)
          rw [it_last0] at nxt
          generalize it (mxG s.1) i 0 (mEs s.1) = acc at nxt ⊢
          unfold mxG at nxt
          have EC : ∀ Q', cl sh zX6_canSwap [.ref m, .int (nI i)] μ1 Q' = Q' (some (.int (bI (lv s.1 (wI i) && can s.1 (wI i))))) μ1 := fun Q' => m_canSwap O A1 J hi'
          rw [wp_il4 (y := zX6_lowest) dX6_lowest_44]
          by_cases hh : lv s.1 (wI i) = true ∧ can s.1 (wI i) = true
          · obtain ⟨hl, hc⟩ := hh
            rw [hl, hc, Bool.true_and, bI_t] at EC
            rw [if_pos hl, if_pos hc] at nxt
            have EA : ∀ Q', cl sh zX6_easing [.ref m, .int (nI i)] μ1 Q' = Q' (some (.int (ease s.1 (wI i)))) μ1 := fun Q' => by
              have := m_easing (Q := Q') O A1 J (wI i) hl
              rw [iv] at this
              exact this
            have TW := m_turnWall O A1 J (wI i) hl hc
            rw [iv] at TW
            simp (disch := first | omega | assumption) only [mm_op_some, true_and, and_true, mm_rc_some, mm_rc_none, pk_mul, nI_add, mm_in_t, nI_clamp, ok0, ok1, ok2, ok3, ok4, n1_0, n0_0, nI_le_, nI_lt_, if_true, if_false, not_true, not_false_eq_true, ce_lt, ce_cl, hf_lt, hf_cl, n0_zz, n1_zz, wp_sipush (y := zX6_lowest) (nI 144) ks_144 dX6_lowest_46, wp_icmp_ge (y := zX6_lowest) 115 (by decide) dX6_lowest_49, wp_il1 (y := zX6_lowest) dX6_lowest_52, wp_iconst (y := zX6_lowest) (nI 2) ki_2 dX6_lowest_53, wp_icmp_ne (y := zX6_lowest) 115 (by decide) dX6_lowest_54, wp_al0 (y := zX6_lowest) dX6_lowest_57, wp_il4 (y := zX6_lowest) dX6_lowest_58, wp_cv1 (y := zX6_lowest) kM6_147 (by decide) dX6_lowest_60, (show yo zX6_canSwap = 6 from rfl), wp_if_eq (y := zX6_lowest) 109 (by decide) dX6_lowest_63, wp_al0 (y := zX6_lowest) dX6_lowest_66, wp_il4 (y := zX6_lowest) dX6_lowest_67, wp_cv1 (y := zX6_lowest) kM6_150 (by decide) dX6_lowest_69, (show yo zX6_easing = 6 from rfl), wp_is5 (y := zX6_lowest) dX6_lowest_72, wp_al0 (y := zX6_lowest) dX6_lowest_74, wp_il4 (y := zX6_lowest) dX6_lowest_75, wp_cv1 (y := zX6_lowest) kM6_135 (by decide) dX6_lowest_77, (show yo zX6_turnWall = 6 from rfl), O.oc, O.g0, O.g1, O.g2, O.g3, O.g4, O.g5, O.g6, O.g7, O.g9, O.g10, O.g11, O.p0, O.p7, O.a1, O.a2, O.a3, O.a4, O.a5, O.a6, O.a7, O.a8, O.a9, h9, c2, EC, EA]
            refine cl_mono TW ?_
            rintro r μ2 ⟨rfl, A2, F2⟩
            have EE2 : ∀ Q', cl sh zX6_eased [.ref m] μ2 Q' = Q' (some (.int (mEs (flM s.1 (wI i))))) μ2 := fun Q' => m_eased O A2 (J.fl hl hc)
            have EG : ∀ a b Q', cl sh zX6_greater [.int a, .int b] μ2 Q' = Q' (some (.int (imax a b))) μ2 := fun a b Q' => m_greater a b
            have EP : ∀ Q', cl sh zX6_copy [.ref (m + 2), .int (nI 0), .ref (m + 1), .int (nI 0)] μ2 Q' = Q' none (mu μ2 (m + 1) (cpR (μ2 (m + 2)) (μ2 (m + 1)) 0 0 1786)) := fun Q' => m_copy O.a2 O.a1 (by omega) (by omega) (by omega) (by omega) (by omega)
            rw [imax_comm] at nxt
            simp (disch := first | omega | assumption) only [mm_op_some, true_and, and_true, mm_rc_some, mm_rc_none, pk_mul, nI_add, mm_in_t, nI_clamp, ok0, ok1, ok2, ok3, ok4, n1_0, n0_0, nI_le_, nI_lt_, if_true, if_false, not_true, not_false_eq_true, ce_lt, ce_cl, hf_lt, hf_cl, n0_zz, n1_zz, wp_il5 (y := zX6_lowest) dX6_lowest_80, wp_al0 (y := zX6_lowest) dX6_lowest_82, wp_cv0 (y := zX6_lowest) kM6_298 (by decide) dX6_lowest_83, (show yo zX6_eased = 6 from rfl), wp_iadd (y := zX6_lowest) dX6_lowest_86, wp_is5 (y := zX6_lowest) dX6_lowest_87, wp_il5 (y := zX6_lowest) dX6_lowest_89, wp_il3 (y := zX6_lowest) dX6_lowest_91, wp_cs2 (y := zX6_lowest) kM6_258 (by decide) dX6_lowest_92, wp_is3 (y := zX6_lowest) dX6_lowest_95, wp_al0 (y := zX6_lowest) dX6_lowest_96, wp_getf (y := zX6_lowest) kF6_15 dX6_lowest_97, wp_iconst (y := zX6_lowest) (nI 0) ki_0 dX6_lowest_100, wp_al0 (y := zX6_lowest) dX6_lowest_101, wp_getf (y := zX6_lowest) kF6_9 dX6_lowest_102, wp_iconst (y := zX6_lowest) (nI 0) ki_0 dX6_lowest_105, wp_cs_riri (y := zX6_lowest) kM6_52 (by decide) dX6_lowest_106, wp_inc4 (y := zX6_lowest) (nI 1) ki_1 dX6_lowest_109, wp_goto (y := zX6_lowest) 44 (by decide) dX6_lowest_112, O.oc, O.g0, O.g1, O.g2, O.g3, O.g4, O.g5, O.g6, O.g7, O.g9, O.g10, O.g11, O.p0, O.p7, O.a1, O.a2, O.a3, O.a4, O.a5, O.a6, O.a7, O.a8, O.a9, EE2, EG, EP]
            exact nxt _ _ (TH.back as (fun a ha => (F2.1 a ha).trans (T.1 a ha)))
          · have cf : (lv s.1 (wI i) && can s.1 (wI i)) = false := Bool.eq_false_iff.mpr (fun q => hh (by rw [Bool.and_eq_true] at q; exact q))
            rw [cf, bI_f] at EC
            have ne : (if lv s.1 (wI i) = true then (if can s.1 (wI i) = true then imax acc (ease s.1 (wI i) + mEs (flM s.1 (wI i))) else acc) else acc) = acc := by
              by_cases hl : lv s.1 (wI i) = true
              · rw [if_pos hl, if_neg (fun q => hh ⟨hl, q⟩)]
              · rw [if_neg hl]
            rw [ne] at nxt
            simp (disch := first | omega | assumption) only [mm_op_some, true_and, and_true, mm_rc_some, mm_rc_none, pk_mul, nI_add, mm_in_t, nI_clamp, ok0, ok1, ok2, ok3, ok4, n1_0, n0_0, nI_le_, nI_lt_, if_true, if_false, not_true, not_false_eq_true, ce_lt, ce_cl, hf_lt, hf_cl, n0_zz, n1_zz, wp_sipush (y := zX6_lowest) (nI 144) ks_144 dX6_lowest_46, wp_icmp_ge (y := zX6_lowest) 115 (by decide) dX6_lowest_49, wp_il1 (y := zX6_lowest) dX6_lowest_52, wp_iconst (y := zX6_lowest) (nI 2) ki_2 dX6_lowest_53, wp_icmp_ne (y := zX6_lowest) 115 (by decide) dX6_lowest_54, wp_al0 (y := zX6_lowest) dX6_lowest_57, wp_il4 (y := zX6_lowest) dX6_lowest_58, wp_cv1 (y := zX6_lowest) kM6_147 (by decide) dX6_lowest_60, (show yo zX6_canSwap = 6 from rfl), wp_if_eq (y := zX6_lowest) 109 (by decide) dX6_lowest_63, wp_inc4 (y := zX6_lowest) (nI 1) ki_1 dX6_lowest_109, wp_goto (y := zX6_lowest) 44 (by decide) dX6_lowest_112, O.oc, O.g0, O.g1, O.g2, O.g3, O.g4, O.g5, O.g6, O.g7, O.g9, O.g10, O.g11, O.p0, O.p7, O.a1, O.a2, O.a3, O.a4, O.a5, O.a6, O.a7, O.a8, O.a9, h9, c2, EC]
            exact nxt _ _ T
      exact key 144 0 _ V (by omega) (by rw [← hU]; exact t0)
theorem m_reach (O : MoSh sh m) (R : RepM s μ m) (J : Inv s.1) (g0 : μ m 7 = nI 0) (x n what : Int32) : cl sh zX6_reach [.ref m, .int x, .int n, .int what] μ (MT m μ (a_reach s x n what, s)) := by
  have R0 := R.mu0 (nI 0)
  have A := R0.1
  show wp sh zX6_reach 0 [.ref m, .int x, .int n, .int what, .null, .null, .null] [] μ _
  have fin0 : ∀ v, MT m μ (v, s) (some (.int v)) (mu μ m (upd (μ m) 0 (nI 0))) := fun v => mt_ro g0 rfl (RO.refl _ _) rfl R0 J
  have fin2 : ∀ v μ', TH (mu (mu μ m (upd (μ m) 0 (nI 0))) (m + 2) (cpR ((mu μ m (upd (μ m) 0 (nI 0))) (m + 1)) ((mu μ m (upd (μ m) 0 (nI 0))) (m + 2)) 0 0 1786)) μ' m → MT m μ (v, s) (some (.int v)) μ' := fun v μ' T => T.mt g0 R J
  unfold a_reach
  cases ex : ceO s.1 x with
  | none =>
    have E1 : ∀ Q', cl sh zX6_isCell [.ref m, .int x] (mu μ m (upd (μ m) 0 (nI 0))) Q' = Q' (some (.int (nI 0))) (mu μ m (upd (μ m) 0 (nI 0))) := fun Q' => m_isCellN O A J.sdb ex
    have fin := fin0 (-1)
    dsimp only
    generalize MT m μ ((-1 : Int32), s) = QQ at fin ⊢
    simp (disch := first | omega | assumption) only [mm_op_some, true_and, and_true, mm_rc_some, mm_rc_none, pk_mul, nI_add, mm_in_t, nI_clamp, ok0, ok1, ok2, ok3, ok4, n1_0, n0_0, nI_le_, nI_lt_, if_true, if_false, not_true, not_false_eq_true, ce_lt, ce_cl, hf_lt, hf_cl, n0_zz, wp_al0 (y := zX6_reach) dX6_reach_0, wp_iconst (y := zX6_reach) (nI 0) ki_0 dX6_reach_1, wp_putf (y := zX6_reach) kF6_44 rfl dX6_reach_2, wp_al0 (y := zX6_reach) dX6_reach_5, wp_il1 (y := zX6_reach) dX6_reach_6, wp_cv1 (y := zX6_reach) kM6_93 (by decide) dX6_reach_7, (show yo zX6_isCell = 6 from rfl), wp_if_eq (y := zX6_reach) 23 (by decide) dX6_reach_10, wp_iconst (y := zX6_reach) ((-1)) ki_m1 dX6_reach_23, wp_ireti (y := zX6_reach) rfl dX6_reach_24, O.oc, O.g0, O.g1, O.g2, O.g3, O.g4, O.g5, O.g6, O.g7, O.g9, O.g10, O.g11, O.p0, O.p7, O.a1, O.a2, O.a3, O.a4, O.a5, O.a6, O.a7, O.a8, O.a9, E1]
    exact fin
  | some c =>
    obtain ⟨rfl, hc⟩ := ceO_some ex
    have E1 : ∀ Q', cl sh zX6_isCell [.ref m, .int (nI c.val)] (mu μ m (upd (μ m) 0 (nI 0))) Q' = Q' (some (.int (nI 1))) (mu μ m (upd (μ m) 0 (nI 0))) := fun Q' => m_isCellS O A J.sdb hc
    dsimp only
    by_cases hw : what < 0 ∨ nI 1 < what
    · rw [if_pos hw]
      have i0 : mm_isin what.toInt64 0 1 = nI 0 := isin_an (lo := 0) (hi := nI 1) rfl rfl hw
      have fin := fin0 (-1)
      generalize MT m μ ((-1 : Int32), s) = QQ at fin ⊢
      simp (disch := first | omega | assumption) only [mm_op_some, true_and, and_true, mm_rc_some, mm_rc_none, pk_mul, nI_add, mm_in_t, nI_clamp, ok0, ok1, ok2, ok3, ok4, n1_0, n0_0, nI_le_, nI_lt_, if_true, if_false, not_true, not_false_eq_true, ce_lt, ce_cl, hf_lt, hf_cl, n0_zz, n1_zz, wp_al0 (y := zX6_reach) dX6_reach_0, wp_iconst (y := zX6_reach) (nI 0) ki_0 dX6_reach_1, wp_putf (y := zX6_reach) kF6_44 rfl dX6_reach_2, wp_al0 (y := zX6_reach) dX6_reach_5, wp_il1 (y := zX6_reach) dX6_reach_6, wp_cv1 (y := zX6_reach) kM6_93 (by decide) dX6_reach_7, (show yo zX6_isCell = 6 from rfl), wp_if_eq (y := zX6_reach) 23 (by decide) dX6_reach_10, wp_il3 (y := zX6_reach) dX6_reach_13, wp_i2l (y := zX6_reach) dX6_reach_14, wp_lconst (y := zX6_reach) (0) kl_0 dX6_reach_15, wp_lconst (y := zX6_reach) (1) kl_1 dX6_reach_16, wp_in (y := zX6_reach) rfl kP6_48 (by decide) dX6_reach_17, wp_if_ne (y := zX6_reach) 25 (by decide) dX6_reach_20, wp_iconst (y := zX6_reach) ((-1)) ki_m1 dX6_reach_23, wp_ireti (y := zX6_reach) rfl dX6_reach_24, O.oc, O.g0, O.g1, O.g2, O.g3, O.g4, O.g5, O.g6, O.g7, O.g9, O.g10, O.g11, O.p0, O.p7, O.a1, O.a2, O.a3, O.a4, O.a5, O.a6, O.a7, O.a8, O.a9, E1, i0]
      exact fin
    · rw [if_neg hw]
      have i0 : mm_isin what.toInt64 0 1 = nI 1 := isin_ab (lo := 0) (hi := nI 1) rfl rfl (fun q => hw (Or.inl q)) (fun q => hw (Or.inr q))
      have ES : ∀ Q', cl sh zX6_sidesOf [.ref m, .int (nI c.val)] (mu μ m (upd (μ m) 0 (nI 0))) Q' = Q' (some (.int (nI (sd s.1 c)))) (mu μ m (upd (μ m) 0 (nI 0))) := fun Q' => m_sidesOf O A c
      by_cases hn : nI (sd s.1 c) = n
      · have hn' := eq_true hn
        rw [if_pos hn]
        by_cases w0 : what = 0
        · have w0' := eq_true w0
          rw [if_pos w0]
          have fin := fin0 (nI 0)
          generalize MT m μ (nI 0, s) = QQ at fin ⊢
          simp (disch := first | omega | assumption) only [mm_op_some, true_and, and_true, mm_rc_some, mm_rc_none, pk_mul, nI_add, mm_in_t, nI_clamp, ok0, ok1, ok2, ok3, ok4, n1_0, n0_0, nI_le_, nI_lt_, if_true, if_false, not_true, not_false_eq_true, ce_lt, ce_cl, hf_lt, hf_cl, n0_zz, n1_zz, wp_al0 (y := zX6_reach) dX6_reach_0, wp_iconst (y := zX6_reach) (nI 0) ki_0 dX6_reach_1, wp_putf (y := zX6_reach) kF6_44 rfl dX6_reach_2, wp_al0 (y := zX6_reach) dX6_reach_5, wp_il1 (y := zX6_reach) dX6_reach_6, wp_cv1 (y := zX6_reach) kM6_93 (by decide) dX6_reach_7, (show yo zX6_isCell = 6 from rfl), wp_if_eq (y := zX6_reach) 23 (by decide) dX6_reach_10, wp_il3 (y := zX6_reach) dX6_reach_13, wp_i2l (y := zX6_reach) dX6_reach_14, wp_lconst (y := zX6_reach) (0) kl_0 dX6_reach_15, wp_lconst (y := zX6_reach) (1) kl_1 dX6_reach_16, wp_in (y := zX6_reach) rfl kP6_48 (by decide) dX6_reach_17, wp_if_ne (y := zX6_reach) 25 (by decide) dX6_reach_20, wp_al0 (y := zX6_reach) dX6_reach_25, wp_il1 (y := zX6_reach) dX6_reach_26, wp_cv1 (y := zX6_reach) kM6_115 (by decide) dX6_reach_27, (show yo zX6_sidesOf = 6 from rfl), wp_il2 (y := zX6_reach) dX6_reach_30, wp_icmp_ne (y := zX6_reach) 44 (by decide) dX6_reach_31, wp_il3 (y := zX6_reach) dX6_reach_34, wp_if_ne (y := zX6_reach) 42 (by decide) dX6_reach_35, wp_iconst (y := zX6_reach) (nI 0) ki_0 dX6_reach_38, wp_goto (y := zX6_reach) 43 (by decide) dX6_reach_39, wp_ireti (y := zX6_reach) rfl dX6_reach_43, O.oc, O.g0, O.g1, O.g2, O.g3, O.g4, O.g5, O.g6, O.g7, O.g9, O.g10, O.g11, O.p0, O.p7, O.a1, O.a2, O.a3, O.a4, O.a5, O.a6, O.a7, O.a8, O.a9, E1, i0, ES, hn', w0']
          exact fin
        · have w0' := eq_false w0
          rw [if_neg w0]
          have fin := fin0 (-1)
          generalize MT m μ ((-1 : Int32), s) = QQ at fin ⊢
          simp (disch := first | omega | assumption) only [mm_op_some, true_and, and_true, mm_rc_some, mm_rc_none, pk_mul, nI_add, mm_in_t, nI_clamp, ok0, ok1, ok2, ok3, ok4, n1_0, n0_0, nI_le_, nI_lt_, if_true, if_false, not_true, not_false_eq_true, ce_lt, ce_cl, hf_lt, hf_cl, n0_zz, n1_zz, wp_al0 (y := zX6_reach) dX6_reach_0, wp_iconst (y := zX6_reach) (nI 0) ki_0 dX6_reach_1, wp_putf (y := zX6_reach) kF6_44 rfl dX6_reach_2, wp_al0 (y := zX6_reach) dX6_reach_5, wp_il1 (y := zX6_reach) dX6_reach_6, wp_cv1 (y := zX6_reach) kM6_93 (by decide) dX6_reach_7, (show yo zX6_isCell = 6 from rfl), wp_if_eq (y := zX6_reach) 23 (by decide) dX6_reach_10, wp_il3 (y := zX6_reach) dX6_reach_13, wp_i2l (y := zX6_reach) dX6_reach_14, wp_lconst (y := zX6_reach) (0) kl_0 dX6_reach_15, wp_lconst (y := zX6_reach) (1) kl_1 dX6_reach_16, wp_in (y := zX6_reach) rfl kP6_48 (by decide) dX6_reach_17, wp_if_ne (y := zX6_reach) 25 (by decide) dX6_reach_20, wp_al0 (y := zX6_reach) dX6_reach_25, wp_il1 (y := zX6_reach) dX6_reach_26, wp_cv1 (y := zX6_reach) kM6_115 (by decide) dX6_reach_27, (show yo zX6_sidesOf = 6 from rfl), wp_il2 (y := zX6_reach) dX6_reach_30, wp_icmp_ne (y := zX6_reach) 44 (by decide) dX6_reach_31, wp_il3 (y := zX6_reach) dX6_reach_34, wp_if_ne (y := zX6_reach) 42 (by decide) dX6_reach_35, wp_iconst (y := zX6_reach) ((-1)) ki_m1 dX6_reach_42, wp_ireti (y := zX6_reach) rfl dX6_reach_43, O.oc, O.g0, O.g1, O.g2, O.g3, O.g4, O.g5, O.g6, O.g7, O.g9, O.g10, O.g11, O.p0, O.p7, O.a1, O.a2, O.a3, O.a4, O.a5, O.a6, O.a7, O.a8, O.a9, E1, i0, ES, hn', w0']
          exact fin
      · have hn' := eq_false hn
        rw [if_neg hn]
        have EB : ∀ Q', cl sh zX6_bringsTo [.ref m, .int (nI c.val), .int n] (mu μ m (upd (μ m) 0 (nI 0))) Q' = Q' (some (.int (fo (fd (swp s.1 c n) 144 0)))) (mu μ m (upd (μ m) 0 (nI 0))) := fun Q' => m_bringsTo O A J c n
        cases e1 : fd (swp s.1 c n) 144 0 with
        | some w =>
          have wb : w < 144 := by have := (fd_some e1).2.2.1; omega
          rw [e1] at EB
          have EB : ∀ Q', cl sh zX6_bringsTo [.ref m, .int (nI c.val), .int n] (mu μ m (upd (μ m) 0 (nI 0))) Q' = Q' (some (.int (nI w))) (mu μ m (upd (μ m) 0 (nI 0))) := EB
          have m1 : (nI w = (-1 : Int32)) = False := nI_m1 (by omega)
          dsimp only
          by_cases w0 : what = 0
          · have w0' := eq_true w0
            rw [if_pos w0]
            have fin := fin0 (nI 1)
            generalize MT m μ (nI 1, s) = QQ at fin ⊢
            simp (disch := first | omega | assumption) only [mm_op_some, true_and, and_true, mm_rc_some, mm_rc_none, pk_mul, nI_add, mm_in_t, nI_clamp, ok0, ok1, ok2, ok3, ok4, n1_0, n0_0, nI_le_, nI_lt_, if_true, if_false, not_true, not_false_eq_true, ce_lt, ce_cl, hf_lt, hf_cl, n0_zz, n1_zz, wp_al0 (y := zX6_reach) dX6_reach_0, wp_iconst (y := zX6_reach) (nI 0) ki_0 dX6_reach_1, wp_putf (y := zX6_reach) kF6_44 rfl dX6_reach_2, wp_al0 (y := zX6_reach) dX6_reach_5, wp_il1 (y := zX6_reach) dX6_reach_6, wp_cv1 (y := zX6_reach) kM6_93 (by decide) dX6_reach_7, (show yo zX6_isCell = 6 from rfl), wp_if_eq (y := zX6_reach) 23 (by decide) dX6_reach_10, wp_il3 (y := zX6_reach) dX6_reach_13, wp_i2l (y := zX6_reach) dX6_reach_14, wp_lconst (y := zX6_reach) (0) kl_0 dX6_reach_15, wp_lconst (y := zX6_reach) (1) kl_1 dX6_reach_16, wp_in (y := zX6_reach) rfl kP6_48 (by decide) dX6_reach_17, wp_if_ne (y := zX6_reach) 25 (by decide) dX6_reach_20, wp_al0 (y := zX6_reach) dX6_reach_25, wp_il1 (y := zX6_reach) dX6_reach_26, wp_cv1 (y := zX6_reach) kM6_115 (by decide) dX6_reach_27, (show yo zX6_sidesOf = 6 from rfl), wp_il2 (y := zX6_reach) dX6_reach_30, wp_icmp_ne (y := zX6_reach) 44 (by decide) dX6_reach_31, wp_al0 (y := zX6_reach) dX6_reach_44, wp_il1 (y := zX6_reach) dX6_reach_45, wp_il2 (y := zX6_reach) dX6_reach_46, wp_cv2 (y := zX6_reach) kM6_307 (by decide) dX6_reach_47, (show yo zX6_bringsTo = 6 from rfl), wp_is4 (y := zX6_reach) dX6_reach_50, wp_il4 (y := zX6_reach) dX6_reach_52, wp_iconst (y := zX6_reach) ((-1)) ki_m1 dX6_reach_54, wp_icmp_eq (y := zX6_reach) 69 (by decide) dX6_reach_55, wp_il3 (y := zX6_reach) dX6_reach_58, wp_if_ne (y := zX6_reach) 66 (by decide) dX6_reach_59, wp_iconst (y := zX6_reach) (nI 1) ki_1 dX6_reach_62, wp_goto (y := zX6_reach) 68 (by decide) dX6_reach_63, wp_ireti (y := zX6_reach) rfl dX6_reach_68, O.oc, O.g0, O.g1, O.g2, O.g3, O.g4, O.g5, O.g6, O.g7, O.g9, O.g10, O.g11, O.p0, O.p7, O.a1, O.a2, O.a3, O.a4, O.a5, O.a6, O.a7, O.a8, O.a9, E1, i0, ES, EB, hn', w0', m1]
            exact fin
          · have w0' := eq_false w0
            rw [if_neg w0]
            have fin := fin0 (nI w)
            generalize MT m μ (nI w, s) = QQ at fin ⊢
            simp (disch := first | omega | assumption) only [mm_op_some, true_and, and_true, mm_rc_some, mm_rc_none, pk_mul, nI_add, mm_in_t, nI_clamp, ok0, ok1, ok2, ok3, ok4, n1_0, n0_0, nI_le_, nI_lt_, if_true, if_false, not_true, not_false_eq_true, ce_lt, ce_cl, hf_lt, hf_cl, n0_zz, n1_zz, wp_al0 (y := zX6_reach) dX6_reach_0, wp_iconst (y := zX6_reach) (nI 0) ki_0 dX6_reach_1, wp_putf (y := zX6_reach) kF6_44 rfl dX6_reach_2, wp_al0 (y := zX6_reach) dX6_reach_5, wp_il1 (y := zX6_reach) dX6_reach_6, wp_cv1 (y := zX6_reach) kM6_93 (by decide) dX6_reach_7, (show yo zX6_isCell = 6 from rfl), wp_if_eq (y := zX6_reach) 23 (by decide) dX6_reach_10, wp_il3 (y := zX6_reach) dX6_reach_13, wp_i2l (y := zX6_reach) dX6_reach_14, wp_lconst (y := zX6_reach) (0) kl_0 dX6_reach_15, wp_lconst (y := zX6_reach) (1) kl_1 dX6_reach_16, wp_in (y := zX6_reach) rfl kP6_48 (by decide) dX6_reach_17, wp_if_ne (y := zX6_reach) 25 (by decide) dX6_reach_20, wp_al0 (y := zX6_reach) dX6_reach_25, wp_il1 (y := zX6_reach) dX6_reach_26, wp_cv1 (y := zX6_reach) kM6_115 (by decide) dX6_reach_27, (show yo zX6_sidesOf = 6 from rfl), wp_il2 (y := zX6_reach) dX6_reach_30, wp_icmp_ne (y := zX6_reach) 44 (by decide) dX6_reach_31, wp_al0 (y := zX6_reach) dX6_reach_44, wp_il1 (y := zX6_reach) dX6_reach_45, wp_il2 (y := zX6_reach) dX6_reach_46, wp_cv2 (y := zX6_reach) kM6_307 (by decide) dX6_reach_47, (show yo zX6_bringsTo = 6 from rfl), wp_is4 (y := zX6_reach) dX6_reach_50, wp_il4 (y := zX6_reach) dX6_reach_52, wp_iconst (y := zX6_reach) ((-1)) ki_m1 dX6_reach_54, wp_icmp_eq (y := zX6_reach) 69 (by decide) dX6_reach_55, wp_il3 (y := zX6_reach) dX6_reach_58, wp_if_ne (y := zX6_reach) 66 (by decide) dX6_reach_59, wp_il4 (y := zX6_reach) dX6_reach_66, wp_ireti (y := zX6_reach) rfl dX6_reach_68, O.oc, O.g0, O.g1, O.g2, O.g3, O.g4, O.g5, O.g6, O.g7, O.g9, O.g10, O.g11, O.p0, O.p7, O.a1, O.a2, O.a3, O.a4, O.a5, O.a6, O.a7, O.a8, O.a9, E1, i0, ES, EB, hn', w0', m1]
            exact fin
        | none =>
          rw [e1] at EB
          have EB : ∀ Q', cl sh zX6_bringsTo [.ref m, .int (nI c.val), .int n] (mu μ m (upd (μ m) 0 (nI 0))) Q' = Q' (some (.int (-1))) (mu μ m (upd (μ m) 0 (nI 0))) := EB
          have mm : ((-1 : Int32) = -1) = True := eq_true rfl
          have ET : ∀ Q', cl sh zX6_think [.ref m] (mu μ m (upd (μ m) 0 (nI 0))) Q' = Q' none (mu (mu μ m (upd (μ m) 0 (nI 0))) (m + 2) (cpR ((mu μ m (upd (μ m) 0 (nI 0))) (m + 1)) ((mu μ m (upd (μ m) 0 (nI 0))) (m + 2)) 0 0 1786)) := fun Q' => m_think O
          have te : fd (twP s.1 c n) 144 0 = fd (twQ s.1 c n) 144 0 := fd_congr 144 0 (fun k _ _ => tw_eq J c n k)
          dsimp only
          rw [te]
          generalize hq : MT m μ _ = QQ
          have as := asd μ m
          have R2 := th_of R0
          have t0 : TH (mu (mu μ m (upd (μ m) 0 (nI 0))) (m + 2) (cpR ((mu μ m (upd (μ m) 0 (nI 0))) (m + 1)) ((mu μ m (upd (μ m) 0 (nI 0))) (m + 2)) 0 0 1786)) (mu (mu μ m (upd (μ m) 0 (nI 0))) (m + 2) (cpR ((mu μ m (upd (μ m) 0 (nI 0))) (m + 1)) ((mu μ m (upd (μ m) 0 (nI 0))) (m + 2)) 0 0 1786)) m := ⟨fun _ _ => rfl, fun _ _ => rfl⟩
          simp (disch := first | omega | assumption) only [mm_op_some, true_and, and_true, mm_rc_some, mm_rc_none, pk_mul, nI_add, mm_in_t, nI_clamp, ok0, ok1, ok2, ok3, ok4, n1_0, n0_0, nI_le_, nI_lt_, if_true, if_false, not_true, not_false_eq_true, ce_lt, ce_cl, hf_lt, hf_cl, n0_zz, n1_zz, wp_al0 (y := zX6_reach) dX6_reach_0, wp_iconst (y := zX6_reach) (nI 0) ki_0 dX6_reach_1, wp_putf (y := zX6_reach) kF6_44 rfl dX6_reach_2, wp_al0 (y := zX6_reach) dX6_reach_5, wp_il1 (y := zX6_reach) dX6_reach_6, wp_cv1 (y := zX6_reach) kM6_93 (by decide) dX6_reach_7, (show yo zX6_isCell = 6 from rfl), wp_if_eq (y := zX6_reach) 23 (by decide) dX6_reach_10, wp_il3 (y := zX6_reach) dX6_reach_13, wp_i2l (y := zX6_reach) dX6_reach_14, wp_lconst (y := zX6_reach) (0) kl_0 dX6_reach_15, wp_lconst (y := zX6_reach) (1) kl_1 dX6_reach_16, wp_in (y := zX6_reach) rfl kP6_48 (by decide) dX6_reach_17, wp_if_ne (y := zX6_reach) 25 (by decide) dX6_reach_20, wp_al0 (y := zX6_reach) dX6_reach_25, wp_il1 (y := zX6_reach) dX6_reach_26, wp_cv1 (y := zX6_reach) kM6_115 (by decide) dX6_reach_27, (show yo zX6_sidesOf = 6 from rfl), wp_il2 (y := zX6_reach) dX6_reach_30, wp_icmp_ne (y := zX6_reach) 44 (by decide) dX6_reach_31, wp_al0 (y := zX6_reach) dX6_reach_44, wp_il1 (y := zX6_reach) dX6_reach_45, wp_il2 (y := zX6_reach) dX6_reach_46, wp_cv2 (y := zX6_reach) kM6_307 (by decide) dX6_reach_47, (show yo zX6_bringsTo = 6 from rfl), wp_is4 (y := zX6_reach) dX6_reach_50, wp_il4 (y := zX6_reach) dX6_reach_52, wp_iconst (y := zX6_reach) ((-1)) ki_m1 dX6_reach_54, wp_icmp_eq (y := zX6_reach) 69 (by decide) dX6_reach_55, wp_al0 (y := zX6_reach) dX6_reach_69, wp_cv0 (y := zX6_reach) kM6_301 (by decide) dX6_reach_70, (show yo zX6_think = 6 from rfl), wp_iconst (y := zX6_reach) ((-1)) ki_m1 dX6_reach_73, wp_is5 (y := zX6_reach) dX6_reach_74, wp_iconst (y := zX6_reach) (nI 0) ki_0 dX6_reach_76, wp_is6 (y := zX6_reach) dX6_reach_77, O.oc, O.g0, O.g1, O.g2, O.g3, O.g4, O.g5, O.g6, O.g7, O.g9, O.g10, O.g11, O.p0, O.p7, O.a1, O.a2, O.a3, O.a4, O.a5, O.a6, O.a7, O.a8, O.a9, E1, i0, ES, EB, hn', mm, ET]
          generalize hU : (mu (mu μ m (upd (μ m) 0 (nI 0))) (m + 2) (cpR ((mu μ m (upd (μ m) 0 (nI 0))) (m + 1)) ((mu μ m (upd (μ m) 0 (nI 0))) (m + 2)) 0 0 1786)) = V at as R2 fin2 t0 ⊢
          have ends : ∀ v6 μ1, TH V μ1 m → wp sh zX6_reach 145 [.ref m, .int (nI c.val), .int n, .int what, .int (-1), .int (fo (fd (twQ s.1 c n) 144 0)), v6] [] μ1 QQ := fun v6 μ1 T => by
            cases e2 : fd (twQ s.1 c n) 144 0 with
            | none =>
              rw [e2] at hq
              dsimp only at hq
              have fin := fin2 (-1)
              rw [hq] at fin
              show wp sh zX6_reach 145 [.ref m, .int (nI c.val), .int n, .int what, .int (-1), .int (-1), v6] [] μ1 QQ
              simp (disch := first | omega | assumption) only [mm_op_some, true_and, and_true, mm_rc_some, mm_rc_none, pk_mul, nI_add, mm_in_t, nI_clamp, ok0, ok1, ok2, ok3, ok4, n1_0, n0_0, nI_le_, nI_lt_, if_true, if_false, not_true, not_false_eq_true, ce_lt, ce_cl, hf_lt, hf_cl, n0_zz, n1_zz, wp_il5 (y := zX6_reach) dX6_reach_145, wp_iconst (y := zX6_reach) ((-1)) ki_m1 dX6_reach_147, wp_icmp_ne (y := zX6_reach) 155 (by decide) dX6_reach_148, wp_iconst (y := zX6_reach) ((-1)) ki_m1 dX6_reach_151, wp_goto (y := zX6_reach) 165 (by decide) dX6_reach_152, wp_ireti (y := zX6_reach) rfl dX6_reach_165, mm]
              exact fin _ T
            | some w =>
              have wb : w < 144 := by have := (fd_some e2).2.2.1; omega
              have m1 : (nI w = (-1 : Int32)) = False := nI_m1 (by omega)
              rw [e2] at hq
              dsimp only at hq
              show wp sh zX6_reach 145 [.ref m, .int (nI c.val), .int n, .int what, .int (-1), .int (nI w), v6] [] μ1 QQ
              by_cases w0 : what = 0
              · have w0' := eq_true w0
                rw [if_pos w0] at hq
                have fin := fin2 (nI 2)
                rw [hq] at fin
                simp (disch := first | omega | assumption) only [mm_op_some, true_and, and_true, mm_rc_some, mm_rc_none, pk_mul, nI_add, mm_in_t, nI_clamp, ok0, ok1, ok2, ok3, ok4, n1_0, n0_0, nI_le_, nI_lt_, if_true, if_false, not_true, not_false_eq_true, ce_lt, ce_cl, hf_lt, hf_cl, n0_zz, n1_zz, wp_il5 (y := zX6_reach) dX6_reach_145, wp_iconst (y := zX6_reach) ((-1)) ki_m1 dX6_reach_147, wp_icmp_ne (y := zX6_reach) 155 (by decide) dX6_reach_148, wp_il3 (y := zX6_reach) dX6_reach_155, wp_if_ne (y := zX6_reach) 163 (by decide) dX6_reach_156, wp_iconst (y := zX6_reach) (nI 2) ki_2 dX6_reach_159, wp_goto (y := zX6_reach) 165 (by decide) dX6_reach_160, wp_ireti (y := zX6_reach) rfl dX6_reach_165, m1, w0']
                exact fin _ T
              · have w0' := eq_false w0
                rw [if_neg w0] at hq
                have fin := fin2 (nI w)
                rw [hq] at fin
                simp (disch := first | omega | assumption) only [mm_op_some, true_and, and_true, mm_rc_some, mm_rc_none, pk_mul, nI_add, mm_in_t, nI_clamp, ok0, ok1, ok2, ok3, ok4, n1_0, n0_0, nI_le_, nI_lt_, if_true, if_false, not_true, not_false_eq_true, ce_lt, ce_cl, hf_lt, hf_cl, n0_zz, n1_zz, wp_il5 (y := zX6_reach) dX6_reach_145, wp_iconst (y := zX6_reach) ((-1)) ki_m1 dX6_reach_147, wp_icmp_ne (y := zX6_reach) 155 (by decide) dX6_reach_148, wp_il3 (y := zX6_reach) dX6_reach_155, wp_if_ne (y := zX6_reach) 163 (by decide) dX6_reach_156, wp_il5 (y := zX6_reach) dX6_reach_163, wp_ireti (y := zX6_reach) rfl dX6_reach_165, m1, w0']
                exact fin _ T
          have key : ∀ d i (μ1 : mm_U), i + d = 144 → TH V μ1 m → fd (twQ s.1 c n) 144 0 = fd (twQ s.1 c n) d i → wp sh zX6_reach 79 [.ref m, .int (nI c.val), .int n, .int what, .int (-1), .int (-1), .int (nI i)] [] μ1 QQ := by
            intro d
            induction d with
            | zero =>
              intro i μ1 hi T ee
              have e : i = 144 := by omega
              subst e
              have en := ends (.int (nI 144)) μ1 T
              rw [ee] at en
              rw [wp_il6 (y := zX6_reach) dX6_reach_79]
              simp (disch := first | omega | assumption) only [mm_op_some, true_and, and_true, mm_rc_some, mm_rc_none, pk_mul, nI_add, mm_in_t, nI_clamp, ok0, ok1, ok2, ok3, ok4, n1_0, n0_0, nI_le_, nI_lt_, if_true, if_false, not_true, not_false_eq_true, ce_lt, ce_cl, hf_lt, hf_cl, n0_zz, n1_zz, wp_sipush (y := zX6_reach) (nI 144) ks_144 dX6_reach_81, wp_icmp_ge (y := zX6_reach) 145 (by decide) dX6_reach_84, Nat.le_refl]
              exact en
            | succ d ih =>
              intro i μ1 hi T ee
              have hi' : i < 144 := by omega
              have h9 : (144 ≤ i) = False := eq_false (by omega)
              have iv := wI_lt hi'
              have A1 := (T.rep R2).1
              have EC : ∀ Q', cl sh zX6_canSwap [.ref m, .int (nI i)] μ1 Q' = Q' (some (.int (bI (lv s.1 (wI i) && can s.1 (wI i))))) μ1 := fun Q' => m_canSwap O A1 J hi'
              have q0 : twQ s.1 c n i = (lv s.1 (wI i) && (can s.1 (wI i) && (fd (swp (flM s.1 (wI i)) c n) 144 0).isSome)) := rfl
              rw [wp_il6 (y := zX6_reach) dX6_reach_79]
              by_cases hh : lv s.1 (wI i) = true ∧ can s.1 (wI i) = true
              · obtain ⟨hl, hc⟩ := hh
                rw [hl, hc, Bool.true_and, bI_t] at EC
                rw [hl, hc, Bool.true_and, Bool.true_and] at q0
                have TW := m_turnWall O A1 J (wI i) hl hc
                rw [iv] at TW
                simp (disch := first | omega | assumption) only [mm_op_some, true_and, and_true, mm_rc_some, mm_rc_none, pk_mul, nI_add, mm_in_t, nI_clamp, ok0, ok1, ok2, ok3, ok4, n1_0, n0_0, nI_le_, nI_lt_, if_true, if_false, not_true, not_false_eq_true, ce_lt, ce_cl, hf_lt, hf_cl, n0_zz, n1_zz, wp_sipush (y := zX6_reach) (nI 144) ks_144 dX6_reach_81, wp_icmp_ge (y := zX6_reach) 145 (by decide) dX6_reach_84, wp_il5 (y := zX6_reach) dX6_reach_87, wp_iconst (y := zX6_reach) ((-1)) ki_m1 dX6_reach_89, wp_icmp_ne (y := zX6_reach) 145 (by decide) dX6_reach_90, wp_al0 (y := zX6_reach) dX6_reach_93, wp_il6 (y := zX6_reach) dX6_reach_94, wp_cv1 (y := zX6_reach) kM6_147 (by decide) dX6_reach_96, (show yo zX6_canSwap = 6 from rfl), wp_if_eq (y := zX6_reach) 139 (by decide) dX6_reach_99, wp_al0 (y := zX6_reach) dX6_reach_102, wp_il6 (y := zX6_reach) dX6_reach_103, wp_cv1 (y := zX6_reach) kM6_135 (by decide) dX6_reach_105, (show yo zX6_turnWall = 6 from rfl), O.oc, O.g0, O.g1, O.g2, O.g3, O.g4, O.g5, O.g6, O.g7, O.g9, O.g10, O.g11, O.p0, O.p7, O.a1, O.a2, O.a3, O.a4, O.a5, O.a6, O.a7, O.a8, O.a9, h9, mm, EC]
                refine cl_mono TW ?_
                rintro r μ2 ⟨rfl, A2, F2⟩
                have EB2 : ∀ Q', cl sh zX6_bringsTo [.ref m, .int (nI c.val), .int n] μ2 Q' = Q' (some (.int (fo (fd (swp (flM s.1 (wI i)) c n) 144 0)))) μ2 := fun Q' => m_bringsTo O A2 (J.fl hl hc) c n
                have EP : ∀ Q', cl sh zX6_copy [.ref (m + 2), .int (nI 0), .ref (m + 1), .int (nI 0)] μ2 Q' = Q' none (mu μ2 (m + 1) (cpR (μ2 (m + 2)) (μ2 (m + 1)) 0 0 1786)) := fun Q' => m_copy O.a2 O.a1 (by omega) (by omega) (by omega) (by omega) (by omega)
                have T3 := TH.back (μ0 := V) (m := m) as (fun a ha => (F2.1 a ha).trans (T.1 a ha))
                cases e2 : fd (swp (flM s.1 (wI i)) c n) 144 0 with
                | none =>
                  rw [e2] at EB2 q0
                  have EB2 : ∀ Q', cl sh zX6_bringsTo [.ref m, .int (nI c.val), .int n] μ2 Q' = Q' (some (.int (-1))) μ2 := EB2
                  have q0 : twQ s.1 c n i = false := q0
                  simp (disch := first | omega | assumption) only [mm_op_some, true_and, and_true, mm_rc_some, mm_rc_none, pk_mul, nI_add, mm_in_t, nI_clamp, ok0, ok1, ok2, ok3, ok4, n1_0, n0_0, nI_le_, nI_lt_, if_true, if_false, not_true, not_false_eq_true, ce_lt, ce_cl, hf_lt, hf_cl, n0_zz, n1_zz, wp_al0 (y := zX6_reach) dX6_reach_108, wp_il1 (y := zX6_reach) dX6_reach_109, wp_il2 (y := zX6_reach) dX6_reach_110, wp_cv2 (y := zX6_reach) kM6_307 (by decide) dX6_reach_111, (show yo zX6_bringsTo = 6 from rfl), wp_iconst (y := zX6_reach) ((-1)) ki_m1 dX6_reach_114, wp_icmp_eq (y := zX6_reach) 123 (by decide) dX6_reach_115, wp_iconst (y := zX6_reach) ((-1)) ki_m1 dX6_reach_123, wp_is5 (y := zX6_reach) dX6_reach_124, wp_al0 (y := zX6_reach) dX6_reach_126, wp_getf (y := zX6_reach) kF6_15 dX6_reach_127, wp_iconst (y := zX6_reach) (nI 0) ki_0 dX6_reach_130, wp_al0 (y := zX6_reach) dX6_reach_131, wp_getf (y := zX6_reach) kF6_9 dX6_reach_132, wp_iconst (y := zX6_reach) (nI 0) ki_0 dX6_reach_135, wp_cs_riri (y := zX6_reach) kM6_52 (by decide) dX6_reach_136, wp_inc6 (y := zX6_reach) (nI 1) ki_1 dX6_reach_139, wp_goto (y := zX6_reach) 79 (by decide) dX6_reach_142, O.oc, O.g0, O.g1, O.g2, O.g3, O.g4, O.g5, O.g6, O.g7, O.g9, O.g10, O.g11, O.p0, O.p7, O.a1, O.a2, O.a3, O.a4, O.a5, O.a6, O.a7, O.a8, O.a9, EB2, EP, mm]
                  exact ih (i + 1) _ (by omega) T3 (ee.trans (if_neg (fun z => by rw [q0] at z; cases z)))
                | some w =>
                  have wb : w < 144 := by have := (fd_some e2).2.2.1; omega
                  have m1 : (nI w = (-1 : Int32)) = False := nI_m1 (by omega)
                  rw [e2] at EB2 q0
                  have EB2 : ∀ Q', cl sh zX6_bringsTo [.ref m, .int (nI c.val), .int n] μ2 Q' = Q' (some (.int (nI w))) μ2 := EB2
                  have q0 : twQ s.1 c n i = true := q0
                  have ef : fd (twQ s.1 c n) 144 0 = some i := ee.trans (if_pos q0)
                  have en := ends (.int (nI (i + 1))) _ T3
                  rw [ef] at en
                  have en : wp sh zX6_reach 145 [.ref m, .int (nI c.val), .int n, .int what, .int (-1), .int (nI i), .int (nI (i + 1))] [] (mu μ2 (m + 1) (cpR (μ2 (m + 2)) (μ2 (m + 1)) 0 0 1786)) QQ := en
                  have m2 : (nI i = (-1 : Int32)) = False := nI_m1 (by omega)
                  simp (disch := first | omega | assumption) only [mm_op_some, true_and, and_true, mm_rc_some, mm_rc_none, pk_mul, nI_add, mm_in_t, nI_clamp, ok0, ok1, ok2, ok3, ok4, n1_0, n0_0, nI_le_, nI_lt_, if_true, if_false, not_true, not_false_eq_true, ce_lt, ce_cl, hf_lt, hf_cl, n0_zz, n1_zz, wp_al0 (y := zX6_reach) dX6_reach_108, wp_il1 (y := zX6_reach) dX6_reach_109, wp_il2 (y := zX6_reach) dX6_reach_110, wp_cv2 (y := zX6_reach) kM6_307 (by decide) dX6_reach_111, (show yo zX6_bringsTo = 6 from rfl), wp_iconst (y := zX6_reach) ((-1)) ki_m1 dX6_reach_114, wp_icmp_eq (y := zX6_reach) 123 (by decide) dX6_reach_115, wp_il6 (y := zX6_reach) dX6_reach_118, wp_goto (y := zX6_reach) 124 (by decide) dX6_reach_120, wp_is5 (y := zX6_reach) dX6_reach_124, wp_al0 (y := zX6_reach) dX6_reach_126, wp_getf (y := zX6_reach) kF6_15 dX6_reach_127, wp_iconst (y := zX6_reach) (nI 0) ki_0 dX6_reach_130, wp_al0 (y := zX6_reach) dX6_reach_131, wp_getf (y := zX6_reach) kF6_9 dX6_reach_132, wp_iconst (y := zX6_reach) (nI 0) ki_0 dX6_reach_135, wp_cs_riri (y := zX6_reach) kM6_52 (by decide) dX6_reach_136, wp_inc6 (y := zX6_reach) (nI 1) ki_1 dX6_reach_139, wp_goto (y := zX6_reach) 79 (by decide) dX6_reach_142, O.oc, O.g0, O.g1, O.g2, O.g3, O.g4, O.g5, O.g6, O.g7, O.g9, O.g10, O.g11, O.p0, O.p7, O.a1, O.a2, O.a3, O.a4, O.a5, O.a6, O.a7, O.a8, O.a9, EB2, EP, m1]
                  rw [wp_il6 (y := zX6_reach) dX6_reach_79]
                  by_cases q : 144 ≤ i + 1
                  · have q' := eq_true q
                    simp (disch := first | omega | assumption) only [mm_op_some, true_and, and_true, mm_rc_some, mm_rc_none, pk_mul, nI_add, mm_in_t, nI_clamp, ok0, ok1, ok2, ok3, ok4, n1_0, n0_0, nI_le_, nI_lt_, if_true, if_false, not_true, not_false_eq_true, ce_lt, ce_cl, hf_lt, hf_cl, n0_zz, n1_zz, wp_sipush (y := zX6_reach) (nI 144) ks_144 dX6_reach_81, wp_icmp_ge (y := zX6_reach) 145 (by decide) dX6_reach_84, q']
                    exact en
                  · have q' := eq_false q
                    simp (disch := first | omega | assumption) only [mm_op_some, true_and, and_true, mm_rc_some, mm_rc_none, pk_mul, nI_add, mm_in_t, nI_clamp, ok0, ok1, ok2, ok3, ok4, n1_0, n0_0, nI_le_, nI_lt_, if_true, if_false, not_true, not_false_eq_true, ce_lt, ce_cl, hf_lt, hf_cl, n0_zz, n1_zz, wp_sipush (y := zX6_reach) (nI 144) ks_144 dX6_reach_81, wp_icmp_ge (y := zX6_reach) 145 (by decide) dX6_reach_84, wp_il5 (y := zX6_reach) dX6_reach_87, wp_iconst (y := zX6_reach) ((-1)) ki_m1 dX6_reach_89, wp_icmp_ne (y := zX6_reach) 145 (by decide) dX6_reach_90, q', m2]
                    exact en
              · have cf : (lv s.1 (wI i) && can s.1 (wI i)) = false := Bool.eq_false_iff.mpr (fun q => hh (by rw [Bool.and_eq_true] at q; exact q))
                rw [cf, bI_f] at EC
                rw [← Bool.and_assoc, cf, Bool.false_and] at q0
                simp (disch := first | omega | assumption) only [mm_op_some, true_and, and_true, mm_rc_some, mm_rc_none, pk_mul, nI_add, mm_in_t, nI_clamp, ok0, ok1, ok2, ok3, ok4, n1_0, n0_0, nI_le_, nI_lt_, if_true, if_false, not_true, not_false_eq_true, ce_lt, ce_cl, hf_lt, hf_cl, n0_zz, n1_zz, wp_sipush (y := zX6_reach) (nI 144) ks_144 dX6_reach_81, wp_icmp_ge (y := zX6_reach) 145 (by decide) dX6_reach_84, wp_il5 (y := zX6_reach) dX6_reach_87, wp_iconst (y := zX6_reach) ((-1)) ki_m1 dX6_reach_89, wp_icmp_ne (y := zX6_reach) 145 (by decide) dX6_reach_90, wp_al0 (y := zX6_reach) dX6_reach_93, wp_il6 (y := zX6_reach) dX6_reach_94, wp_cv1 (y := zX6_reach) kM6_147 (by decide) dX6_reach_96, (show yo zX6_canSwap = 6 from rfl), wp_if_eq (y := zX6_reach) 139 (by decide) dX6_reach_99, wp_inc6 (y := zX6_reach) (nI 1) ki_1 dX6_reach_139, wp_goto (y := zX6_reach) 79 (by decide) dX6_reach_142, O.oc, O.g0, O.g1, O.g2, O.g3, O.g4, O.g5, O.g6, O.g7, O.g9, O.g10, O.g11, O.p0, O.p7, O.a1, O.a2, O.a3, O.a4, O.a5, O.a6, O.a7, O.a8, O.a9, h9, mm, EC]
                exact ih (i + 1) _ (by omega) T (ee.trans (if_neg (fun z => by rw [q0] at z; cases z)))
          exact key 144 0 V (by omega) t0 rfl
end MLO
