theorem gcd_st (a b : Nat) : Nat.gcd a b = Nat.gcd b (a % b) := by
  rw [Nat.gcd_comm a b, Nat.gcd_rec b a, Nat.gcd_comm]
theorem nI_gtz {n : Nat} (h : n < 2 ^ 31) : (0 < nI n) ↔ 0 < n := by
  rw [Int32.lt_iff_toInt_lt, nI_toInt h, show (0 : Int32).toInt = 0 from rfl]
  omega
theorem cdI_z (f a : Nat) : cdI f (nI a) (nI 0) = nI a := by
  cases f with
  | zero => rfl
  | succ f =>
    unfold cdI
    rw [if_neg (by decide)]
theorem cdI_st {f a b : Nat} (ha : a < 2 ^ 31) (hb : b < 2 ^ 31) (h : 0 < b) : cdI (f + 1) (nI a) (nI b) = cdI f (nI b) (nI (a % b)) := by
  show (if 0 < nI b then cdI f (nI b) (nI a - nI a / nI b * nI b) else nI a) = _
  rw [if_pos ((nI_gtz hb).mpr h), nI_rem ha hb h]
theorem cdI_gcd : ∀ (j a b f : Nat), a < 2 ^ 31 → b < 2 ^ 31 → b < 2 ^ j → 2 * j + 1 ≤ f → cdI f (nI a) (nI b) = nI (Nat.gcd a b)
  | 0, a, b, f, _, _, h, _ => by
    have e : b = 0 := by
      have : 2 ^ 0 = 1 := rfl
      omega
    rw [e, cdI_z, Nat.gcd_zero_right]
  | j + 1, a, b, f, ha, hb, h, hf => by
    by_cases z : b = 0
    · rw [z, cdI_z, Nat.gcd_zero_right]
    · obtain ⟨f1, rfl⟩ : ∃ f1, f = f1 + 1 + 1 := ⟨f - 2, by omega⟩
      rw [cdI_st ha hb (by omega), gcd_st]
      have l1 := Nat.mod_lt a (Nat.pos_of_ne_zero z)
      by_cases z1 : a % b = 0
      · rw [z1, cdI_z, Nat.gcd_zero_right]
      · rw [cdI_st hb (by omega) (by omega), gcd_st]
        generalize a % b = r at l1 z1
        have l2 := Nat.mod_lt b (Nat.pos_of_ne_zero z1)
        have e := Nat.div_add_mod b r
        have p : 0 < b / r := Nat.div_pos (by omega) (by omega)
        have q : r ≤ r * (b / r) := Nat.le_mul_of_pos_right r p
        have pw : 2 ^ (j + 1) = 2 * 2 ^ j := by rw [Nat.pow_succ, Nat.mul_comm]
        exact cdI_gcd j r (b % r) f1 (by omega) (by omega) (by omega) (by omega)
section MCM
variable {sh : mm_Sh} {m : Nat} {M : Ms} {μ : mm_U} {s : Fo} {Q : Option Value → mm_U → Prop}
theorem m_common (a b : Nat) (ha : a < 2 ^ 31) (hb : b < 2 ^ 31) : cl sh zX6_common [.int (nI a), .int (nI b)] μ Q = Q (some (.int (nI (Nat.gcd a b)))) μ := by
  have key : ∀ n x y v, y < n → x < 2 ^ 31 → y < 2 ^ 31 → wp sh zX6_common 4 [.int (nI a), .int (nI b), .int (nI x), .int (nI y), v] [] μ Q = Q (some (.int (nI (Nat.gcd x y)))) μ := by
    intro n
    induction n with
    | zero => intro x y v h; exact absurd h (Nat.not_lt_zero _)
    | succ n ih =>
      intro x y v h hx hy
      rw [wp_il3 (y := zX6_common) dX6_common_4]
      by_cases z : y = 0
      · subst z
        rw [Nat.gcd_zero_right]
        simp (disch := first | omega | assumption) only [mm_op_some, true_and, and_true, mm_rc_some, mm_rc_none, pk_mul, nI_add, mm_in_t, nI_clamp, ok0, ok1, ok2, ok3, ok4, n1_0, n0_0, nI_le_, nI_lt_, if_true, if_false, not_true, not_false_eq_true, ce_lt, ce_cl, hf_lt, hf_cl, n0_zz, n1_zz, wp_if_eq (y := zX6_common) 21 (by decide) dX6_common_5, wp_il2 (y := zX6_common) dX6_common_21, wp_ireti (y := zX6_common) rfl dX6_common_22]
      · have z' : (nI y = 0) = False := eq_false (fun q => z (by
          have := congrArg Int32.toInt q
          rw [nI_toInt hy, show (0 : Int32).toInt = 0 from rfl] at this
          omega))
        have zz : ¬ nI y = 0 := of_eq_false z'
        have rm := nI_rem hx hy (Nat.pos_of_ne_zero z)
        have l1 := Nat.mod_lt x (Nat.pos_of_ne_zero z)
        rw [gcd_st, ← ih y (x % y) (.int (nI (x % y))) (by omega) hy (by omega)]
        generalize x % y = r at rm
        simp (disch := first | omega | assumption) only [mm_op_some, true_and, and_true, mm_rc_some, mm_rc_none, ok0, ok1, ok2, ok3, ok4, n1_0, n0_0, if_true, if_false, wp_if_eq (y := zX6_common) 21 (by decide) dX6_common_5, wp_il2 (y := zX6_common) dX6_common_8, wp_il3 (y := zX6_common) dX6_common_9, wp_irem' (y := zX6_common) dX6_common_10, wp_is4 (y := zX6_common) dX6_common_11, wp_il3 (y := zX6_common) dX6_common_13, wp_is2 (y := zX6_common) dX6_common_14, wp_il4 (y := zX6_common) dX6_common_15, wp_is3 (y := zX6_common) dX6_common_17, wp_goto (y := zX6_common) 4 (by decide) dX6_common_18, z', zz, rm]
  show wp sh zX6_common 0 [.int (nI a), .int (nI b), .null, .null, .null] [] μ Q = _
  simp (disch := first | omega | assumption) only [mm_op_some, true_and, and_true, mm_rc_some, mm_rc_none, pk_mul, nI_add, mm_in_t, nI_clamp, ok0, ok1, ok2, ok3, ok4, n1_0, n0_0, nI_le_, nI_lt_, if_true, if_false, not_true, not_false_eq_true, ce_lt, ce_cl, hf_lt, hf_cl, wp_il0 (y := zX6_common) dX6_common_0, wp_is2 (y := zX6_common) dX6_common_1, wp_il1 (y := zX6_common) dX6_common_2, wp_is3 (y := zX6_common) dX6_common_3]
  exact key (b + 1) a b _ (by omega) ha hb
theorem Inv.abN_le (J : Inv M) (c : Ce) : abN M c ≤ 288 * 288 := sm_le 288 (fun j _ => by
  split
  · exact J.sdb _
  · omega)
theorem m_about (O : MoSh sh m) (R : RepM s μ m) (J : Inv s.1) (g0 : μ m 7 = nI 0) (x what : Int32) : cl sh zX6_about [.ref m, .int x, .int what] μ (MT m μ (a_about s x what, s)) := by
  have R0 := R.mu0 (nI 0)
  have A := R0.1
  show wp sh zX6_about 0 [.ref m, .int x, .int what, .null, .null, .null] [] μ _
  have fin : ∀ v, MT m μ (v, s) (some (.int v)) (mu μ m (upd (μ m) 0 (nI 0))) := fun v => mt_ro g0 rfl (RO.refl _ _) rfl R0 J
  have E0 : ∀ Q', cl sh zX6_ofKind [.ref m, .int x, .int (nI 0)] (mu μ m (upd (μ m) 0 (nI 0))) Q' = Q' (some (.int (sK s.1 x (fun _ => nI 1)))) (mu μ m (upd (μ m) 0 (nI 0))) := fun Q' => m_ofKind0 O A J x
  have E2 : ∀ Q', cl sh zX6_ofKind [.ref m, .int x, .int (nI 2)] (mu μ m (upd (μ m) 0 (nI 0))) Q' = Q' (some (.int (sAA s.1 x))) (mu μ m (upd (μ m) 0 (nI 0))) := fun Q' => by
    have := m_ofKind2 (Q := Q') O A J x
    rw [J.kd2] at this
    exact this
  obtain ⟨K, eK, K48, K0⟩ : ∃ K, sK s.1 x (fun _ => nI 1) = nI K ∧ K ≤ 48 ∧ (0 < K → ∃ c, 0 < sd s.1 c ∧ nI (sd s.1 c) = x) := by
    refine ⟨sm 48 (fun i => if 0 < sd s.1 (cI i) ∧ nI (sd s.1 (cI i)) = x then 1 else 0), ?_, ?_, fun h => ?_⟩
    · rw [← it_sm (fun i => 0 < sd s.1 (cI i) ∧ nI (sd s.1 (cI i)) = x) (fun _ => 1) 48]
      unfold sK
      refine it_congr 48 0 _ (fun j a _ _ => ?_)
      by_cases h1 : 0 < sd s.1 (cI j)
      · by_cases h2 : nI (sd s.1 (cI j)) = x
        · rw [if_pos h1, if_pos h2, if_pos ⟨h1, h2⟩]
        · rw [if_pos h1, if_neg h2, if_neg (fun z => h2 z.2)]
      · rw [if_neg h1, if_neg (fun z => h1 z.1)]
    · have := sm_le (f := fun i => if 0 < sd s.1 (cI i) ∧ nI (sd s.1 (cI i)) = x then 1 else 0) (b := 1) 48 (fun j _ => by
        show (if 0 < sd s.1 (cI j) ∧ nI (sd s.1 (cI j)) = x then 1 else 0) ≤ 1
        split <;> omega)
      omega
    · obtain ⟨j, _, hj⟩ := sm_pos 48 h
      have hj : 0 < (if 0 < sd s.1 (cI j) ∧ nI (sd s.1 (cI j)) = x then 1 else 0) := hj
      split at hj
      · rename_i q
        exact ⟨cI j, q⟩
      · omega
  obtain ⟨S, eS, Sb⟩ : ∃ S, sAA s.1 x = nI S ∧ S < 2 ^ 31 := by
    refine ⟨_, sAA_N s.1 x, ?_⟩
    have := sm_le (f := fun i => if nI (sd s.1 (cI i)) = x then abN s.1 (cI i) else 0) (b := 288 * 288) 48 (fun j _ => by
      show (if nI (sd s.1 (cI j)) = x then abN s.1 (cI j) else 0) ≤ 288 * 288
      split
      · exact J.abN_le _
      · omega)
    omega
  unfold a_about
  rw [eK] at E0 ⊢
  rw [eS] at E2 ⊢
  by_cases k0 : K = 0
  · subst k0
    rw [if_neg (by rw [show nI 0 * x = 0 from Int32.zero_mul, Int32.lt_iff_toInt_lt]; omega)]
    have fin := fin (-1)
    generalize MT m μ ((-1 : Int32), s) = QQ at fin ⊢
    simp (disch := first | omega | assumption) only [mm_op_some, true_and, and_true, mm_rc_some, mm_rc_none, pk_mul, nI_add, mm_in_t, nI_clamp, ok0, ok1, ok2, ok3, ok4, n1_0, n0_0, nI_le_, nI_lt_, if_true, if_false, not_true, not_false_eq_true, ce_lt, ce_cl, hf_lt, hf_cl, n0_zz, n1_zz, wp_al0 (y := zX6_about) dX6_about_0, wp_iconst (y := zX6_about) (nI 0) ki_0 dX6_about_1, wp_putf (y := zX6_about) kF6_44 rfl dX6_about_2, wp_al0 (y := zX6_about) dX6_about_5, wp_il1 (y := zX6_about) dX6_about_6, wp_iconst (y := zX6_about) (nI 0) ki_0 dX6_about_7, wp_cv2 (y := zX6_about) kM6_264 (by decide) dX6_about_8, (show yo zX6_ofKind = 6 from rfl), wp_is3 (y := zX6_about) dX6_about_11, wp_il3 (y := zX6_about) dX6_about_12, wp_if_eq (y := zX6_about) 26 (by decide) dX6_about_13, wp_iconst (y := zX6_about) ((-1)) ki_m1 dX6_about_26, wp_ireti (y := zX6_about) rfl dX6_about_27, O.oc, O.g0, O.g1, O.g2, O.g3, O.g4, O.g5, O.g6, O.g7, O.g9, O.g10, O.g11, O.p0, O.p7, O.a1, O.a2, O.a3, O.a4, O.a5, O.a6, O.a7, O.a8, O.a9, E0]
    exact fin
  · obtain ⟨c, hc, ex⟩ := K0 (by omega)
    have cb := J.sdb c
    subst ex
    generalize sd s.1 c = k at hc cb E0 E2 eK eS K0 ⊢
    have kk : K * k ≤ 48 * 288 := Nat.mul_le_mul K48 cb
    have kp : 0 < K * k := Nat.mul_pos (by omega) hc
    have km : nI K * nI k = nI (K * k) := pk_mul _ _
    have gp : 0 < Nat.gcd S (K * k) := Nat.gcd_pos_of_pos_right S kp
    have gl : Nat.gcd S (K * k) ≤ K * k := Nat.gcd_le_right S kp
    have EC : ∀ Q', cl sh zX6_common [.int (nI S), .int (nI (K * k))] (mu μ m (upd (μ m) 0 (nI 0))) Q' = Q' (some (.int (nI (Nat.gcd S (K * k))))) (mu μ m (upd (μ m) 0 (nI 0))) := fun Q' => m_common S (K * k) Sb (by omega)
    have cd := cdI_gcd 14 S (K * k) 100 Sb (by omega) (by have : 2 ^ 14 = 16384 := rfl; omega) (by omega)
    rw [km, if_pos ((nI_gtz (by omega)).mpr kp), cd, if_pos ((nI_gtz (by omega)).mpr gp)]
    have K0' : (nI K = 0) = False := eq_false (fun q => k0 (by
      have := congrArg Int32.toInt q
      rw [nI_toInt (by omega), show (0 : Int32).toInt = 0 from rfl] at this
      omega))
    have gz : ¬ nI (Nat.gcd S (K * k)) = 0 := fun q => by
      have := congrArg Int32.toInt q
      rw [nI_toInt (by omega), show (0 : Int32).toInt = 0 from rfl] at this
      omega
    generalize Nat.gcd S (K * k) = G at EC gz ⊢
    by_cases w0 : what = nI 0
    · subst w0
      rw [if_pos rfl]
      have i0 : mm_isin (nI 0).toInt64 0 1 = nI 1 := by decide
      have fin := fin (nI S / nI G)
      generalize MT m μ (nI S / nI G, s) = QQ at fin ⊢
      simp (disch := first | omega | assumption) only [mm_op_some, true_and, and_true, mm_rc_some, mm_rc_none, ok0, ok1, ok2, ok3, ok4, n1_0, n0_0, if_true, if_false, n0_zz, n1_zz, wp_al0 (y := zX6_about) dX6_about_0, wp_iconst (y := zX6_about) (nI 0) ki_0 dX6_about_1, wp_putf (y := zX6_about) kF6_44 rfl dX6_about_2, wp_al0 (y := zX6_about) dX6_about_5, wp_il1 (y := zX6_about) dX6_about_6, wp_iconst (y := zX6_about) (nI 0) ki_0 dX6_about_7, wp_cv2 (y := zX6_about) kM6_264 (by decide) dX6_about_8, (show yo zX6_ofKind = 6 from rfl), wp_is3 (y := zX6_about) dX6_about_11, wp_il3 (y := zX6_about) dX6_about_12, wp_if_eq (y := zX6_about) 26 (by decide) dX6_about_13, wp_il2 (y := zX6_about) dX6_about_16, wp_i2l (y := zX6_about) dX6_about_17, wp_lconst (y := zX6_about) (0) kl_0 dX6_about_18, wp_lconst (y := zX6_about) (1) kl_1 dX6_about_19, wp_in (y := zX6_about) rfl kP6_48 (by decide) dX6_about_20, wp_if_ne (y := zX6_about) 28 (by decide) dX6_about_23, wp_al0 (y := zX6_about) dX6_about_28, wp_il1 (y := zX6_about) dX6_about_29, wp_iconst (y := zX6_about) (nI 2) ki_2 dX6_about_30, wp_cv2 (y := zX6_about) kM6_264 (by decide) dX6_about_31, (show yo zX6_ofKind = 6 from rfl), wp_is4 (y := zX6_about) dX6_about_34, wp_il3 (y := zX6_about) dX6_about_36, wp_il1 (y := zX6_about) dX6_about_37, wp_imul (y := zX6_about) dX6_about_38, wp_is5 (y := zX6_about) dX6_about_39, wp_il2 (y := zX6_about) dX6_about_41, wp_if_ne (y := zX6_about) 50 (by decide) dX6_about_42, wp_il4 (y := zX6_about) dX6_about_45, wp_goto (y := zX6_about) 52 (by decide) dX6_about_47, wp_il4 (y := zX6_about) dX6_about_52, wp_il5 (y := zX6_about) dX6_about_54, wp_cs2 (y := zX6_about) kM6_267 (by decide) dX6_about_56, wp_idiv' (y := zX6_about) dX6_about_59, wp_ireti (y := zX6_about) rfl dX6_about_60, O.oc, O.g0, O.g1, O.g2, O.g3, O.g4, O.g5, O.g6, O.g7, O.g9, O.g10, O.g11, O.p0, O.p7, O.a1, O.a2, O.a3, O.a4, O.a5, O.a6, O.a7, O.a8, O.a9, E0, E2, EC, K0', i0, km, gz]
      exact fin
    · rw [if_neg w0]
      by_cases w1 : what = nI 1
      · subst w1
        rw [if_pos rfl]
        have i0 : mm_isin (nI 1).toInt64 0 1 = nI 1 := by decide
        have fin := fin (nI (K * k) / nI G)
        generalize MT m μ (nI (K * k) / nI G, s) = QQ at fin ⊢
        simp (disch := first | omega | assumption) only [mm_op_some, true_and, and_true, mm_rc_some, mm_rc_none, ok0, ok1, ok2, ok3, ok4, n1_0, n0_0, if_true, if_false, n0_zz, n1_zz, wp_al0 (y := zX6_about) dX6_about_0, wp_iconst (y := zX6_about) (nI 0) ki_0 dX6_about_1, wp_putf (y := zX6_about) kF6_44 rfl dX6_about_2, wp_al0 (y := zX6_about) dX6_about_5, wp_il1 (y := zX6_about) dX6_about_6, wp_iconst (y := zX6_about) (nI 0) ki_0 dX6_about_7, wp_cv2 (y := zX6_about) kM6_264 (by decide) dX6_about_8, (show yo zX6_ofKind = 6 from rfl), wp_is3 (y := zX6_about) dX6_about_11, wp_il3 (y := zX6_about) dX6_about_12, wp_if_eq (y := zX6_about) 26 (by decide) dX6_about_13, wp_il2 (y := zX6_about) dX6_about_16, wp_i2l (y := zX6_about) dX6_about_17, wp_lconst (y := zX6_about) (0) kl_0 dX6_about_18, wp_lconst (y := zX6_about) (1) kl_1 dX6_about_19, wp_in (y := zX6_about) rfl kP6_48 (by decide) dX6_about_20, wp_if_ne (y := zX6_about) 28 (by decide) dX6_about_23, wp_al0 (y := zX6_about) dX6_about_28, wp_il1 (y := zX6_about) dX6_about_29, wp_iconst (y := zX6_about) (nI 2) ki_2 dX6_about_30, wp_cv2 (y := zX6_about) kM6_264 (by decide) dX6_about_31, (show yo zX6_ofKind = 6 from rfl), wp_is4 (y := zX6_about) dX6_about_34, wp_il3 (y := zX6_about) dX6_about_36, wp_il1 (y := zX6_about) dX6_about_37, wp_imul (y := zX6_about) dX6_about_38, wp_is5 (y := zX6_about) dX6_about_39, wp_il2 (y := zX6_about) dX6_about_41, wp_if_ne (y := zX6_about) 50 (by decide) dX6_about_42, wp_il5 (y := zX6_about) dX6_about_50, wp_il4 (y := zX6_about) dX6_about_52, wp_il5 (y := zX6_about) dX6_about_54, wp_cs2 (y := zX6_about) kM6_267 (by decide) dX6_about_56, wp_idiv' (y := zX6_about) dX6_about_59, wp_ireti (y := zX6_about) rfl dX6_about_60, O.oc, O.g0, O.g1, O.g2, O.g3, O.g4, O.g5, O.g6, O.g7, O.g9, O.g10, O.g11, O.p0, O.p7, O.a1, O.a2, O.a3, O.a4, O.a5, O.a6, O.a7, O.a8, O.a9, E0, E2, EC, K0', i0, km, gz]
        exact fin
      · rw [if_neg w1]
        have i0 : mm_isin what.toInt64 0 1 = nI 0 := isin_f (fun q => by
          have z0 : (0 : Int64).toInt = 0 := rfl
          have z1 : (1 : Int64).toInt = 1 := rfl
          rw [z0, z1] at q
          have : what.toInt = 0 ∨ what.toInt = 1 := by omega
          rcases this with e | e
          · exact w0 (Int32.toInt_inj.mp (by rw [e]; rfl))
          · exact w1 (Int32.toInt_inj.mp (by rw [e]; rfl)))
        have fin := fin (-1)
        generalize MT m μ ((-1 : Int32), s) = QQ at fin ⊢
        simp (disch := first | omega | assumption) only [mm_op_some, true_and, and_true, mm_rc_some, mm_rc_none, ok0, ok1, ok2, ok3, ok4, n1_0, n0_0, if_true, if_false, n0_zz, n1_zz, wp_al0 (y := zX6_about) dX6_about_0, wp_iconst (y := zX6_about) (nI 0) ki_0 dX6_about_1, wp_putf (y := zX6_about) kF6_44 rfl dX6_about_2, wp_al0 (y := zX6_about) dX6_about_5, wp_il1 (y := zX6_about) dX6_about_6, wp_iconst (y := zX6_about) (nI 0) ki_0 dX6_about_7, wp_cv2 (y := zX6_about) kM6_264 (by decide) dX6_about_8, (show yo zX6_ofKind = 6 from rfl), wp_is3 (y := zX6_about) dX6_about_11, wp_il3 (y := zX6_about) dX6_about_12, wp_if_eq (y := zX6_about) 26 (by decide) dX6_about_13, wp_il2 (y := zX6_about) dX6_about_16, wp_i2l (y := zX6_about) dX6_about_17, wp_lconst (y := zX6_about) (0) kl_0 dX6_about_18, wp_lconst (y := zX6_about) (1) kl_1 dX6_about_19, wp_in (y := zX6_about) rfl kP6_48 (by decide) dX6_about_20, wp_if_ne (y := zX6_about) 28 (by decide) dX6_about_23, wp_iconst (y := zX6_about) ((-1)) ki_m1 dX6_about_26, wp_ireti (y := zX6_about) rfl dX6_about_27, O.oc, O.g0, O.g1, O.g2, O.g3, O.g4, O.g5, O.g6, O.g7, O.g9, O.g10, O.g11, O.p0, O.p7, O.a1, O.a2, O.a3, O.a4, O.a5, O.a6, O.a7, O.a8, O.a9, E0, K0', i0]
        exact fin
end MCM
