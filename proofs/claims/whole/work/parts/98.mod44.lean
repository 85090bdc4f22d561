theorem it_id {α : Type} : ∀ (d i : Nat) (a : α), it (fun _ a => a) d i a = a
  | 0, _, _ => rfl
  | d + 1, i, a => it_id d (i + 1) a
section MKE
variable {sh : mm_Sh} {m : Nat} {M N : Ms} {μ : mm_U} {s : Fo} {Q : Option Value → mm_U → Prop}
theorem Inv.abN_z (J : Inv M) {c : Ce} (h : sd M c = 0) : abN M c = 0 := by
  unfold abN
  have : sm 288 (fun i => if fib M c (hI i) = true then sd M (ow M (tw (hI i))) else 0) = sm 288 (fun _ => 0) := sm_congr 288 (fun j _ => if_neg (fun z => by
    obtain ⟨l, o⟩ := fib_iff.mp z
    have := J.pos l
    rw [o] at this
    omega))
  rw [this, sm_zero]
theorem Inv.kd2 (J : Inv M) (n : Int32) : it (fun i a => if 0 < sd M (cI i) then (if nI (sd M (cI i)) = n then a + nI (abN M (cI i)) else a) else a) 48 0 (nI 0) = sAA M n := by
  rw [sAA_N]
  have e := it_sm (fun i => 0 < sd M (cI i) ∧ nI (sd M (cI i)) = n) (fun i => abN M (cI i)) 48
  have e1 : sm 48 (fun i => if 0 < sd M (cI i) ∧ nI (sd M (cI i)) = n then abN M (cI i) else 0) = sm 48 (fun i => if nI (sd M (cI i)) = n then abN M (cI i) else 0) := sm_congr 48 (fun i _ => by
    by_cases h1 : nI (sd M (cI i)) = n
    · rw [if_pos h1]
      by_cases h2 : 0 < sd M (cI i)
      · rw [if_pos ⟨h2, h1⟩]
      · rw [if_neg (fun z => h2 z.1), J.abN_z (by omega)]
    · rw [if_neg h1, if_neg (fun z => h1 z.2)])
  rw [← e1, ← e]
  refine it_congr 48 0 _ (fun j a _ _ => ?_)
  by_cases h2 : 0 < sd M (cI j)
  · by_cases h1 : nI (sd M (cI j)) = n
    · rw [if_pos h2, if_pos h1, if_pos ⟨h2, h1⟩]
    · rw [if_pos h2, if_neg h1, if_neg (fun z => h1 z.2)]
  · rw [if_neg h2, if_neg (fun z => h2 z.1)]
theorem Inv.kd0 (J : Inv M) {n : Int32} (h1 : n < nI 1) (f : Nat → Int32) : it (fun i a => if 0 < sd M (cI i) then (if nI (sd M (cI i)) = n then a + f i else a) else a) 48 0 (nI 0) = nI 0 := by
  rw [it_congr (f := fun _ a => a) 48 0 _ (fun j a _ _ => ?_)]
  · exact it_id 48 0 _
  · by_cases h2 : 0 < sd M (cI j)
    · have b := J.sdb (cI j)
      rw [if_pos h2, if_neg (fun e => by
        rw [← e, nI_lt_ (by omega) (by omega)] at h1
        omega)]
    · rw [if_neg h2]
theorem m_kind (O : MoSh sh m) (R : RepM s μ m) (J : Inv s.1) (g0 : μ m 7 = nI 0) (n what : Int32) : cl sh zX6_kind [.ref m, .int n, .int what] μ (MT m μ (a_kind s n what, s)) := by
  have R0 := R.mu0 (nI 0)
  show wp sh zX6_kind 0 [.ref m, .int n, .int what] [] μ _
  unfold a_kind
  have fin : ∀ v, MT m μ (v, s) (some (.int v)) (mu μ m (upd (μ m) 0 (nI 0))) := fun v => mt_ro g0 rfl (RO.refl _ _) rfl R0 J
  by_cases w0 : what = nI 0
  · subst w0
    rw [if_pos rfl]
    have ee : mm_isin (nI 0).toInt64 0 2 = nI 1 := by decide
    have fin := fin (sK s.1 n (fun _ => nI 1))
    generalize hq : MT m μ (sK s.1 n (fun _ => nI 1), s) = QQ at fin ⊢
    by_cases h1 : n < nI 1
    · have h1' : (nI 1 ≤ n) = False := eq_false (by rw [Int32.le_iff_toInt_le]; rw [Int32.lt_iff_toInt_lt] at h1; omega)
      rw [show sK s.1 n (fun _ => nI 1) = nI 0 from J.kd0 h1 (fun _ => nI 1)] at fin
      simp (disch := first | omega | assumption) only [mm_op_some, true_and, and_true, mm_rc_some, mm_rc_none, pk_mul, nI_add, mm_in_t, nI_clamp, ok0, ok1, ok2, ok3, ok4, n1_0, n0_0, nI_le_, nI_lt_, if_true, if_false, not_true, not_false_eq_true, ce_lt, ce_cl, hf_lt, hf_cl, n0_zz, n1_zz, wp_al0 (y := zX6_kind) dX6_kind_0, wp_iconst (y := zX6_kind) (nI 0) ki_0 dX6_kind_1, wp_putf (y := zX6_kind) kF6_44 rfl dX6_kind_2, wp_il2 (y := zX6_kind) dX6_kind_5, wp_i2l (y := zX6_kind) dX6_kind_6, wp_lconst (y := zX6_kind) (0) kl_0 dX6_kind_7, wp_ldc2 (y := zX6_kind) kL6_253 dX6_kind_8, wp_in (y := zX6_kind) rfl kP6_48 (by decide) dX6_kind_11, wp_if_eq (y := zX6_kind) 35 (by decide) dX6_kind_14, wp_il1 (y := zX6_kind) dX6_kind_17, wp_iconst (y := zX6_kind) (nI 1) ki_1 dX6_kind_18, wp_icmp_ge (y := zX6_kind) 26 (by decide) dX6_kind_19, wp_iconst (y := zX6_kind) (nI 0) ki_0 dX6_kind_22, wp_goto (y := zX6_kind) 37 (by decide) dX6_kind_23, wp_ireti (y := zX6_kind) rfl dX6_kind_37, O.oc, O.g0, O.g1, O.g2, O.g3, O.g4, O.g5, O.g6, O.g7, O.g9, O.g10, O.g11, O.p0, O.p7, O.a1, O.a2, O.a3, O.a4, O.a5, O.a6, O.a7, O.a8, O.a9, ee, h1']
      exact fin
    · have h1' : (nI 1 ≤ n) = True := eq_true (by rw [Int32.le_iff_toInt_le]; rw [Int32.lt_iff_toInt_lt] at h1; omega)
      have EK : ∀ Q', cl sh zX6_ofKind [.ref m, .int n, .int (nI 0)] (mu μ m (upd (μ m) 0 (nI 0))) Q' = Q' (some (.int (sK s.1 n (fun _ => nI 1)))) (mu μ m (upd (μ m) 0 (nI 0))) := fun Q' => m_ofKind0 O R0.1 J n
      simp (disch := first | omega | assumption) only [mm_op_some, true_and, and_true, mm_rc_some, mm_rc_none, pk_mul, nI_add, mm_in_t, nI_clamp, ok0, ok1, ok2, ok3, ok4, n1_0, n0_0, nI_le_, nI_lt_, if_true, if_false, not_true, not_false_eq_true, ce_lt, ce_cl, hf_lt, hf_cl, n0_zz, n1_zz, wp_al0 (y := zX6_kind) dX6_kind_0, wp_iconst (y := zX6_kind) (nI 0) ki_0 dX6_kind_1, wp_putf (y := zX6_kind) kF6_44 rfl dX6_kind_2, wp_il2 (y := zX6_kind) dX6_kind_5, wp_i2l (y := zX6_kind) dX6_kind_6, wp_lconst (y := zX6_kind) (0) kl_0 dX6_kind_7, wp_ldc2 (y := zX6_kind) kL6_253 dX6_kind_8, wp_in (y := zX6_kind) rfl kP6_48 (by decide) dX6_kind_11, wp_if_eq (y := zX6_kind) 35 (by decide) dX6_kind_14, wp_il1 (y := zX6_kind) dX6_kind_17, wp_iconst (y := zX6_kind) (nI 1) ki_1 dX6_kind_18, wp_icmp_ge (y := zX6_kind) 26 (by decide) dX6_kind_19, wp_al0 (y := zX6_kind) dX6_kind_26, wp_il1 (y := zX6_kind) dX6_kind_27, wp_il2 (y := zX6_kind) dX6_kind_28, wp_cv2 (y := zX6_kind) kM6_264 (by decide) dX6_kind_29, (show yo zX6_ofKind = 6 from rfl), wp_goto (y := zX6_kind) 37 (by decide) dX6_kind_32, wp_ireti (y := zX6_kind) rfl dX6_kind_37, O.oc, O.g0, O.g1, O.g2, O.g3, O.g4, O.g5, O.g6, O.g7, O.g9, O.g10, O.g11, O.p0, O.p7, O.a1, O.a2, O.a3, O.a4, O.a5, O.a6, O.a7, O.a8, O.a9, ee, h1', EK]
      exact fin
  rw [if_neg w0]
  by_cases w1 : what = nI 1
  · subst w1
    rw [if_pos rfl]
    have ee : mm_isin (nI 1).toInt64 0 2 = nI 1 := by decide
    have fin := fin (sK s.1 n (ar s.1))
    generalize hq : MT m μ (sK s.1 n (ar s.1), s) = QQ at fin ⊢
    by_cases h1 : n < nI 1
    · have h1' : (nI 1 ≤ n) = False := eq_false (by rw [Int32.le_iff_toInt_le]; rw [Int32.lt_iff_toInt_lt] at h1; omega)
      rw [show sK s.1 n (ar s.1) = nI 0 from J.kd0 h1 (fun i => ar s.1 (cI i))] at fin
      simp (disch := first | omega | assumption) only [mm_op_some, true_and, and_true, mm_rc_some, mm_rc_none, pk_mul, nI_add, mm_in_t, nI_clamp, ok0, ok1, ok2, ok3, ok4, n1_0, n0_0, nI_le_, nI_lt_, if_true, if_false, not_true, not_false_eq_true, ce_lt, ce_cl, hf_lt, hf_cl, n0_zz, n1_zz, wp_al0 (y := zX6_kind) dX6_kind_0, wp_iconst (y := zX6_kind) (nI 0) ki_0 dX6_kind_1, wp_putf (y := zX6_kind) kF6_44 rfl dX6_kind_2, wp_il2 (y := zX6_kind) dX6_kind_5, wp_i2l (y := zX6_kind) dX6_kind_6, wp_lconst (y := zX6_kind) (0) kl_0 dX6_kind_7, wp_ldc2 (y := zX6_kind) kL6_253 dX6_kind_8, wp_in (y := zX6_kind) rfl kP6_48 (by decide) dX6_kind_11, wp_if_eq (y := zX6_kind) 35 (by decide) dX6_kind_14, wp_il1 (y := zX6_kind) dX6_kind_17, wp_iconst (y := zX6_kind) (nI 1) ki_1 dX6_kind_18, wp_icmp_ge (y := zX6_kind) 26 (by decide) dX6_kind_19, wp_iconst (y := zX6_kind) (nI 0) ki_0 dX6_kind_22, wp_goto (y := zX6_kind) 37 (by decide) dX6_kind_23, wp_ireti (y := zX6_kind) rfl dX6_kind_37, O.oc, O.g0, O.g1, O.g2, O.g3, O.g4, O.g5, O.g6, O.g7, O.g9, O.g10, O.g11, O.p0, O.p7, O.a1, O.a2, O.a3, O.a4, O.a5, O.a6, O.a7, O.a8, O.a9, ee, h1']
      exact fin
    · have h1' : (nI 1 ≤ n) = True := eq_true (by rw [Int32.le_iff_toInt_le]; rw [Int32.lt_iff_toInt_lt] at h1; omega)
      have EK : ∀ Q', cl sh zX6_ofKind [.ref m, .int n, .int (nI 1)] (mu μ m (upd (μ m) 0 (nI 0))) Q' = Q' (some (.int (sK s.1 n (ar s.1)))) (mu μ m (upd (μ m) 0 (nI 0))) := fun Q' => m_ofKind1 O R0.1 J n
      simp (disch := first | omega | assumption) only [mm_op_some, true_and, and_true, mm_rc_some, mm_rc_none, pk_mul, nI_add, mm_in_t, nI_clamp, ok0, ok1, ok2, ok3, ok4, n1_0, n0_0, nI_le_, nI_lt_, if_true, if_false, not_true, not_false_eq_true, ce_lt, ce_cl, hf_lt, hf_cl, n0_zz, n1_zz, wp_al0 (y := zX6_kind) dX6_kind_0, wp_iconst (y := zX6_kind) (nI 0) ki_0 dX6_kind_1, wp_putf (y := zX6_kind) kF6_44 rfl dX6_kind_2, wp_il2 (y := zX6_kind) dX6_kind_5, wp_i2l (y := zX6_kind) dX6_kind_6, wp_lconst (y := zX6_kind) (0) kl_0 dX6_kind_7, wp_ldc2 (y := zX6_kind) kL6_253 dX6_kind_8, wp_in (y := zX6_kind) rfl kP6_48 (by decide) dX6_kind_11, wp_if_eq (y := zX6_kind) 35 (by decide) dX6_kind_14, wp_il1 (y := zX6_kind) dX6_kind_17, wp_iconst (y := zX6_kind) (nI 1) ki_1 dX6_kind_18, wp_icmp_ge (y := zX6_kind) 26 (by decide) dX6_kind_19, wp_al0 (y := zX6_kind) dX6_kind_26, wp_il1 (y := zX6_kind) dX6_kind_27, wp_il2 (y := zX6_kind) dX6_kind_28, wp_cv2 (y := zX6_kind) kM6_264 (by decide) dX6_kind_29, (show yo zX6_ofKind = 6 from rfl), wp_goto (y := zX6_kind) 37 (by decide) dX6_kind_32, wp_ireti (y := zX6_kind) rfl dX6_kind_37, O.oc, O.g0, O.g1, O.g2, O.g3, O.g4, O.g5, O.g6, O.g7, O.g9, O.g10, O.g11, O.p0, O.p7, O.a1, O.a2, O.a3, O.a4, O.a5, O.a6, O.a7, O.a8, O.a9, ee, h1', EK]
      exact fin
  rw [if_neg w1]
  by_cases w2 : what = nI 2
  · subst w2
    rw [if_pos rfl]
    have ee : mm_isin (nI 2).toInt64 0 2 = nI 1 := by decide
    have fin := fin (sAA s.1 n)
    generalize hq : MT m μ (sAA s.1 n, s) = QQ at fin ⊢
    by_cases h1 : n < nI 1
    · have h1' : (nI 1 ≤ n) = False := eq_false (by rw [Int32.le_iff_toInt_le]; rw [Int32.lt_iff_toInt_lt] at h1; omega)
      rw [show sAA s.1 n = nI 0 from (J.kd2 n).symm.trans (J.kd0 h1 (fun i => nI (abN s.1 (cI i))))] at fin
      simp (disch := first | omega | assumption) only [mm_op_some, true_and, and_true, mm_rc_some, mm_rc_none, pk_mul, nI_add, mm_in_t, nI_clamp, ok0, ok1, ok2, ok3, ok4, n1_0, n0_0, nI_le_, nI_lt_, if_true, if_false, not_true, not_false_eq_true, ce_lt, ce_cl, hf_lt, hf_cl, n0_zz, n1_zz, wp_al0 (y := zX6_kind) dX6_kind_0, wp_iconst (y := zX6_kind) (nI 0) ki_0 dX6_kind_1, wp_putf (y := zX6_kind) kF6_44 rfl dX6_kind_2, wp_il2 (y := zX6_kind) dX6_kind_5, wp_i2l (y := zX6_kind) dX6_kind_6, wp_lconst (y := zX6_kind) (0) kl_0 dX6_kind_7, wp_ldc2 (y := zX6_kind) kL6_253 dX6_kind_8, wp_in (y := zX6_kind) rfl kP6_48 (by decide) dX6_kind_11, wp_if_eq (y := zX6_kind) 35 (by decide) dX6_kind_14, wp_il1 (y := zX6_kind) dX6_kind_17, wp_iconst (y := zX6_kind) (nI 1) ki_1 dX6_kind_18, wp_icmp_ge (y := zX6_kind) 26 (by decide) dX6_kind_19, wp_iconst (y := zX6_kind) (nI 0) ki_0 dX6_kind_22, wp_goto (y := zX6_kind) 37 (by decide) dX6_kind_23, wp_ireti (y := zX6_kind) rfl dX6_kind_37, O.oc, O.g0, O.g1, O.g2, O.g3, O.g4, O.g5, O.g6, O.g7, O.g9, O.g10, O.g11, O.p0, O.p7, O.a1, O.a2, O.a3, O.a4, O.a5, O.a6, O.a7, O.a8, O.a9, ee, h1']
      exact fin
    · have h1' : (nI 1 ≤ n) = True := eq_true (by rw [Int32.le_iff_toInt_le]; rw [Int32.lt_iff_toInt_lt] at h1; omega)
      have EK : ∀ Q', cl sh zX6_ofKind [.ref m, .int n, .int (nI 2)] (mu μ m (upd (μ m) 0 (nI 0))) Q' = Q' (some (.int (sAA s.1 n))) (mu μ m (upd (μ m) 0 (nI 0))) := fun Q' => by rw [← J.kd2 n]; exact m_ofKind2 O R0.1 J n
      simp (disch := first | omega | assumption) only [mm_op_some, true_and, and_true, mm_rc_some, mm_rc_none, pk_mul, nI_add, mm_in_t, nI_clamp, ok0, ok1, ok2, ok3, ok4, n1_0, n0_0, nI_le_, nI_lt_, if_true, if_false, not_true, not_false_eq_true, ce_lt, ce_cl, hf_lt, hf_cl, n0_zz, n1_zz, wp_al0 (y := zX6_kind) dX6_kind_0, wp_iconst (y := zX6_kind) (nI 0) ki_0 dX6_kind_1, wp_putf (y := zX6_kind) kF6_44 rfl dX6_kind_2, wp_il2 (y := zX6_kind) dX6_kind_5, wp_i2l (y := zX6_kind) dX6_kind_6, wp_lconst (y := zX6_kind) (0) kl_0 dX6_kind_7, wp_ldc2 (y := zX6_kind) kL6_253 dX6_kind_8, wp_in (y := zX6_kind) rfl kP6_48 (by decide) dX6_kind_11, wp_if_eq (y := zX6_kind) 35 (by decide) dX6_kind_14, wp_il1 (y := zX6_kind) dX6_kind_17, wp_iconst (y := zX6_kind) (nI 1) ki_1 dX6_kind_18, wp_icmp_ge (y := zX6_kind) 26 (by decide) dX6_kind_19, wp_al0 (y := zX6_kind) dX6_kind_26, wp_il1 (y := zX6_kind) dX6_kind_27, wp_il2 (y := zX6_kind) dX6_kind_28, wp_cv2 (y := zX6_kind) kM6_264 (by decide) dX6_kind_29, (show yo zX6_ofKind = 6 from rfl), wp_goto (y := zX6_kind) 37 (by decide) dX6_kind_32, wp_ireti (y := zX6_kind) rfl dX6_kind_37, O.oc, O.g0, O.g1, O.g2, O.g3, O.g4, O.g5, O.g6, O.g7, O.g9, O.g10, O.g11, O.p0, O.p7, O.a1, O.a2, O.a3, O.a4, O.a5, O.a6, O.a7, O.a8, O.a9, ee, h1', EK]
      exact fin
  rw [if_neg w2]
  have hts : what.toInt < 0 ∨ 2 < what.toInt := by
    rcases Int.lt_or_le what.toInt 0 with q | q
    · exact Or.inl q
    · rcases Int.lt_or_le 2 what.toInt with q2 | q2
      · exact Or.inr q2
      · exfalso
        have hh : ∀ j : Nat, j < 3 → what.toInt = j → what = nI j := fun j hj e => Int32.toInt_inj.mp (by rw [e, nI_toInt (by omega)])
        have : what.toInt = 0 ∨ what.toInt = 1 ∨ what.toInt = 2 := by omega
        rcases this with e | e | e
        · exact w0 (hh 0 (by omega) e)
        · exact w1 (hh 1 (by omega) e)
        · exact w2 (hh 2 (by omega) e)
  have ee : mm_isin what.toInt64 0 2 = nI 0 := isin_f (fun q => by
    have z0 : (0 : Int64).toInt = 0 := rfl
    have z2 : (2 : Int64).toInt = 2 := rfl
    rw [z0, z2] at q
    omega)
  have fin := fin (-2147483648)
  generalize MT m μ ((-2147483648 : Int32), s) = QQ at fin ⊢
  simp (disch := first | omega | assumption) only [mm_op_some, true_and, and_true, mm_rc_some, mm_rc_none, pk_mul, nI_add, mm_in_t, nI_clamp, ok0, ok1, ok2, ok3, ok4, n1_0, n0_0, nI_le_, nI_lt_, if_true, if_false, not_true, not_false_eq_true, ce_lt, ce_cl, hf_lt, hf_cl, n0_zz, wp_al0 (y := zX6_kind) dX6_kind_0, wp_iconst (y := zX6_kind) (nI 0) ki_0 dX6_kind_1, wp_putf (y := zX6_kind) kF6_44 rfl dX6_kind_2, wp_il2 (y := zX6_kind) dX6_kind_5, wp_i2l (y := zX6_kind) dX6_kind_6, wp_lconst (y := zX6_kind) (0) kl_0 dX6_kind_7, wp_ldc2 (y := zX6_kind) kL6_253 dX6_kind_8, wp_in (y := zX6_kind) rfl kP6_48 (by decide) dX6_kind_11, wp_if_eq (y := zX6_kind) 35 (by decide) dX6_kind_14, wp_ldc (y := zX6_kind) kC6_252 dX6_kind_35, wp_ireti (y := zX6_kind) rfl dX6_kind_37, O.oc, O.g0, O.g1, O.g2, O.g3, O.g4, O.g5, O.g6, O.g7, O.g9, O.g10, O.g11, O.p0, O.p7, O.a1, O.a2, O.a3, O.a4, O.a5, O.a6, O.a7, O.a8, O.a9, ee]
  exact fin
end MKE
