section MKP
variable {sh : mm_Sh} {m : Nat} {M : Ms} {μ μ' : mm_U} {s : Fo} {Q : Option Value → mm_U → Prop} {K : Fin 2 → Option Fo}
/-- what the model keeps -/
def KeR (K : Fin 2 → Option Fo) (μ : mm_U) (m : Nat) : Prop := ∀ j : Fin 2, match K j with
  | none => μ (m + 4) j.val = nI 0
  | some s => μ (m + 4) j.val = nI 1 ∧ MeR s.1 (fun i => μ (m + 3) (1786 * j.val + i)) ∧ OtR s (nI 0) (fun i => μ (m + 3) (1786 * j.val + i)) ∧ Inv s.1
theorem KeR.cg (h : KeR K μ m) (e3 : μ' (m + 3) = μ (m + 3)) (e4 : μ' (m + 4) = μ (m + 4)) : KeR K μ' m := by
  unfold KeR
  rw [e3, e4]
  exact h
theorem KeR.no (h : KeR K μ m) {j : Fin 2} (e : K j = none) : μ (m + 4) j.val = nI 0 := by
  have := h j
  rw [e] at this
  exact this
theorem KeR.is (h : KeR K μ m) {j : Fin 2} (e : K j = some s) : μ (m + 4) j.val = nI 1 ∧ MeR s.1 (fun i => μ (m + 3) (1786 * j.val + i)) ∧ OtR s (nI 0) (fun i => μ (m + 3) (1786 * j.val + i)) ∧ Inv s.1 := by
  have := h j
  rw [e] at this
  exact this
theorem KeR.mk (h1 : ∀ j, K j = none → μ (m + 4) j.val = nI 0) (h2 : ∀ (j : Fin 2) s, K j = some s → μ (m + 4) j.val = nI 1 ∧ MeR s.1 (fun i => μ (m + 3) (1786 * j.val + i)) ∧ OtR s (nI 0) (fun i => μ (m + 3) (1786 * j.val + i)) ∧ Inv s.1) : KeR K μ m := fun j => by
  cases e : K j with
  | none => exact h1 j e
  | some s => exact h2 j s e
/-- what keep and again leave -/
def MK (m : Nat) (μ : mm_U) (b : Int32) (s : Fo) (K : Fin 2 → Option Fo) : Option Value → mm_U → Prop := fun r μ' => r = some (.int b) ∧ RepM s μ' m ∧ Inv s.1 ∧ μ' m 7 = nI 0 ∧ KeR K μ' m ∧ ∀ a, m + 5 ≤ a → a ≤ m + 6 → μ' a = μ a
theorem mk_no (g0 : μ m 7 = nI 0) (R : RepM s μ m) (J : Inv s.1) (H : KeR K μ m) : MK m μ (nI 0) s K (some (.int (nI 0))) (mu μ m (upd (μ m) 0 (nI 0))) := ⟨rfl, R.mu0 (nI 0), J, by rw [mu_s, upd_n _ _ (by omega)]; exact g0, H.cg (mu_n _ _ (by omega)) (mu_n _ _ (by omega)), fun a h1 h2 => mu_n _ _ (by omega)⟩
def kpO (k : Int32) : Option (Fin 2) := if k = nI 0 then some 0 else if k = nI 1 then some 1 else none
theorem kpO_none {k : Int32} (h : kpO k = none) : k < 0 ∨ nI 1 < k := by
  unfold kpO at h
  by_cases h0' : k = nI 0
  · rw [if_pos h0'] at h; cases h
  · by_cases h1' : k = nI 1
    · rw [if_neg h0', if_pos h1'] at h; cases h
    · rw [Int32.lt_iff_toInt_lt, Int32.lt_iff_toInt_lt, show (0 : Int32).toInt = 0 from rfl, show (nI 1).toInt = 1 from rfl]
      have a : k.toInt ≠ 0 := fun e => h0' (Int32.toInt_inj.mp (by rw [e]; rfl))
      have b : k.toInt ≠ 1 := fun e => h1' (Int32.toInt_inj.mp (by rw [e]; rfl))
      omega
theorem kpO_some {k : Int32} {j : Fin 2} (h : kpO k = some j) : k = nI j.val := by
  unfold kpO at h
  by_cases h0' : k = nI 0
  · rw [if_pos h0'] at h; cases h; exact h0'
  · by_cases h1' : k = nI 1
    · rw [if_neg h0', if_pos h1'] at h; cases h; exact h1'
    · rw [if_neg h0', if_neg h1'] at h; cases h
theorem m_keep (O : MoSh sh m) (R : RepM s μ m) (J : Inv s.1) (g0 : μ m 7 = nI 0) (H : KeR K μ m) (k : Int32) : cl sh zX6_keep [.ref m, .int k] μ (match kpO k with
    | none => MK m μ (nI 0) s K
    | some j => MK m μ (nI 1) s (fu K j (some s))) := by
  have R0 := R.mu0 (nI 0)
  show wp sh zX6_keep 0 [.ref m, .int k] [] μ _
  cases e : kpO k with
  | none =>
    have i0 : mm_isin k.toInt64 0 1 = nI 0 := isin_an (lo := 0) (hi := nI 1) rfl rfl (kpO_none e)
    have fin := mk_no g0 R J H
    dsimp only
    generalize MK m μ (nI 0) s K = QQ at fin ⊢
    simp (disch := first | omega | assumption) only [mm_op_some, true_and, and_true, mm_rc_some, mm_rc_none, pk_mul, nI_add, mm_in_t, nI_clamp, ok0, ok1, ok2, ok3, ok4, n1_0, n0_0, nI_le_, nI_lt_, if_true, if_false, not_true, not_false_eq_true, ce_lt, ce_cl, hf_lt, hf_cl, n0_zz, n1_zz, wp_al0 (y := zX6_keep) dX6_keep_0, wp_iconst (y := zX6_keep) (nI 0) ki_0 dX6_keep_1, wp_putf (y := zX6_keep) kF6_44 rfl dX6_keep_2, wp_il1 (y := zX6_keep) dX6_keep_5, wp_i2l (y := zX6_keep) dX6_keep_6, wp_lconst (y := zX6_keep) (0) kl_0 dX6_keep_7, wp_lconst (y := zX6_keep) (1) kl_1 dX6_keep_8, wp_in (y := zX6_keep) rfl kP6_48 (by decide) dX6_keep_9, wp_if_ne (y := zX6_keep) 17 (by decide) dX6_keep_12, wp_iconst (y := zX6_keep) (nI 0) ki_0 dX6_keep_15, wp_iretz (y := zX6_keep) rfl dX6_keep_16, O.oc, O.g0, O.g1, O.g2, O.g3, O.g4, O.g5, O.g6, O.g7, O.g9, O.g10, O.g11, O.p0, O.p7, O.a1, O.a2, O.a3, O.a4, O.a5, O.a6, O.a7, O.a8, O.a9, i0, true_or, true_and]
    exact fin
  | some j =>
    have ek := kpO_some e
    subst ek
    have jb := j.isLt
    have i0 : mm_isin (nI j.val).toInt64 0 1 = nI 1 := isin_n (a := 0) (b := 1) (by omega) rfl rfl (by omega)
    have EC : ∀ Q', cl sh zX6_copy [.ref (m + 1), .int (nI 0), .ref (m + 3), .int (nI (1786 * j.val))] (mu μ m (upd (μ m) 0 (nI 0))) Q' = Q' none (mu (mu μ m (upd (μ m) 0 (nI 0))) (m + 3) (cpR ((mu μ m (upd (μ m) 0 (nI 0))) (m + 1)) ((mu μ m (upd (μ m) 0 (nI 0))) (m + 3)) 0 (1786 * j.val) 1786)) := fun Q' => m_copy O.a1 O.a3 (by omega) (by omega) (by omega) (by omega) (by omega)
    have fin : MK m μ (nI 1) s (fu K j (some s)) (some (.int (nI 1))) (mu (mu (mu μ m (upd (μ m) 0 (nI 0))) (m + 3) (cpR ((mu μ m (upd (μ m) 0 (nI 0))) (m + 1)) ((mu μ m (upd (μ m) 0 (nI 0))) (m + 3)) 0 (1786 * j.val) 1786)) (m + 4) (upd (mu (mu μ m (upd (μ m) 0 (nI 0))) (m + 3) (cpR ((mu μ m (upd (μ m) 0 (nI 0))) (m + 1)) ((mu μ m (upd (μ m) 0 (nI 0))) (m + 3)) 0 (1786 * j.val) 1786) (m + 4)) j.val (nI 1))) := by
      have sm : ∀ a, a ≠ m + 3 → a ≠ m + 4 → (mu (mu (mu μ m (upd (μ m) 0 (nI 0))) (m + 3) (cpR ((mu μ m (upd (μ m) 0 (nI 0))) (m + 1)) ((mu μ m (upd (μ m) 0 (nI 0))) (m + 3)) 0 (1786 * j.val) 1786)) (m + 4) (upd (mu (mu μ m (upd (μ m) 0 (nI 0))) (m + 3) (cpR ((mu μ m (upd (μ m) 0 (nI 0))) (m + 1)) ((mu μ m (upd (μ m) 0 (nI 0))) (m + 3)) 0 (1786 * j.val) 1786) (m + 4)) j.val (nI 1))) a = (mu μ m (upd (μ m) 0 (nI 0))) a := fun a h1 h2 => by rw [mu_n _ _ h2, mu_n _ _ h1]
      refine ⟨rfl, ?_, J, ?_, KeR.mk (fun i ei => ?_) (fun i t ei => ?_), fun a h1 h2 => ?_⟩
      · unfold RepM
        rw [sm (m + 1) (by omega) (by omega), sm m (by omega) (by omega)]
        exact R0
      · rw [sm m (by omega) (by omega), mu_s, upd_n _ _ (by omega)]
        exact g0
      · by_cases z : i = j
        · rw [z, fu_s] at ei
          cases ei
        · rw [fu_n _ _ z] at ei
          rw [mu_s, upd_n _ _ (fun q => z (Fin.ext q)), mu_n _ _ (by omega), mu_n _ _ (by omega)]
          exact H.no ei
      · have rd : ∀ x, (mu (mu (mu μ m (upd (μ m) 0 (nI 0))) (m + 3) (cpR ((mu μ m (upd (μ m) 0 (nI 0))) (m + 1)) ((mu μ m (upd (μ m) 0 (nI 0))) (m + 3)) 0 (1786 * j.val) 1786)) (m + 4) (upd (mu (mu μ m (upd (μ m) 0 (nI 0))) (m + 3) (cpR ((mu μ m (upd (μ m) 0 (nI 0))) (m + 1)) ((mu μ m (upd (μ m) 0 (nI 0))) (m + 3)) 0 (1786 * j.val) 1786) (m + 4)) j.val (nI 1))) (m + 3) x = cpR ((mu μ m (upd (μ m) 0 (nI 0))) (m + 1)) ((mu μ m (upd (μ m) 0 (nI 0))) (m + 3)) 0 (1786 * j.val) 1786 x := fun x => by rw [mu_n _ _ (by omega), mu_s]
        by_cases z : i = j
        · subst z
          rw [fu_s] at ei
          cases ei
          have row : ∀ x, x < 1786 → cpR ((mu μ m (upd (μ m) 0 (nI 0))) (m + 1)) ((mu μ m (upd (μ m) 0 (nI 0))) (m + 3)) 0 (1786 * i.val) 1786 (1786 * i.val + x) = (mu μ m (upd (μ m) 0 (nI 0))) (m + 1) x := fun x hx => by
            unfold cpR
            rw [if_pos (by omega)]
            congr 1
            omega
          refine ⟨by rw [mu_s, upd_s], R0.1.cg (fun x _ hx => by rw [rd]; exact row x (by omega)), ?_, J⟩
          have q := R0.2
          rw [show (mu μ m (upd (μ m) 0 (nI 0))) m 7 = nI 0 by rw [mu_s, upd_n _ _ (by omega)]; exact g0] at q
          exact q.cgb (fun x hx => by rw [rd]; exact row x hx)
        · rw [fu_n _ _ z] at ei
          obtain ⟨a1, a2, a3, a4⟩ := H.is ei
          have zv : i.val ≠ j.val := fun q => z (Fin.ext q)
          have row : ∀ x, x < 1786 → cpR ((mu μ m (upd (μ m) 0 (nI 0))) (m + 1)) ((mu μ m (upd (μ m) 0 (nI 0))) (m + 3)) 0 (1786 * j.val) 1786 (1786 * i.val + x) = μ (m + 3) (1786 * i.val + x) := fun x hx => by
            unfold cpR
            rw [if_neg (by have := i.isLt; omega), mu_n _ _ (by omega)]
          refine ⟨by rw [mu_s, upd_n _ _ zv, mu_n _ _ (by omega), mu_n _ _ (by omega)]; exact a1, a2.cg (fun x _ hx => by rw [rd]; exact row x (by omega)), a3.cgb (fun x hx => by rw [rd]; exact row x hx), a4⟩
      · rw [sm a (by omega) (by omega), mu_n _ _ (by omega)]
    dsimp only
    generalize MK m μ (nI 1) s (fu K j (some s)) = QQ at fin ⊢
    have n11 : (nI 1 = (1 : Int32)) = True := eq_true rfl
    simp (disch := first | omega | assumption) only [mm_op_some, true_and, and_true, mm_rc_some, mm_rc_none, pk_mul, nI_add, mm_in_t, nI_clamp, ok0, ok1, ok2, ok3, ok4, n1_0, n0_0, nI_le_, nI_lt_, if_true, if_false, not_true, not_false_eq_true, ce_lt, ce_cl, hf_lt, hf_cl, n0_zz, n1_zz, wp_al0 (y := zX6_keep) dX6_keep_0, wp_iconst (y := zX6_keep) (nI 0) ki_0 dX6_keep_1, wp_putf (y := zX6_keep) kF6_44 rfl dX6_keep_2, wp_il1 (y := zX6_keep) dX6_keep_5, wp_i2l (y := zX6_keep) dX6_keep_6, wp_lconst (y := zX6_keep) (0) kl_0 dX6_keep_7, wp_lconst (y := zX6_keep) (1) kl_1 dX6_keep_8, wp_in (y := zX6_keep) rfl kP6_48 (by decide) dX6_keep_9, wp_if_ne (y := zX6_keep) 17 (by decide) dX6_keep_12, wp_al0 (y := zX6_keep) dX6_keep_17, wp_getf (y := zX6_keep) kF6_9 dX6_keep_18, wp_iconst (y := zX6_keep) (nI 0) ki_0 dX6_keep_21, wp_al0 (y := zX6_keep) dX6_keep_22, wp_getf (y := zX6_keep) kF6_18 dX6_keep_23, wp_sipush (y := zX6_keep) (nI 1786) ks_1786 dX6_keep_26, wp_il1 (y := zX6_keep) dX6_keep_29, wp_imul (y := zX6_keep) dX6_keep_30, wp_cs_riri (y := zX6_keep) kM6_52 (by decide) dX6_keep_31, wp_al0 (y := zX6_keep) dX6_keep_34, wp_getf (y := zX6_keep) kF6_21 dX6_keep_35, wp_il1 (y := zX6_keep) dX6_keep_38, wp_iconst (y := zX6_keep) (nI 1) ki_1 dX6_keep_39, O.oc, O.g0, O.g1, O.g2, O.g3, O.g4, O.g5, O.g6, O.g7, O.g9, O.g10, O.g11, O.p0, O.p7, O.a1, O.a2, O.a3, O.a4, O.a5, O.a6, O.a7, O.a8, O.a9, i0, EC]
    rw [wp_bast (v := nI 1) (Or.inr rfl) dX6_keep_40]
    simp (disch := first | omega | assumption) only [mm_op_some, true_and, and_true, mm_rc_some, mm_rc_none, pk_mul, nI_add, mm_in_t, nI_clamp, ok0, ok1, ok2, ok3, ok4, n1_0, n0_0, nI_le_, nI_lt_, if_true, if_false, not_true, not_false_eq_true, ce_lt, ce_cl, hf_lt, hf_cl, n0_zz, n1_zz, wp_iconst (y := zX6_keep) (nI 1) ki_1 dX6_keep_41, wp_iretz (y := zX6_keep) rfl dX6_keep_42, O.b4, or_true, n11]
    exact fin
theorem m_again (O : MoSh sh m) (R : RepM s μ m) (J : Inv s.1) (g0 : μ m 7 = nI 0) (H : KeR K μ m) (k : Int32) : cl sh zX6_again [.ref m, .int k] μ (match kpO k with
    | none => MK m μ (nI 0) s K
    | some j => match K j with
      | none => MK m μ (nI 0) s K
      | some t => MK m μ (nI 1) t K) := by
  have R0 := R.mu0 (nI 0)
  show wp sh zX6_again 0 [.ref m, .int k] [] μ _
  cases e : kpO k with
  | none =>
    have i0 : mm_isin k.toInt64 0 1 = nI 0 := isin_an (lo := 0) (hi := nI 1) rfl rfl (kpO_none e)
    have fin := mk_no g0 R J H
    dsimp only
    generalize MK m μ (nI 0) s K = QQ at fin ⊢
    simp (disch := first | omega | assumption) only [mm_op_some, true_and, and_true, mm_rc_some, mm_rc_none, pk_mul, nI_add, mm_in_t, nI_clamp, ok0, ok1, ok2, ok3, ok4, n1_0, n0_0, nI_le_, nI_lt_, if_true, if_false, not_true, not_false_eq_true, ce_lt, ce_cl, hf_lt, hf_cl, n0_zz, n1_zz, wp_al0 (y := zX6_again) dX6_again_0, wp_iconst (y := zX6_again) (nI 0) ki_0 dX6_again_1, wp_putf (y := zX6_again) kF6_44 rfl dX6_again_2, wp_il1 (y := zX6_again) dX6_again_5, wp_i2l (y := zX6_again) dX6_again_6, wp_lconst (y := zX6_again) (0) kl_0 dX6_again_7, wp_lconst (y := zX6_again) (1) kl_1 dX6_again_8, wp_in (y := zX6_again) rfl kP6_48 (by decide) dX6_again_9, wp_if_eq (y := zX6_again) 24 (by decide) dX6_again_12, wp_iconst (y := zX6_again) (nI 0) ki_0 dX6_again_24, wp_iretz (y := zX6_again) rfl dX6_again_25, O.oc, O.g0, O.g1, O.g2, O.g3, O.g4, O.g5, O.g6, O.g7, O.g9, O.g10, O.g11, O.p0, O.p7, O.a1, O.a2, O.a3, O.a4, O.a5, O.a6, O.a7, O.a8, O.a9, i0, true_or, true_and]
    exact fin
  | some j =>
    have ek := kpO_some e
    subst ek
    have jb := j.isLt
    have i0 : mm_isin (nI j.val).toInt64 0 1 = nI 1 := isin_n (a := 0) (b := 1) (by omega) rfl rfl (by omega)
    dsimp only
    cases ej : K j with
    | none =>
      have q1 := H.no ej
      have q1 : (mu μ m (upd (μ m) 0 (nI 0))) (m + 4) j.val = nI 0 := by rw [mu_n _ _ (by omega)]; exact q1
      have fin := mk_no g0 R J H
      dsimp only
      generalize MK m μ (nI 0) s K = QQ at fin ⊢
      simp (disch := first | omega | assumption) only [mm_op_some, true_and, and_true, mm_rc_some, mm_rc_none, pk_mul, nI_add, mm_in_t, nI_clamp, ok0, ok1, ok2, ok3, ok4, n1_0, n0_0, nI_le_, nI_lt_, if_true, if_false, not_true, not_false_eq_true, ce_lt, ce_cl, hf_lt, hf_cl, n0_zz, n1_zz, wp_al0 (y := zX6_again) dX6_again_0, wp_iconst (y := zX6_again) (nI 0) ki_0 dX6_again_1, wp_putf (y := zX6_again) kF6_44 rfl dX6_again_2, wp_il1 (y := zX6_again) dX6_again_5, wp_i2l (y := zX6_again) dX6_again_6, wp_lconst (y := zX6_again) (0) kl_0 dX6_again_7, wp_lconst (y := zX6_again) (1) kl_1 dX6_again_8, wp_in (y := zX6_again) rfl kP6_48 (by decide) dX6_again_9, wp_if_eq (y := zX6_again) 24 (by decide) dX6_again_12, wp_al0 (y := zX6_again) dX6_again_15, wp_getf (y := zX6_again) kF6_21 dX6_again_16, wp_il1 (y := zX6_again) dX6_again_19, wp_bald (y := zX6_again) dX6_again_20, wp_if_ne (y := zX6_again) 26 (by decide) dX6_again_21, wp_iconst (y := zX6_again) (nI 0) ki_0 dX6_again_24, wp_iretz (y := zX6_again) rfl dX6_again_25, O.oc, O.g0, O.g1, O.g2, O.g3, O.g4, O.g5, O.g6, O.g7, O.g9, O.g10, O.g11, O.p0, O.p7, O.a1, O.a2, O.a3, O.a4, O.a5, O.a6, O.a7, O.a8, O.a9, O.b4, i0, q1, true_or, true_and]
      exact fin
    | some t =>
      obtain ⟨a1, a2, a3, a4⟩ := H.is ej
      have q1 : (mu μ m (upd (μ m) 0 (nI 0))) (m + 4) j.val = nI 1 := by rw [mu_n _ _ (by omega)]; exact a1
      have EC : ∀ Q', cl sh zX6_copy [.ref (m + 3), .int (nI (1786 * j.val)), .ref (m + 1), .int (nI 0)] (mu μ m (upd (μ m) 0 (nI 0))) Q' = Q' none (mu (mu μ m (upd (μ m) 0 (nI 0))) (m + 1) (cpR ((mu μ m (upd (μ m) 0 (nI 0))) (m + 3)) ((mu μ m (upd (μ m) 0 (nI 0))) (m + 1)) (1786 * j.val) 0 1786)) := fun Q' => m_copy O.a3 O.a1 (by omega) (by omega) (by omega) (by omega) (by omega)
      have fin : MK m μ (nI 1) t K (some (.int (nI 1))) (mu (mu μ m (upd (μ m) 0 (nI 0))) (m + 1) (cpR ((mu μ m (upd (μ m) 0 (nI 0))) (m + 3)) ((mu μ m (upd (μ m) 0 (nI 0))) (m + 1)) (1786 * j.val) 0 1786)) := by
        have row : ∀ x, x < 1786 → cpR ((mu μ m (upd (μ m) 0 (nI 0))) (m + 3)) ((mu μ m (upd (μ m) 0 (nI 0))) (m + 1)) (1786 * j.val) 0 1786 x = μ (m + 3) (1786 * j.val + x) := fun x hx => by
          unfold cpR
          rw [if_pos (by omega), mu_n _ _ (by omega)]
          congr 1
        refine ⟨rfl, ⟨?_, ?_⟩, a4, ?_, H.cg ?_ ?_, fun a h1 h2 => ?_⟩
        · rw [mu_s]
          exact a2.cg (fun x _ hx => row x (by omega))
        · rw [mu_s, mu_n _ _ (by omega), show (mu μ m (upd (μ m) 0 (nI 0))) m 7 = nI 0 by rw [mu_s, upd_n _ _ (by omega)]; exact g0]
          exact a3.cgb row
        · rw [mu_n _ _ (by omega), mu_s, upd_n _ _ (by omega)]
          exact g0
        · rw [mu_n _ _ (by omega), mu_n _ _ (by omega)]
        · rw [mu_n _ _ (by omega), mu_n _ _ (by omega)]
        · rw [mu_n _ _ (by omega), mu_n _ _ (by omega)]
      dsimp only
      generalize MK m μ (nI 1) t K = QQ at fin ⊢
      have n11 : (nI 1 = (1 : Int32)) = True := eq_true rfl
      simp (disch := first | omega | assumption) only [mm_op_some, true_and, and_true, mm_rc_some, mm_rc_none, pk_mul, nI_add, mm_in_t, nI_clamp, ok0, ok1, ok2, ok3, ok4, n1_0, n0_0, nI_le_, nI_lt_, if_true, if_false, not_true, not_false_eq_true, ce_lt, ce_cl, hf_lt, hf_cl, n0_zz, n1_zz, wp_al0 (y := zX6_again) dX6_again_0, wp_iconst (y := zX6_again) (nI 0) ki_0 dX6_again_1, wp_putf (y := zX6_again) kF6_44 rfl dX6_again_2, wp_il1 (y := zX6_again) dX6_again_5, wp_i2l (y := zX6_again) dX6_again_6, wp_lconst (y := zX6_again) (0) kl_0 dX6_again_7, wp_lconst (y := zX6_again) (1) kl_1 dX6_again_8, wp_in (y := zX6_again) rfl kP6_48 (by decide) dX6_again_9, wp_if_eq (y := zX6_again) 24 (by decide) dX6_again_12, wp_al0 (y := zX6_again) dX6_again_15, wp_getf (y := zX6_again) kF6_21 dX6_again_16, wp_il1 (y := zX6_again) dX6_again_19, wp_bald (y := zX6_again) dX6_again_20, wp_if_ne (y := zX6_again) 26 (by decide) dX6_again_21, wp_al0 (y := zX6_again) dX6_again_26, wp_getf (y := zX6_again) kF6_18 dX6_again_27, wp_sipush (y := zX6_again) (nI 1786) ks_1786 dX6_again_30, wp_il1 (y := zX6_again) dX6_again_33, wp_imul (y := zX6_again) dX6_again_34, wp_al0 (y := zX6_again) dX6_again_35, wp_getf (y := zX6_again) kF6_9 dX6_again_36, wp_iconst (y := zX6_again) (nI 0) ki_0 dX6_again_39, wp_cs_riri (y := zX6_again) kM6_52 (by decide) dX6_again_40, wp_iconst (y := zX6_again) (nI 1) ki_1 dX6_again_43, wp_iretz (y := zX6_again) rfl dX6_again_44, O.oc, O.g0, O.g1, O.g2, O.g3, O.g4, O.g5, O.g6, O.g7, O.g9, O.g10, O.g11, O.p0, O.p7, O.a1, O.a2, O.a3, O.a4, O.a5, O.a6, O.a7, O.a8, O.a9, O.b4, i0, q1, EC, false_or, n11]
      exact fin
end MKP
