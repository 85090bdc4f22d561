/-! ===== the diary ===== -/
abbrev Le : Type := Int32 × Int32 × Int32
def DiSh (sh : mm_Sh) (d : Nat) : Prop := sh d = .inr (0, [some (.inl (d + 1)), some (.inl (d + 2)), some (.inl (d + 3)), none, none]) ∧ sh (d + 1) = .inl (0, 30) ∧ sh (d + 2) = .inl (0, 30) ∧ sh (d + 3) = .inl (0, 30)
/-- the log, the newest first -/
def RepD (L : List Le) (μ : mm_U) (d : Nat) : Prop := L.length ≤ 30 ∧ μ d 3 = nI L.length ∧ ∃ l, l < 30 ∧ μ d 4 = nI l ∧ ∀ i e, L[i]? = some e → μ (d + 1) ((l + 30 - i) % 30) = e.1 ∧ μ (d + 2) ((l + 30 - i) % 30) = e.2.1 ∧ μ (d + 3) ((l + 30 - i) % 30) = e.2.2
/-- nothing outside the diary at d has changed -/
def FrD (μ μ' : mm_U) (d : Nat) : Prop := ∀ a, (a < d ∨ d + 3 < a) → μ' a = μ a
theorem FrD.refl (μ : mm_U) (d : Nat) : FrD μ μ d := fun _ _ => rfl
theorem FrD.mu {μ μ1 : mm_U} {d a : Nat} (h : FrD μ μ1 d) (f : Nat → Int32) (h1 : d ≤ a) (h2 : a ≤ d + 3) : FrD μ (mu μ1 a f) d := fun q hq => by
  rw [mu_n _ _ (by omega)]
  exact h q hq
theorem m30 : ∀ l : Fin 30, nI (l.val + 1) - nI (l.val + 1) / nI 30 * nI 30 = nI ((l.val + 1) % 30) := by decide +kernel
theorem f30 : ∀ l i : Fin 30, fmI (nI l.val - nI i.val) (nI 30) = nI ((l.val + 30 - i.val) % 30) := by decide +kernel
section DI
variable {sh : mm_Sh} {d : Nat} {μ : mm_U} {L : List Le} {Q : Option Value → mm_U → Prop}
theorem DiSh.oc (D : DiSh sh d) : (mm_oc sh d 0 = true) = True := by unfold mm_oc; rw [D.1]; exact eq_true rfl
theorem DiSh.g0 (D : DiSh sh d) (μ : mm_U) : mm_gf sh μ d 0 0 = some (.ref (d + 1)) := by unfold mm_gf mm_oc mm_fd; rw [D.1]; rfl
theorem DiSh.g1 (D : DiSh sh d) (μ : mm_U) : mm_gf sh μ d 0 1 = some (.ref (d + 2)) := by unfold mm_gf mm_oc mm_fd; rw [D.1]; rfl
theorem DiSh.g2 (D : DiSh sh d) (μ : mm_U) : mm_gf sh μ d 0 2 = some (.ref (d + 3)) := by unfold mm_gf mm_oc mm_fd; rw [D.1]; rfl
theorem DiSh.g3 (D : DiSh sh d) (μ : mm_U) : mm_gf sh μ d 0 3 = some (.int (μ d 3)) := by unfold mm_gf mm_oc mm_fd; rw [D.1]; rfl
theorem DiSh.g4 (D : DiSh sh d) (μ : mm_U) : mm_gf sh μ d 0 4 = some (.int (μ d 4)) := by unfold mm_gf mm_oc mm_fd; rw [D.1]; rfl
theorem DiSh.p3 (D : DiSh sh d) (μ : mm_U) (x : Int32) : mm_pf sh μ d 0 3 (.int x) = some (mu μ d (upd (μ d) 3 x)) := by unfold mm_pf mm_oc mm_fd; rw [D.1]; rfl
theorem DiSh.p4 (D : DiSh sh d) (μ : mm_U) (x : Int32) : mm_pf sh μ d 0 4 (.int x) = some (mu μ d (upd (μ d) 4 x)) := by unfold mm_pf mm_oc mm_fd; rw [D.1]; rfl
theorem DiSh.a1 (D : DiSh sh d) : mm_al sh (d + 1) = 30 := by unfold mm_al; rw [D.2.1]; rfl
theorem DiSh.a2 (D : DiSh sh d) : mm_al sh (d + 2) = 30 := by unfold mm_al; rw [D.2.2.1]; rfl
theorem DiSh.a3 (D : DiSh sh d) : mm_al sh (d + 3) = 30 := by unfold mm_al; rw [D.2.2.2]; rfl
theorem c_diClear (D : DiSh sh d) : cl sh zX0_clear [.ref d] μ (fun r μ' => r = none ∧ RepD [] μ' d ∧ FrD μ μ' d) := by
  show wp sh zX0_clear 0 [.ref d] [] μ _
  simp (disch := first | omega | assumption) only [wp_al0 (y := zX0_clear) dX0_clear_0, wp_iconst (y := zX0_clear) (nI 0) ki_0 dX0_clear_1, wp_putf (y := zX0_clear) kF0_21 rfl dX0_clear_2, wp_al0 (y := zX0_clear) dX0_clear_5, wp_iconst (y := zX0_clear) (nI 0) ki_0 dX0_clear_6, wp_putf (y := zX0_clear) kF0_25 rfl dX0_clear_7, wp_vret (y := zX0_clear) rfl dX0_clear_10, mm_op_some, true_and, and_true, mm_rc_some, mm_rc_none, nI_xor, tw_xor, pk_mul, nI_add, mm_in_t, nI_clamp, ok0, ok1, ok2, ok3, ok4, n1_0, n0_0, n0_zz, n1_zz, bI_eq0, bI_ne0, bI_zz, nI_le_, nI_lt_, nI_eq_, nI_lt0, nI_ge0, nI_gt0, nI_le0, nI_eq0, m1_lt0, m1_ge0, if_true, if_false, not_true, not_false_eq_true, Classical.not_not, true_or, or_true, false_or, n1_1, k10, Bool.true_eq_false, Bool.false_eq_true, Nat.le_refl, and_self, and_false, false_and, or_self, or_false, i_irr, i_rfl, D.oc, D.g0, D.g1, D.g2, D.g3, D.g4, D.p3, D.p4, D.a1, D.a2, D.a3, mu_s, mu_n, upd_s, upd_n]
  refine ⟨⟨Nat.zero_le _, ?_, 0, by omega, ?_, fun i e h => ?_⟩, ((FrD.refl μ d).mu _ (by omega) (by omega)).mu _ (by omega) (by omega)⟩
  · rw [mu_s, upd_n _ _ (by omega), upd_s]; rfl
  · rw [mu_s, upd_s]
  · cases h
theorem c_diWrite (D : DiSh sh d) (R : RepD L μ d) (x y z : Int32) : cl sh zX0_write [.ref d, .int x, .int y, .int z] μ (fun r μ' => r = none ∧ RepD (((x, y, z) :: L).take 30) μ' d ∧ FrD μ μ' d) := by
  obtain ⟨n30, r3, l, hl, r4, re⟩ := R
  have k30 : ¬ nI 30 = 0 := by decide
  have em := m30 ⟨l, hl⟩
  dsimp only at em
  have hm : (l + 1) % 30 < 30 := Nat.mod_lt _ (by omega)
  have n3 : (3 : Nat) ≠ 4 := by decide
  have n4 : (4 : Nat) ≠ 3 := by decide
  have fin : ∀ μ1 : mm_U, μ1 d 3 = nI (((x, y, z) :: L).take 30).length → μ1 d 4 = nI ((l + 1) % 30) → μ1 (d + 1) = upd (μ (d + 1)) ((l + 1) % 30) x → μ1 (d + 2) = upd (μ (d + 2)) ((l + 1) % 30) y → μ1 (d + 3) = upd (μ (d + 3)) ((l + 1) % 30) z → RepD (((x, y, z) :: L).take 30) μ1 d := by
    intro μ1 a1 a2 a3 a4 a5
    refine ⟨by rw [List.length_take]; omega, a1, (l + 1) % 30, hm, a2, fun i e hi => ?_⟩
    rw [a3, a4, a5]
    rw [List.getElem?_take] at hi
    by_cases h30 : i < 30
    · rw [if_pos h30] at hi
      cases i with
      | zero =>
        cases hi
        have : ((l + 1) % 30 + 30 - 0) % 30 = (l + 1) % 30 := by omega
        rw [this, upd_s, upd_s, upd_s]
        exact ⟨rfl, rfl, rfl⟩
      | succ i =>
        have hi' : L[i]? = some e := hi
        have e1 : ((l + 1) % 30 + 30 - (i + 1)) % 30 = (l + 30 - i) % 30 := by omega
        have e2 : (l + 30 - i) % 30 ≠ (l + 1) % 30 := by omega
        rw [e1, upd_n _ _ e2, upd_n _ _ e2, upd_n _ _ e2]
        exact re i e hi'
    · rw [if_neg h30] at hi
      cases hi
  show wp sh zX0_write 0 [.ref d, .int x, .int y, .int z] [] μ _
  by_cases h30 : L.length < 30
  · have h31 : (30 ≤ L.length) = False := eq_false (by omega)
    simp (disch := first | omega | assumption) only [wp_al0 (y := zX0_write) dX0_write_0, wp_al0 (y := zX0_write) dX0_write_1, wp_getf (y := zX0_write) kF0_25 dX0_write_2, wp_iconst (y := zX0_write) (nI 1) ki_1 dX0_write_5, wp_iadd (y := zX0_write) dX0_write_6, wp_bipush (y := zX0_write) (nI 30) kb_30 dX0_write_7, wp_irem' (y := zX0_write) dX0_write_9, wp_putf (y := zX0_write) kF0_25 rfl dX0_write_10, wp_al0 (y := zX0_write) dX0_write_13, wp_getf (y := zX0_write) kF0_9 dX0_write_14, wp_al0 (y := zX0_write) dX0_write_17, wp_getf (y := zX0_write) kF0_25 dX0_write_18, wp_il1 (y := zX0_write) dX0_write_21, wp_iast (y := zX0_write) dX0_write_22, wp_al0 (y := zX0_write) dX0_write_23, wp_getf (y := zX0_write) kF0_15 dX0_write_24, wp_al0 (y := zX0_write) dX0_write_27, wp_getf (y := zX0_write) kF0_25 dX0_write_28, wp_il2 (y := zX0_write) dX0_write_31, wp_iast (y := zX0_write) dX0_write_32, wp_al0 (y := zX0_write) dX0_write_33, wp_getf (y := zX0_write) kF0_18 dX0_write_34, wp_al0 (y := zX0_write) dX0_write_37, wp_getf (y := zX0_write) kF0_25 dX0_write_38, wp_il3 (y := zX0_write) dX0_write_41, wp_iast (y := zX0_write) dX0_write_42, wp_al0 (y := zX0_write) dX0_write_43, wp_getf (y := zX0_write) kF0_21 dX0_write_44, wp_bipush (y := zX0_write) (nI 30) kb_30 dX0_write_47, wp_icmp_ge (y := zX0_write) 62 (by decide) dX0_write_49, wp_al0 (y := zX0_write) dX0_write_52, wp_dup_int (y := zX0_write) dX0_write_53, wp_dup_ref (y := zX0_write) dX0_write_53, wp_getf (y := zX0_write) kF0_21 dX0_write_54, wp_iconst (y := zX0_write) (nI 1) ki_1 dX0_write_57, wp_iadd (y := zX0_write) dX0_write_58, wp_putf (y := zX0_write) kF0_21 rfl dX0_write_59, wp_vret (y := zX0_write) rfl dX0_write_62, mm_op_some, true_and, and_true, mm_rc_some, mm_rc_none, nI_xor, tw_xor, pk_mul, nI_add, mm_in_t, nI_clamp, ok0, ok1, ok2, ok3, ok4, n1_0, n0_0, n0_zz, n1_zz, bI_eq0, bI_ne0, bI_zz, nI_le_, nI_lt_, nI_eq_, nI_lt0, nI_ge0, nI_gt0, nI_le0, nI_eq0, m1_lt0, m1_ge0, if_true, if_false, not_true, not_false_eq_true, Classical.not_not, true_or, or_true, false_or, n1_1, k10, Bool.true_eq_false, Bool.false_eq_true, Nat.le_refl, and_self, and_false, false_and, or_self, or_false, i_irr, i_rfl, D.oc, D.g0, D.g1, D.g2, D.g3, D.g4, D.p3, D.p4, D.a1, D.a2, D.a3, mu_s, mu_n, upd_s, upd_n, r3, r4, em, k30, n3, n4, h31]
    refine ⟨fin _ ?_ ?_ ?_ ?_ ?_, (((((FrD.refl μ d).mu _ (by omega) (by omega)).mu _ (by omega) (by omega)).mu _ (by omega) (by omega)).mu _ (by omega) (by omega)).mu _ (by omega) (by omega)⟩
    · rw [mu_s, upd_s, List.length_take, List.length_cons]
      congr 1
      omega
    · simp (disch := first | omega | assumption) only [mu_s, mu_n, upd_s, upd_n, n3, n4, ne_eq, not_false_eq_true]
    · simp (disch := first | omega | assumption) only [mu_s, mu_n]
    · simp (disch := first | omega | assumption) only [mu_s, mu_n]
    · simp (disch := first | omega | assumption) only [mu_s, mu_n]
  · have h31 : (30 ≤ L.length) = True := eq_true (by omega)
    simp (disch := first | omega | assumption) only [wp_al0 (y := zX0_write) dX0_write_0, wp_al0 (y := zX0_write) dX0_write_1, wp_getf (y := zX0_write) kF0_25 dX0_write_2, wp_iconst (y := zX0_write) (nI 1) ki_1 dX0_write_5, wp_iadd (y := zX0_write) dX0_write_6, wp_bipush (y := zX0_write) (nI 30) kb_30 dX0_write_7, wp_irem' (y := zX0_write) dX0_write_9, wp_putf (y := zX0_write) kF0_25 rfl dX0_write_10, wp_al0 (y := zX0_write) dX0_write_13, wp_getf (y := zX0_write) kF0_9 dX0_write_14, wp_al0 (y := zX0_write) dX0_write_17, wp_getf (y := zX0_write) kF0_25 dX0_write_18, wp_il1 (y := zX0_write) dX0_write_21, wp_iast (y := zX0_write) dX0_write_22, wp_al0 (y := zX0_write) dX0_write_23, wp_getf (y := zX0_write) kF0_15 dX0_write_24, wp_al0 (y := zX0_write) dX0_write_27, wp_getf (y := zX0_write) kF0_25 dX0_write_28, wp_il2 (y := zX0_write) dX0_write_31, wp_iast (y := zX0_write) dX0_write_32, wp_al0 (y := zX0_write) dX0_write_33, wp_getf (y := zX0_write) kF0_18 dX0_write_34, wp_al0 (y := zX0_write) dX0_write_37, wp_getf (y := zX0_write) kF0_25 dX0_write_38, wp_il3 (y := zX0_write) dX0_write_41, wp_iast (y := zX0_write) dX0_write_42, wp_al0 (y := zX0_write) dX0_write_43, wp_getf (y := zX0_write) kF0_21 dX0_write_44, wp_bipush (y := zX0_write) (nI 30) kb_30 dX0_write_47, wp_icmp_ge (y := zX0_write) 62 (by decide) dX0_write_49, wp_al0 (y := zX0_write) dX0_write_52, wp_dup_int (y := zX0_write) dX0_write_53, wp_dup_ref (y := zX0_write) dX0_write_53, wp_getf (y := zX0_write) kF0_21 dX0_write_54, wp_iconst (y := zX0_write) (nI 1) ki_1 dX0_write_57, wp_iadd (y := zX0_write) dX0_write_58, wp_putf (y := zX0_write) kF0_21 rfl dX0_write_59, wp_vret (y := zX0_write) rfl dX0_write_62, mm_op_some, true_and, and_true, mm_rc_some, mm_rc_none, nI_xor, tw_xor, pk_mul, nI_add, mm_in_t, nI_clamp, ok0, ok1, ok2, ok3, ok4, n1_0, n0_0, n0_zz, n1_zz, bI_eq0, bI_ne0, bI_zz, nI_le_, nI_lt_, nI_eq_, nI_lt0, nI_ge0, nI_gt0, nI_le0, nI_eq0, m1_lt0, m1_ge0, if_true, if_false, not_true, not_false_eq_true, Classical.not_not, true_or, or_true, false_or, n1_1, k10, Bool.true_eq_false, Bool.false_eq_true, Nat.le_refl, and_self, and_false, false_and, or_self, or_false, i_irr, i_rfl, D.oc, D.g0, D.g1, D.g2, D.g3, D.g4, D.p3, D.p4, D.a1, D.a2, D.a3, mu_s, mu_n, upd_s, upd_n, r3, r4, em, k30, n3, n4, h31]
    refine ⟨fin _ ?_ ?_ ?_ ?_ ?_, ((((FrD.refl μ d).mu _ (by omega) (by omega)).mu _ (by omega) (by omega)).mu _ (by omega) (by omega)).mu _ (by omega) (by omega)⟩
    · simp (disch := first | omega | assumption) only [mu_s, mu_n, upd_s, upd_n, n3, n4, ne_eq, not_false_eq_true, r3]
      rw [List.length_take, List.length_cons]
      congr 1
      omega
    · simp (disch := first | omega | assumption) only [mu_s, mu_n, upd_s, upd_n, n3, n4, ne_eq, not_false_eq_true]
    · simp (disch := first | omega | assumption) only [mu_s, mu_n]
    · simp (disch := first | omega | assumption) only [mu_s, mu_n]
    · simp (disch := first | omega | assumption) only [mu_s, mu_n]
/-- what the log says of an entry -/
def lgR (L : List Le) (i what : Int32) : Int32 := if i < 0 then -1 else match L[i.toNatClampNeg]? with
  | none => -1
  | some e => if what = nI 0 then e.1 else if what = nI 1 then e.2.1 else if what = nI 2 then e.2.2 else -1
end DI
