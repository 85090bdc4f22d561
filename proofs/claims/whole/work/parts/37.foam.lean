theorem nI_ofc {i : Int32} (h : ¬ i < 0) : i = nI i.toNatClampNeg ∧ i.toNatClampNeg < 2 ^ 31 := by
  have h0 : 0 ≤ i := by
    rw [Int32.le_iff_toInt_le]
    rw [Int32.lt_iff_toInt_lt] at h
    omega
  refine ⟨(Int32.ofNat_toNatClampNeg i h0).symm, ?_⟩
  have h1 := Int32.toInt_lt i
  have h2 : i.toNatClampNeg = i.toInt.toNat := rfl
  omega
theorem int_ne {a c : Int32} (h : ¬ a = c) : a.toInt ≠ c.toInt := fun q => h (Int32.toInt_inj.mp q)
section DI2
variable {sh : mm_Sh} {d : Nat} {μ : mm_U} {L : List Le} {Q : Option Value → mm_U → Prop}
theorem c_diRead (D : DiSh sh d) (R : RepD L μ d) (i what : Int32) : cl sh zX0_read [.ref d, .int i, .int what] μ Q = Q (some (.int (lgR L i what))) μ := by
  obtain ⟨n30, r3, l, hl, r4, re⟩ := R
  show wp sh zX0_read 0 [.ref d, .int i, .int what, .null] [] μ Q = _
  unfold lgR
  by_cases h1 : i < 0
  · simp (disch := first | omega | assumption) only [wp_il1 (y := zX0_read) dX0_read_0, wp_if_lt (y := zX0_read) 12 (by decide) dX0_read_1, wp_il1 (y := zX0_read) dX0_read_4, wp_al0 (y := zX0_read) dX0_read_5, wp_getf (y := zX0_read) kF0_21 dX0_read_6, wp_icmp_lt (y := zX0_read) 14 (by decide) dX0_read_9, wp_iconst (y := zX0_read) ((-1)) ki_m1 dX0_read_12, wp_ireti (y := zX0_read) rfl dX0_read_13, mm_op_some, true_and, and_true, mm_rc_some, mm_rc_none, nI_xor, tw_xor, pk_mul, nI_add, mm_in_t, nI_clamp, ok0, ok1, ok2, ok3, ok4, n1_0, n0_0, n0_zz, n1_zz, bI_eq0, bI_ne0, bI_zz, nI_le_, nI_lt_, nI_eq_, nI_lt0, nI_ge0, nI_gt0, nI_le0, nI_eq0, m1_lt0, m1_ge0, if_true, if_false, not_true, not_false_eq_true, Classical.not_not, true_or, or_true, false_or, n1_1, k10, Bool.true_eq_false, Bool.false_eq_true, Nat.le_refl, and_self, and_false, false_and, or_self, or_false, i_irr, i_rfl, D.oc, D.g0, D.g1, D.g2, D.g3, D.g4, D.p3, D.p4, D.a1, D.a2, D.a3, h1]
  · obtain ⟨e, hb⟩ := nI_ofc h1
    simp only [h1, if_false]
    generalize i.toNatClampNeg = n at e hb ⊢
    subst e
    by_cases h2 : n < L.length
    · have h3 : L[n]? = some L[n] := List.getElem?_eq_getElem h2
      have h4 : (nI n < nI L.length) = True := eq_true ((nI_lt_ (by omega) (by omega)).mpr h2)
      rw [h3]
      obtain ⟨e1, e2, e3⟩ := re n _ h3
      have ef := f30 ⟨l, hl⟩ ⟨n, by omega⟩
      dsimp only at ef
      have k30 : ¬ nI 30 = 0 := by decide
      have E1 : ∀ Q', cl sh zJ9_floorMod_7cf53 [.int (nI l - nI n), .int (nI 30)] μ Q' = Q' (some (.int (nI ((l + 30 - n) % 30)))) μ := fun Q' => by rw [j_floorMod _ _ k30, ef]
      have hm : (l + 30 - n) % 30 < 30 := Nat.mod_lt _ (by omega)
      simp (disch := first | omega | assumption) only [wp_il1 (y := zX0_read) dX0_read_0, wp_if_lt (y := zX0_read) 12 (by decide) dX0_read_1, wp_il1 (y := zX0_read) dX0_read_4, wp_al0 (y := zX0_read) dX0_read_5, wp_getf (y := zX0_read) kF0_21 dX0_read_6, wp_icmp_lt (y := zX0_read) 14 (by decide) dX0_read_9, wp_iconst (y := zX0_read) ((-1)) ki_m1 dX0_read_12, wp_ireti (y := zX0_read) rfl dX0_read_13, wp_al0 (y := zX0_read) dX0_read_14, wp_getf (y := zX0_read) kF0_25 dX0_read_15, wp_il1 (y := zX0_read) dX0_read_18, wp_isub (y := zX0_read) dX0_read_19, wp_bipush (y := zX0_read) (nI 30) kb_30 dX0_read_20, wp_cs2 (y := zX0_read) kM0_34 (by decide) dX0_read_22, wp_is3 (y := zX0_read) dX0_read_25, wp_il2 (y := zX0_read) dX0_read_26, mm_op_some, true_and, and_true, mm_rc_some, mm_rc_none, nI_xor, tw_xor, pk_mul, nI_add, mm_in_t, nI_clamp, ok0, ok1, ok2, ok3, ok4, n1_0, n0_0, n0_zz, n1_zz, bI_eq0, bI_ne0, bI_zz, nI_le_, nI_lt_, nI_eq_, nI_lt0, nI_ge0, nI_gt0, nI_le0, nI_eq0, m1_lt0, m1_ge0, if_true, if_false, not_true, not_false_eq_true, Classical.not_not, true_or, or_true, false_or, n1_1, k10, Bool.true_eq_false, Bool.false_eq_true, Nat.le_refl, and_self, and_false, false_and, or_self, or_false, i_irr, i_rfl, D.oc, D.g0, D.g1, D.g2, D.g3, D.g4, D.p3, D.p4, D.a1, D.a2, D.a3, r3, r4, E1, h2]
      by_cases w0 : what = nI 0
      · rw [w0, if_pos rfl, wp_tsIn (y := zX0_read) 52 dX0_read_27 (by decide) rfl (by decide)]
        simp (disch := first | omega | assumption) only [wp_al0 (y := zX0_read) dX0_read_52, wp_getf (y := zX0_read) kF0_9 dX0_read_53, wp_il3 (y := zX0_read) dX0_read_56, wp_iald (y := zX0_read) dX0_read_57, wp_ireti (y := zX0_read) rfl dX0_read_58, mm_op_some, true_and, and_true, mm_rc_some, mm_rc_none, nI_xor, tw_xor, pk_mul, nI_add, mm_in_t, nI_clamp, ok0, ok1, ok2, ok3, ok4, n1_0, n0_0, n0_zz, n1_zz, bI_eq0, bI_ne0, bI_zz, nI_le_, nI_lt_, nI_eq_, nI_lt0, nI_ge0, nI_gt0, nI_le0, nI_eq0, m1_lt0, m1_ge0, if_true, if_false, not_true, not_false_eq_true, Classical.not_not, true_or, or_true, false_or, n1_1, k10, Bool.true_eq_false, Bool.false_eq_true, Nat.le_refl, and_self, and_false, false_and, or_self, or_false, i_irr, i_rfl, D.oc, D.g0, D.g1, D.g2, D.g3, D.g4, D.p3, D.p4, D.a1, D.a2, D.a3, e1]
      · rw [if_neg w0]
        by_cases w1 : what = nI 1
        · rw [w1, if_pos rfl, wp_tsIn (y := zX0_read) 59 dX0_read_27 (by decide) rfl (by decide)]
          simp (disch := first | omega | assumption) only [wp_al0 (y := zX0_read) dX0_read_59, wp_getf (y := zX0_read) kF0_15 dX0_read_60, wp_il3 (y := zX0_read) dX0_read_63, wp_iald (y := zX0_read) dX0_read_64, wp_ireti (y := zX0_read) rfl dX0_read_65, mm_op_some, true_and, and_true, mm_rc_some, mm_rc_none, nI_xor, tw_xor, pk_mul, nI_add, mm_in_t, nI_clamp, ok0, ok1, ok2, ok3, ok4, n1_0, n0_0, n0_zz, n1_zz, bI_eq0, bI_ne0, bI_zz, nI_le_, nI_lt_, nI_eq_, nI_lt0, nI_ge0, nI_gt0, nI_le0, nI_eq0, m1_lt0, m1_ge0, if_true, if_false, not_true, not_false_eq_true, Classical.not_not, true_or, or_true, false_or, n1_1, k10, Bool.true_eq_false, Bool.false_eq_true, Nat.le_refl, and_self, and_false, false_and, or_self, or_false, i_irr, i_rfl, D.oc, D.g0, D.g1, D.g2, D.g3, D.g4, D.p3, D.p4, D.a1, D.a2, D.a3, e2]
        · rw [if_neg w1]
          by_cases w2 : what = nI 2
          · rw [w2, if_pos rfl, wp_tsIn (y := zX0_read) 66 dX0_read_27 (by decide) rfl (by decide)]
            simp (disch := first | omega | assumption) only [wp_al0 (y := zX0_read) dX0_read_66, wp_getf (y := zX0_read) kF0_18 dX0_read_67, wp_il3 (y := zX0_read) dX0_read_70, wp_iald (y := zX0_read) dX0_read_71, wp_ireti (y := zX0_read) rfl dX0_read_72, mm_op_some, true_and, and_true, mm_rc_some, mm_rc_none, nI_xor, tw_xor, pk_mul, nI_add, mm_in_t, nI_clamp, ok0, ok1, ok2, ok3, ok4, n1_0, n0_0, n0_zz, n1_zz, bI_eq0, bI_ne0, bI_zz, nI_le_, nI_lt_, nI_eq_, nI_lt0, nI_ge0, nI_gt0, nI_le0, nI_eq0, m1_lt0, m1_ge0, if_true, if_false, not_true, not_false_eq_true, Classical.not_not, true_or, or_true, false_or, n1_1, k10, Bool.true_eq_false, Bool.false_eq_true, Nat.le_refl, and_self, and_false, false_and, or_self, or_false, i_irr, i_rfl, D.oc, D.g0, D.g1, D.g2, D.g3, D.g4, D.p3, D.p4, D.a1, D.a2, D.a3, e3]
          · rw [if_neg w2, wp_tsOut (y := zX0_read) 73 dX0_read_27 (by decide) (by
              have a0 := int_ne w0
              have a1 := int_ne w1
              have a2 := int_ne w2
              rw [show (nI 0).toInt = 0 from rfl] at a0
              rw [show (nI 1).toInt = 1 from rfl] at a1
              rw [show (nI 2).toInt = 2 from rfl] at a2
              omega)]
            simp (disch := first | omega | assumption) only [wp_iconst (y := zX0_read) ((-1)) ki_m1 dX0_read_73, wp_ireti (y := zX0_read) rfl dX0_read_74, mm_op_some, true_and, and_true, mm_rc_some, mm_rc_none, nI_xor, tw_xor, pk_mul, nI_add, mm_in_t, nI_clamp, ok0, ok1, ok2, ok3, ok4, n1_0, n0_0, n0_zz, n1_zz, bI_eq0, bI_ne0, bI_zz, nI_le_, nI_lt_, nI_eq_, nI_lt0, nI_ge0, nI_gt0, nI_le0, nI_eq0, m1_lt0, m1_ge0, if_true, if_false, not_true, not_false_eq_true, Classical.not_not, true_or, or_true, false_or, n1_1, k10, Bool.true_eq_false, Bool.false_eq_true, Nat.le_refl, and_self, and_false, false_and, or_self, or_false, i_irr, i_rfl, D.oc, D.g0, D.g1, D.g2, D.g3, D.g4, D.p3, D.p4, D.a1, D.a2, D.a3]
    · have h3 : L[n]? = none := List.getElem?_eq_none (by omega)
      rw [h3]
      simp (disch := first | omega | assumption) only [wp_il1 (y := zX0_read) dX0_read_0, wp_if_lt (y := zX0_read) 12 (by decide) dX0_read_1, wp_il1 (y := zX0_read) dX0_read_4, wp_al0 (y := zX0_read) dX0_read_5, wp_getf (y := zX0_read) kF0_21 dX0_read_6, wp_icmp_lt (y := zX0_read) 14 (by decide) dX0_read_9, wp_iconst (y := zX0_read) ((-1)) ki_m1 dX0_read_12, wp_ireti (y := zX0_read) rfl dX0_read_13, mm_op_some, true_and, and_true, mm_rc_some, mm_rc_none, nI_xor, tw_xor, pk_mul, nI_add, mm_in_t, nI_clamp, ok0, ok1, ok2, ok3, ok4, n1_0, n0_0, n0_zz, n1_zz, bI_eq0, bI_ne0, bI_zz, nI_le_, nI_lt_, nI_eq_, nI_lt0, nI_ge0, nI_gt0, nI_le0, nI_eq0, m1_lt0, m1_ge0, if_true, if_false, not_true, not_false_eq_true, Classical.not_not, true_or, or_true, false_or, n1_1, k10, Bool.true_eq_false, Bool.false_eq_true, Nat.le_refl, and_self, and_false, false_and, or_self, or_false, i_irr, i_rfl, D.oc, D.g0, D.g1, D.g2, D.g3, D.g4, D.p3, D.p4, D.a1, D.a2, D.a3, r3, h2]
theorem c_diCopy {d2 : Nat} (D : DiSh sh d) (D2 : DiSh sh d2) (R : RepD L μ d2) (hd : d + 3 < d2 ∨ d2 + 3 < d) : cl sh zX0_copyOf [.ref d, .ref d2] μ (fun r μ' => r = none ∧ RepD L μ' d ∧ FrD μ μ' d) := by
  obtain ⟨n30, r3, l, hl, r4, re⟩ := R
  have k1 : 30 ≤ mm_al sh (d + 1) := by rw [D.a1]; exact Nat.le_refl _
  have j1 : 30 ≤ mm_al sh (d2 + 1) := by rw [D2.a1]; exact Nat.le_refl _
  have k2 : 30 ≤ mm_al sh (d + 2) := by rw [D.a2]; exact Nat.le_refl _
  have j2 : 30 ≤ mm_al sh (d2 + 2) := by rw [D2.a2]; exact Nat.le_refl _
  have k3 : 30 ≤ mm_al sh (d + 3) := by rw [D.a3]; exact Nat.le_refl _
  have j3 : 30 ≤ mm_al sh (d2 + 3) := by rw [D2.a3]; exact Nat.le_refl _
  show wp sh zX0_copyOf 0 [.ref d, .ref d2] [] μ _
  simp (disch := first | assumption | decide) only [wp_al1 (y := zX0_copyOf) dX0_copyOf_0, wp_getf (y := zX0_copyOf) kF0_9 dX0_copyOf_1, wp_iconst (y := zX0_copyOf) (nI 0) ki_0 dX0_copyOf_4, wp_al0 (y := zX0_copyOf) dX0_copyOf_5, wp_getf (y := zX0_copyOf) kF0_9 dX0_copyOf_6, wp_iconst (y := zX0_copyOf) (nI 0) ki_0 dX0_copyOf_9, wp_bipush (y := zX0_copyOf) (nI 30) kb_30 dX0_copyOf_10, wp_acp' (y := zX0_copyOf) rfl kP0_28 (by decide) dX0_copyOf_12, wp_al1 (y := zX0_copyOf) dX0_copyOf_15, wp_getf (y := zX0_copyOf) kF0_15 dX0_copyOf_16, wp_iconst (y := zX0_copyOf) (nI 0) ki_0 dX0_copyOf_19, wp_al0 (y := zX0_copyOf) dX0_copyOf_20, wp_getf (y := zX0_copyOf) kF0_15 dX0_copyOf_21, wp_iconst (y := zX0_copyOf) (nI 0) ki_0 dX0_copyOf_24, wp_bipush (y := zX0_copyOf) (nI 30) kb_30 dX0_copyOf_25, wp_acp' (y := zX0_copyOf) rfl kP0_28 (by decide) dX0_copyOf_27, wp_al1 (y := zX0_copyOf) dX0_copyOf_30, wp_getf (y := zX0_copyOf) kF0_18 dX0_copyOf_31, wp_iconst (y := zX0_copyOf) (nI 0) ki_0 dX0_copyOf_34, wp_al0 (y := zX0_copyOf) dX0_copyOf_35, wp_getf (y := zX0_copyOf) kF0_18 dX0_copyOf_36, wp_iconst (y := zX0_copyOf) (nI 0) ki_0 dX0_copyOf_39, wp_bipush (y := zX0_copyOf) (nI 30) kb_30 dX0_copyOf_40, wp_acp' (y := zX0_copyOf) rfl kP0_28 (by decide) dX0_copyOf_42, wp_al0 (y := zX0_copyOf) dX0_copyOf_45, wp_al1 (y := zX0_copyOf) dX0_copyOf_46, wp_getf (y := zX0_copyOf) kF0_21 dX0_copyOf_47, wp_putf (y := zX0_copyOf) kF0_21 rfl dX0_copyOf_50, wp_al0 (y := zX0_copyOf) dX0_copyOf_53, wp_al1 (y := zX0_copyOf) dX0_copyOf_54, wp_getf (y := zX0_copyOf) kF0_25 dX0_copyOf_55, wp_putf (y := zX0_copyOf) kF0_25 rfl dX0_copyOf_58, wp_vret (y := zX0_copyOf) rfl dX0_copyOf_61, mm_op_some, D.oc, D.g0, D.g1, D.g2, D.g3, D.g4, D.p3, D.p4, D2.oc, D2.g0, D2.g1, D2.g2, D2.g3, D2.g4, true_and]
  refine ⟨⟨n30, ?_, l, hl, ?_, fun i e hi => ?_⟩, ?_⟩
  · simp (disch := omega) only [mu_s, mu_n, upd_s, upd_n]
    exact r3
  · simp (disch := omega) only [mu_s, mu_n, upd_s, upd_n]
    exact r4
  · have hm : (l + 30 - i) % 30 < 30 := Nat.mod_lt _ (by omega)
    simp (disch := omega) only [mu_s, mu_n, cpy_fin _ _ _ hm]
    exact re i e hi
  · exact (((((FrD.refl μ d).mu _ (by omega) (by omega)).mu _ (by omega) (by omega)).mu _ (by omega) (by omega)).mu _ (by omega) (by omega)).mu _ (by omega) (by omega)
end DI2
/-! ===== the foam ===== -/
/-- mesh, log, refusals, and the fields 3 .. 10: width, height, pace, stepped, swaps, vanished, cuts, bursts -/
abbrev Fo : Type := Ms × List Le × (Nat → Int32) × (Nat → Int32)
def FoSh (sh : mm_Sh) (f : Nat) : Prop := sh f = .inr (1, [some (.inl (f + 1)), some (.inl (f + 10)), some (.inl (f + 14)), none, none, none, none, none, none, none, none]) ∧ MeshSh sh (f + 1) ∧ DiSh sh (f + 10) ∧ sh (f + 14) = .inl (0, 4)
def RepF (s : Fo) (μ : mm_U) (f : Nat) : Prop := RepC s.1 μ (f + 1) ∧ RepD s.2.1 μ (f + 10) ∧ (∀ k, k < 4 → μ (f + 14) k = s.2.2.1 k) ∧ (∀ k, 3 ≤ k → k < 11 → μ f k = s.2.2.2 k)
def FrF (μ μ' : mm_U) (f : Nat) : Prop := ∀ a, (a < f ∨ f + 14 < a) → μ' a = μ a
theorem FrF.refl (μ : mm_U) (f : Nat) : FrF μ μ f := fun _ _ => rfl
theorem FrF.trans {μ μ1 μ2 : mm_U} {f : Nat} (h1 : FrF μ μ1 f) (h2 : FrF μ1 μ2 f) : FrF μ μ2 f := fun a h => (h2 a h).trans (h1 a h)
theorem FrF.mu {μ μ1 : mm_U} {f a : Nat} (h : FrF μ μ1 f) (g : Nat → Int32) (h1 : f ≤ a) (h2 : a ≤ f + 14) : FrF μ (mu μ1 a g) f := fun q hq => by
  rw [mu_n _ _ (by omega)]
  exact h q hq
theorem Fr.f {μ μ1 : mm_U} {f : Nat} (h : Fr μ μ1 (f + 1)) : FrF μ μ1 f := fun a ha => h a (by omega)
theorem FrD.f {μ μ1 : mm_U} {f : Nat} (h : FrD μ μ1 (f + 10)) : FrF μ μ1 f := fun a ha => h a (by omega)
section FO
variable {sh : mm_Sh} {f : Nat} {μ μ1 : mm_U} {s : Fo} {M : Ms} {L : List Le} {Q : Option Value → mm_U → Prop}
theorem FoSh.oc (F : FoSh sh f) : (mm_oc sh f 1 = true) = True := by unfold mm_oc; rw [F.1]; exact eq_true rfl
theorem FoSh.g0 (F : FoSh sh f) (μ : mm_U) : mm_gf sh μ f 1 0 = some (.ref (f + 1)) := by unfold mm_gf mm_oc mm_fd; rw [F.1]; rfl
theorem FoSh.g1 (F : FoSh sh f) (μ : mm_U) : mm_gf sh μ f 1 1 = some (.ref (f + 10)) := by unfold mm_gf mm_oc mm_fd; rw [F.1]; rfl
theorem FoSh.g2 (F : FoSh sh f) (μ : mm_U) : mm_gf sh μ f 1 2 = some (.ref (f + 14)) := by unfold mm_gf mm_oc mm_fd; rw [F.1]; rfl
theorem FoSh.g3 (F : FoSh sh f) (μ : mm_U) : mm_gf sh μ f 1 3 = some (.int (μ f 3)) := by unfold mm_gf mm_oc mm_fd; rw [F.1]; rfl
theorem FoSh.g4 (F : FoSh sh f) (μ : mm_U) : mm_gf sh μ f 1 4 = some (.int (μ f 4)) := by unfold mm_gf mm_oc mm_fd; rw [F.1]; rfl
theorem FoSh.g5 (F : FoSh sh f) (μ : mm_U) : mm_gf sh μ f 1 5 = some (.int (μ f 5)) := by unfold mm_gf mm_oc mm_fd; rw [F.1]; rfl
theorem FoSh.g6 (F : FoSh sh f) (μ : mm_U) : mm_gf sh μ f 1 6 = some (.int (μ f 6)) := by unfold mm_gf mm_oc mm_fd; rw [F.1]; rfl
theorem FoSh.g7 (F : FoSh sh f) (μ : mm_U) : mm_gf sh μ f 1 7 = some (.int (μ f 7)) := by unfold mm_gf mm_oc mm_fd; rw [F.1]; rfl
theorem FoSh.g8 (F : FoSh sh f) (μ : mm_U) : mm_gf sh μ f 1 8 = some (.int (μ f 8)) := by unfold mm_gf mm_oc mm_fd; rw [F.1]; rfl
theorem FoSh.g9 (F : FoSh sh f) (μ : mm_U) : mm_gf sh μ f 1 9 = some (.int (μ f 9)) := by unfold mm_gf mm_oc mm_fd; rw [F.1]; rfl
theorem FoSh.g10 (F : FoSh sh f) (μ : mm_U) : mm_gf sh μ f 1 10 = some (.int (μ f 10)) := by unfold mm_gf mm_oc mm_fd; rw [F.1]; rfl
theorem FoSh.p3 (F : FoSh sh f) (μ : mm_U) (x : Int32) : mm_pf sh μ f 1 3 (.int x) = some (mu μ f (upd (μ f) 3 x)) := by unfold mm_pf mm_oc mm_fd; rw [F.1]; rfl
theorem FoSh.p4 (F : FoSh sh f) (μ : mm_U) (x : Int32) : mm_pf sh μ f 1 4 (.int x) = some (mu μ f (upd (μ f) 4 x)) := by unfold mm_pf mm_oc mm_fd; rw [F.1]; rfl
theorem FoSh.p5 (F : FoSh sh f) (μ : mm_U) (x : Int32) : mm_pf sh μ f 1 5 (.int x) = some (mu μ f (upd (μ f) 5 x)) := by unfold mm_pf mm_oc mm_fd; rw [F.1]; rfl
theorem FoSh.p6 (F : FoSh sh f) (μ : mm_U) (x : Int32) : mm_pf sh μ f 1 6 (.int x) = some (mu μ f (upd (μ f) 6 x)) := by unfold mm_pf mm_oc mm_fd; rw [F.1]; rfl
theorem FoSh.p7 (F : FoSh sh f) (μ : mm_U) (x : Int32) : mm_pf sh μ f 1 7 (.int x) = some (mu μ f (upd (μ f) 7 x)) := by unfold mm_pf mm_oc mm_fd; rw [F.1]; rfl
theorem FoSh.p8 (F : FoSh sh f) (μ : mm_U) (x : Int32) : mm_pf sh μ f 1 8 (.int x) = some (mu μ f (upd (μ f) 8 x)) := by unfold mm_pf mm_oc mm_fd; rw [F.1]; rfl
theorem FoSh.p9 (F : FoSh sh f) (μ : mm_U) (x : Int32) : mm_pf sh μ f 1 9 (.int x) = some (mu μ f (upd (μ f) 9 x)) := by unfold mm_pf mm_oc mm_fd; rw [F.1]; rfl
theorem FoSh.p10 (F : FoSh sh f) (μ : mm_U) (x : Int32) : mm_pf sh μ f 1 10 (.int x) = some (mu μ f (upd (μ f) 10 x)) := by unfold mm_pf mm_oc mm_fd; rw [F.1]; rfl
theorem FoSh.a14 (F : FoSh sh f) : mm_al sh (f + 14) = 4 := by unfold mm_al; rw [F.2.2.2]; rfl
theorem RepC.cg {b : Nat} (R : RepC M μ b) (h : ∀ a, b + 1 ≤ a → a ≤ b + 8 → μ1 a = μ a) : RepC M μ1 b := by
  unfold RepC at R ⊢
  rw [h (b + 1) (by omega) (by omega), h (b + 2) (by omega) (by omega), h (b + 3) (by omega) (by omega), h (b + 4) (by omega) (by omega), h (b + 5) (by omega) (by omega), h (b + 6) (by omega) (by omega), h (b + 7) (by omega) (by omega), h (b + 8) (by omega) (by omega)]
  exact R
theorem RepD.cg {d : Nat} (R : RepD L μ d) (h : ∀ a, d ≤ a → a ≤ d + 3 → μ1 a = μ a) : RepD L μ1 d := by
  unfold RepD at R ⊢
  rw [h d (by omega) (by omega), h (d + 1) (by omega) (by omega), h (d + 2) (by omega) (by omega), h (d + 3) (by omega) (by omega)]
  exact R
theorem RepF.mesh (R : RepF s μ f) (R1 : RepC M μ1 (f + 1)) (h : Fr μ μ1 (f + 1)) : RepF (M, s.2) μ1 f :=
  ⟨R1, R.2.1.cg (fun a h1 h2 => h a (by omega)), fun k hk => by rw [h _ (by omega)]; exact R.2.2.1 k hk, fun k h1 h2 => by rw [h _ (by omega)]; exact R.2.2.2 k h1 h2⟩
theorem RepF.diary (R : RepF s μ f) (R1 : RepD L μ1 (f + 10)) (h : FrD μ μ1 (f + 10)) : RepF (s.1, L, s.2.2) μ1 f :=
  ⟨R.1.cg (fun a h1 h2 => h a (by omega)), R1, fun k hk => by rw [h _ (by omega)]; exact R.2.2.1 k hk, fun k h1 h2 => by rw [h _ (by omega)]; exact R.2.2.2 k h1 h2⟩
theorem RepF.fld (R : RepF s μ f) (k : Nat) (x : Int32) : RepF (s.1, s.2.1, s.2.2.1, upd s.2.2.2 k x) (mu μ f (upd (μ f) k x)) f :=
  ⟨R.1.cg (fun a h1 h2 => mu_n _ _ (by omega)), R.2.1.cg (fun a h1 h2 => mu_n _ _ (by omega)), fun k hk => by rw [mu_n _ _ (by omega)]; exact R.2.2.1 k hk, fun j h1 h2 => by
    rw [mu_s]
    show upd (μ f) k x j = upd s.2.2.2 k x j
    unfold upd
    split
    · rfl
    · exact R.2.2.2 j h1 h2⟩
theorem RepF.ref (R : RepF s μ f) (k : Nat) (x : Int32) : RepF (s.1, s.2.1, upd s.2.2.1 k x, s.2.2.2) (mu μ (f + 14) (upd (μ (f + 14)) k x)) f :=
  ⟨R.1.cg (fun a h1 h2 => mu_n _ _ (by omega)), R.2.1.cg (fun a h1 h2 => mu_n _ _ (by omega)), fun j hj => by
    rw [mu_s]
    show upd (μ (f + 14)) k x j = upd s.2.2.1 k x j
    unfold upd
    split
    · rfl
    · exact R.2.2.1 j hj, fun j h1 h2 => by rw [mu_n _ _ (by omega)]; exact R.2.2.2 j h1 h2⟩
/-- an event is counted and logged -/
def fEv (s : Fo) (M : Ms) (what k : Nat) (num : Int32) : Fo := (M, ((nI what, s.2.2.2 6, num) :: s.2.1).take 30, s.2.2.1, upd s.2.2.2 k (s.2.2.2 k + nI 1))
theorem c_flipWall (F : FoSh sh f) (R : RepF s μ f) (B : SdB s.1) (w : Wa) (ok : FlOk s.1 w) : cl sh zX1_flipWall [.ref f, .int (nI w.val)] μ (fun r μ' => r = none ∧ RepF (fEv s (flM s.1 w) 0 7 (nI w.val)) μ' f ∧ FrF μ μ' f) := by
  have Soc := F.2.1.oc
  have Doc := F.2.2.1.oc
  show wp sh zX1_flipWall 0 [.ref f, .int (nI w.val)] [] μ _
  simp (disch := first | omega | assumption) only [wp_al0 (y := zX1_flipWall) dX1_flipWall_0, wp_getf (y := zX1_flipWall) kF1_12 dX1_flipWall_1, wp_il1 (y := zX1_flipWall) dX1_flipWall_4, wp_cv1 (y := zX1_flipWall) kM1_74 (by decide) dX1_flipWall_5, (show yo zX2_flip = 2 from rfl), mm_op_some, true_and, and_true, mm_rc_some, mm_rc_none, nI_xor, tw_xor, pk_mul, nI_add, mm_in_t, nI_clamp, ok0, ok1, ok2, ok3, ok4, n1_0, n0_0, n0_zz, n1_zz, bI_eq0, bI_ne0, bI_zz, nI_le_, nI_lt_, nI_eq_, nI_lt0, nI_ge0, nI_gt0, nI_le0, nI_eq0, m1_lt0, m1_ge0, if_true, if_false, not_true, not_false_eq_true, Classical.not_not, true_or, or_true, false_or, n1_1, k10, Bool.true_eq_false, Bool.false_eq_true, Nat.le_refl, and_self, and_false, false_and, or_self, or_false, i_irr, i_rfl, F.oc, F.g0, F.g1, F.g2, F.g3, F.g4, F.g5, F.g6, F.g7, F.g8, F.g9, F.g10, F.p3, F.p4, F.p5, F.p6, F.p7, F.p8, F.p9, F.p10, F.a14, Soc]
  refine cl_mono (c_flip F.2.1 R.1 B w ok) ?_
  rintro r μ1 ⟨rfl, R1, F1⟩
  have R2 := R.mesh R1 F1
  have r7 := R2.2.2.2 7 (by omega) (by omega)
  have R3 := R2.fld 7 (s.2.2.2 7 + nI 1)
  have r6 := R3.2.2.2 6 (by omega) (by omega)
  dsimp only at r7 r6
  rw [upd_n _ _ (by omega)] at r6
  simp (disch := first | omega | assumption) only [wp_al0 (y := zX1_flipWall) dX1_flipWall_8, wp_dup_int (y := zX1_flipWall) dX1_flipWall_9, wp_dup_ref (y := zX1_flipWall) dX1_flipWall_9, wp_getf (y := zX1_flipWall) kF1_42 dX1_flipWall_10, wp_iconst (y := zX1_flipWall) (nI 1) ki_1 dX1_flipWall_13, wp_iadd (y := zX1_flipWall) dX1_flipWall_14, wp_putf (y := zX1_flipWall) kF1_42 rfl dX1_flipWall_15, wp_al0 (y := zX1_flipWall) dX1_flipWall_18, wp_getf (y := zX1_flipWall) kF1_21 dX1_flipWall_19, wp_iconst (y := zX1_flipWall) (nI 0) ki_0 dX1_flipWall_22, wp_al0 (y := zX1_flipWall) dX1_flipWall_23, wp_getf (y := zX1_flipWall) kF1_39 dX1_flipWall_24, wp_il1 (y := zX1_flipWall) dX1_flipWall_27, wp_cv3 (y := zX1_flipWall) kM1_78 (by decide) dX1_flipWall_28, (show yo zX0_write = 0 from rfl), mm_op_some, true_and, and_true, mm_rc_some, mm_rc_none, nI_xor, tw_xor, pk_mul, nI_add, mm_in_t, nI_clamp, ok0, ok1, ok2, ok3, ok4, n1_0, n0_0, n0_zz, n1_zz, bI_eq0, bI_ne0, bI_zz, nI_le_, nI_lt_, nI_eq_, nI_lt0, nI_ge0, nI_gt0, nI_le0, nI_eq0, m1_lt0, m1_ge0, if_true, if_false, not_true, not_false_eq_true, Classical.not_not, true_or, or_true, false_or, n1_1, k10, Bool.true_eq_false, Bool.false_eq_true, Nat.le_refl, and_self, and_false, false_and, or_self, or_false, i_irr, i_rfl, F.oc, F.g0, F.g1, F.g2, F.g3, F.g4, F.g5, F.g6, F.g7, F.g8, F.g9, F.g10, F.p3, F.p4, F.p5, F.p6, F.p7, F.p8, F.p9, F.p10, F.a14, Doc, r7, r6]
  refine cl_mono (c_diWrite F.2.2.1 R3.2.1 (nI 0) (s.2.2.2 6) (nI w.val)) ?_
  rintro r μ2 ⟨rfl, R4, F4⟩
  simp (disch := first | omega | assumption) only [wp_vret (y := zX1_flipWall) rfl dX1_flipWall_31, mm_op_some, true_and, and_true, mm_rc_some, mm_rc_none, nI_xor, tw_xor, pk_mul, nI_add, mm_in_t, nI_clamp, ok0, ok1, ok2, ok3, ok4, n1_0, n0_0, n0_zz, n1_zz, bI_eq0, bI_ne0, bI_zz, nI_le_, nI_lt_, nI_eq_, nI_lt0, nI_ge0, nI_gt0, nI_le0, nI_eq0, m1_lt0, m1_ge0, if_true, if_false, not_true, not_false_eq_true, Classical.not_not, true_or, or_true, false_or, n1_1, k10, Bool.true_eq_false, Bool.false_eq_true, Nat.le_refl, and_self, and_false, false_and, or_self, or_false, i_irr, i_rfl, F.oc, F.g0, F.g1, F.g2, F.g3, F.g4, F.g5, F.g6, F.g7, F.g8, F.g9, F.g10, F.p3, F.p4, F.p5, F.p6, F.p7, F.p8, F.p9, F.p10, F.a14]
  exact ⟨R3.diary R4 F4, ((Fr.f F1).mu _ (by omega) (by omega)).trans (FrD.f F4)⟩
theorem c_shrinkCell (F : FoSh sh f) (R : RepF s μ f) (B : SdB s.1) (c : Ce) (u0 u1 u2 : Hf) (ok : VaOk s.1 c u0 u1 u2) : cl sh zX1_shrinkCell [.ref f, .int (nI c.val)] μ (fun r μ' => r = some (.int (nI (vaH s.1 u0 u1 u2).val)) ∧ RepF (fEv s (vaM s.1 c u0 u1 u2) 1 8 (nI c.val)) μ' f ∧ FrF μ μ' f) := by
  have Soc := F.2.1.oc
  have Doc := F.2.2.1.oc
  show wp sh zX1_shrinkCell 0 [.ref f, .int (nI c.val), .null] [] μ _
  simp (disch := first | omega | assumption) only [wp_al0 (y := zX1_shrinkCell) dX1_shrinkCell_0, wp_getf (y := zX1_shrinkCell) kF1_12 dX1_shrinkCell_1, wp_il1 (y := zX1_shrinkCell) dX1_shrinkCell_4, wp_cv1 (y := zX1_shrinkCell) kM1_82 (by decide) dX1_shrinkCell_5, (show yo zX2_shrink = 2 from rfl), mm_op_some, true_and, and_true, mm_rc_some, mm_rc_none, nI_xor, tw_xor, pk_mul, nI_add, mm_in_t, nI_clamp, ok0, ok1, ok2, ok3, ok4, n1_0, n0_0, n0_zz, n1_zz, bI_eq0, bI_ne0, bI_zz, nI_le_, nI_lt_, nI_eq_, nI_lt0, nI_ge0, nI_gt0, nI_le0, nI_eq0, m1_lt0, m1_ge0, if_true, if_false, not_true, not_false_eq_true, Classical.not_not, true_or, or_true, false_or, n1_1, k10, Bool.true_eq_false, Bool.false_eq_true, Nat.le_refl, and_self, and_false, false_and, or_self, or_false, i_irr, i_rfl, F.oc, F.g0, F.g1, F.g2, F.g3, F.g4, F.g5, F.g6, F.g7, F.g8, F.g9, F.g10, F.p3, F.p4, F.p5, F.p6, F.p7, F.p8, F.p9, F.p10, F.a14, Soc]
  refine cl_mono (c_shrink F.2.1 R.1 B c u0 u1 u2 ok) ?_
  rintro r μ1 ⟨rfl, R1, F1⟩
  have R2 := R.mesh R1 F1
  have r7 := R2.2.2.2 8 (by omega) (by omega)
  have R3 := R2.fld 8 (s.2.2.2 8 + nI 1)
  have r6 := R3.2.2.2 6 (by omega) (by omega)
  dsimp only at r7 r6
  rw [upd_n _ _ (by omega)] at r6
  simp (disch := first | omega | assumption) only [wp_is2 (y := zX1_shrinkCell) dX1_shrinkCell_8, wp_al0 (y := zX1_shrinkCell) dX1_shrinkCell_9, wp_dup_int (y := zX1_shrinkCell) dX1_shrinkCell_10, wp_dup_ref (y := zX1_shrinkCell) dX1_shrinkCell_10, wp_getf (y := zX1_shrinkCell) kF1_45 dX1_shrinkCell_11, wp_iconst (y := zX1_shrinkCell) (nI 1) ki_1 dX1_shrinkCell_14, wp_iadd (y := zX1_shrinkCell) dX1_shrinkCell_15, wp_putf (y := zX1_shrinkCell) kF1_45 rfl dX1_shrinkCell_16, wp_al0 (y := zX1_shrinkCell) dX1_shrinkCell_19, wp_getf (y := zX1_shrinkCell) kF1_21 dX1_shrinkCell_20, wp_iconst (y := zX1_shrinkCell) (nI 1) ki_1 dX1_shrinkCell_23, wp_al0 (y := zX1_shrinkCell) dX1_shrinkCell_24, wp_getf (y := zX1_shrinkCell) kF1_39 dX1_shrinkCell_25, wp_il1 (y := zX1_shrinkCell) dX1_shrinkCell_28, wp_cv3 (y := zX1_shrinkCell) kM1_78 (by decide) dX1_shrinkCell_29, (show yo zX0_write = 0 from rfl), mm_op_some, true_and, and_true, mm_rc_some, mm_rc_none, nI_xor, tw_xor, pk_mul, nI_add, mm_in_t, nI_clamp, ok0, ok1, ok2, ok3, ok4, n1_0, n0_0, n0_zz, n1_zz, bI_eq0, bI_ne0, bI_zz, nI_le_, nI_lt_, nI_eq_, nI_lt0, nI_ge0, nI_gt0, nI_le0, nI_eq0, m1_lt0, m1_ge0, if_true, if_false, not_true, not_false_eq_true, Classical.not_not, true_or, or_true, false_or, n1_1, k10, Bool.true_eq_false, Bool.false_eq_true, Nat.le_refl, and_self, and_false, false_and, or_self, or_false, i_irr, i_rfl, F.oc, F.g0, F.g1, F.g2, F.g3, F.g4, F.g5, F.g6, F.g7, F.g8, F.g9, F.g10, F.p3, F.p4, F.p5, F.p6, F.p7, F.p8, F.p9, F.p10, F.a14, Doc, r7, r6]
  refine cl_mono (c_diWrite F.2.2.1 R3.2.1 (nI 1) (s.2.2.2 6) (nI c.val)) ?_
  rintro r μ2 ⟨rfl, R4, F4⟩
  simp (disch := first | omega | assumption) only [wp_il2 (y := zX1_shrinkCell) dX1_shrinkCell_32, wp_ireti (y := zX1_shrinkCell) rfl dX1_shrinkCell_33, mm_op_some, true_and, and_true, mm_rc_some, mm_rc_none, nI_xor, tw_xor, pk_mul, nI_add, mm_in_t, nI_clamp, ok0, ok1, ok2, ok3, ok4, n1_0, n0_0, n0_zz, n1_zz, bI_eq0, bI_ne0, bI_zz, nI_le_, nI_lt_, nI_eq_, nI_lt0, nI_ge0, nI_gt0, nI_le0, nI_eq0, m1_lt0, m1_ge0, if_true, if_false, not_true, not_false_eq_true, Classical.not_not, true_or, or_true, false_or, n1_1, k10, Bool.true_eq_false, Bool.false_eq_true, Nat.le_refl, and_self, and_false, false_and, or_self, or_false, i_irr, i_rfl, F.oc, F.g0, F.g1, F.g2, F.g3, F.g4, F.g5, F.g6, F.g7, F.g8, F.g9, F.g10, F.p3, F.p4, F.p5, F.p6, F.p7, F.p8, F.p9, F.p10, F.a14]
  exact ⟨R3.diary R4 F4, ((Fr.f F1).mu _ (by omega) (by omega)).trans (FrD.f F4)⟩
theorem c_joinAcross (F : FoSh sh f) (R : RepF s μ f) (B : SdB s.1) (w : Wa) (a : Hf) (ok : JoOk s.1 w a) : cl sh zX1_joinAcross [.ref f, .int (nI w.val)] μ (fun r μ' => r = some (.int (nI (ow s.1 a).val)) ∧ RepF (fEv s (joM s.1 w a) 3 10 (nI w.val)) μ' f ∧ FrF μ μ' f) := by
  have Soc := F.2.1.oc
  have Doc := F.2.2.1.oc
  show wp sh zX1_joinAcross 0 [.ref f, .int (nI w.val), .null] [] μ _
  simp (disch := first | omega | assumption) only [wp_al0 (y := zX1_joinAcross) dX1_joinAcross_0, wp_getf (y := zX1_joinAcross) kF1_12 dX1_joinAcross_1, wp_il1 (y := zX1_joinAcross) dX1_joinAcross_4, wp_cv1 (y := zX1_joinAcross) kM1_90 (by decide) dX1_joinAcross_5, (show yo zX2_join = 2 from rfl), mm_op_some, true_and, and_true, mm_rc_some, mm_rc_none, nI_xor, tw_xor, pk_mul, nI_add, mm_in_t, nI_clamp, ok0, ok1, ok2, ok3, ok4, n1_0, n0_0, n0_zz, n1_zz, bI_eq0, bI_ne0, bI_zz, nI_le_, nI_lt_, nI_eq_, nI_lt0, nI_ge0, nI_gt0, nI_le0, nI_eq0, m1_lt0, m1_ge0, if_true, if_false, not_true, not_false_eq_true, Classical.not_not, true_or, or_true, false_or, n1_1, k10, Bool.true_eq_false, Bool.false_eq_true, Nat.le_refl, and_self, and_false, false_and, or_self, or_false, i_irr, i_rfl, F.oc, F.g0, F.g1, F.g2, F.g3, F.g4, F.g5, F.g6, F.g7, F.g8, F.g9, F.g10, F.p3, F.p4, F.p5, F.p6, F.p7, F.p8, F.p9, F.p10, F.a14, Soc]
  refine cl_mono (c_join F.2.1 R.1 B w a ok) ?_
  rintro r μ1 ⟨rfl, R1, F1⟩
  have R2 := R.mesh R1 F1
  have r7 := R2.2.2.2 10 (by omega) (by omega)
  have R3 := R2.fld 10 (s.2.2.2 10 + nI 1)
  have r6 := R3.2.2.2 6 (by omega) (by omega)
  dsimp only at r7 r6
  rw [upd_n _ _ (by omega)] at r6
  simp (disch := first | omega | assumption) only [wp_is2 (y := zX1_joinAcross) dX1_joinAcross_8, wp_al0 (y := zX1_joinAcross) dX1_joinAcross_9, wp_dup_int (y := zX1_joinAcross) dX1_joinAcross_10, wp_dup_ref (y := zX1_joinAcross) dX1_joinAcross_10, wp_getf (y := zX1_joinAcross) kF1_51 dX1_joinAcross_11, wp_iconst (y := zX1_joinAcross) (nI 1) ki_1 dX1_joinAcross_14, wp_iadd (y := zX1_joinAcross) dX1_joinAcross_15, wp_putf (y := zX1_joinAcross) kF1_51 rfl dX1_joinAcross_16, wp_al0 (y := zX1_joinAcross) dX1_joinAcross_19, wp_getf (y := zX1_joinAcross) kF1_21 dX1_joinAcross_20, wp_iconst (y := zX1_joinAcross) (nI 3) ki_3 dX1_joinAcross_23, wp_al0 (y := zX1_joinAcross) dX1_joinAcross_24, wp_getf (y := zX1_joinAcross) kF1_39 dX1_joinAcross_25, wp_il1 (y := zX1_joinAcross) dX1_joinAcross_28, wp_cv3 (y := zX1_joinAcross) kM1_78 (by decide) dX1_joinAcross_29, (show yo zX0_write = 0 from rfl), mm_op_some, true_and, and_true, mm_rc_some, mm_rc_none, nI_xor, tw_xor, pk_mul, nI_add, mm_in_t, nI_clamp, ok0, ok1, ok2, ok3, ok4, n1_0, n0_0, n0_zz, n1_zz, bI_eq0, bI_ne0, bI_zz, nI_le_, nI_lt_, nI_eq_, nI_lt0, nI_ge0, nI_gt0, nI_le0, nI_eq0, m1_lt0, m1_ge0, if_true, if_false, not_true, not_false_eq_true, Classical.not_not, true_or, or_true, false_or, n1_1, k10, Bool.true_eq_false, Bool.false_eq_true, Nat.le_refl, and_self, and_false, false_and, or_self, or_false, i_irr, i_rfl, F.oc, F.g0, F.g1, F.g2, F.g3, F.g4, F.g5, F.g6, F.g7, F.g8, F.g9, F.g10, F.p3, F.p4, F.p5, F.p6, F.p7, F.p8, F.p9, F.p10, F.a14, Doc, r7, r6]
  refine cl_mono (c_diWrite F.2.2.1 R3.2.1 (nI 3) (s.2.2.2 6) (nI w.val)) ?_
  rintro r μ2 ⟨rfl, R4, F4⟩
  simp (disch := first | omega | assumption) only [wp_il2 (y := zX1_joinAcross) dX1_joinAcross_32, wp_ireti (y := zX1_joinAcross) rfl dX1_joinAcross_33, mm_op_some, true_and, and_true, mm_rc_some, mm_rc_none, nI_xor, tw_xor, pk_mul, nI_add, mm_in_t, nI_clamp, ok0, ok1, ok2, ok3, ok4, n1_0, n0_0, n0_zz, n1_zz, bI_eq0, bI_ne0, bI_zz, nI_le_, nI_lt_, nI_eq_, nI_lt0, nI_ge0, nI_gt0, nI_le0, nI_eq0, m1_lt0, m1_ge0, if_true, if_false, not_true, not_false_eq_true, Classical.not_not, true_or, or_true, false_or, n1_1, k10, Bool.true_eq_false, Bool.false_eq_true, Nat.le_refl, and_self, and_false, false_and, or_self, or_false, i_irr, i_rfl, F.oc, F.g0, F.g1, F.g2, F.g3, F.g4, F.g5, F.g6, F.g7, F.g8, F.g9, F.g10, F.p3, F.p4, F.p5, F.p6, F.p7, F.p8, F.p9, F.p10, F.a14]
  exact ⟨R3.diary R4 F4, ((Fr.f F1).mu _ (by omega) (by omega)).trans (FrD.f F4)⟩
theorem c_splitCell (F : FoSh sh f) (R : RepF s μ f) (B : SdB s.1) (from_ to_ : Hf) (c fr : Ce) (j1 j2 j3 : Wa) (n : Nat) (ok : SpOk s.1 from_ to_ c fr j1 j2 j3 n) (hW : sW s.1 (fun _ => nI 1) ≤ nI 141) : cl sh zX1_splitCell [.ref f, .int (nI c.val), .int (nI from_.val), .int (nI to_.val)] μ (fun r μ' => r = some (.int (nI fr.val)) ∧ RepF (fEv s (spM s.1 from_ to_ c fr j1 j2 j3 n) 2 9 (nI c.val)) μ' f ∧ FrF μ μ' f) := by
  have Soc := F.2.1.oc
  have Doc := F.2.2.1.oc
  have frb := fr.isLt
  show wp sh zX1_splitCell 0 [.ref f, .int (nI c.val), .int (nI from_.val), .int (nI to_.val), .null] [] μ _
  simp (disch := first | omega | assumption) only [wp_al0 (y := zX1_splitCell) dX1_splitCell_0, wp_getf (y := zX1_splitCell) kF1_12 dX1_splitCell_1, wp_il1 (y := zX1_splitCell) dX1_splitCell_4, wp_il2 (y := zX1_splitCell) dX1_splitCell_5, wp_il3 (y := zX1_splitCell) dX1_splitCell_6, wp_cv3 (y := zX1_splitCell) kM1_86 (by decide) dX1_splitCell_7, (show yo zX2_split = 2 from rfl), mm_op_some, true_and, and_true, mm_rc_some, mm_rc_none, nI_xor, tw_xor, pk_mul, nI_add, mm_in_t, nI_clamp, ok0, ok1, ok2, ok3, ok4, n1_0, n0_0, n0_zz, n1_zz, bI_eq0, bI_ne0, bI_zz, nI_le_, nI_lt_, nI_eq_, nI_lt0, nI_ge0, nI_gt0, nI_le0, nI_eq0, m1_lt0, m1_ge0, if_true, if_false, not_true, not_false_eq_true, Classical.not_not, true_or, or_true, false_or, n1_1, k10, Bool.true_eq_false, Bool.false_eq_true, Nat.le_refl, and_self, and_false, false_and, or_self, or_false, i_irr, i_rfl, F.oc, F.g0, F.g1, F.g2, F.g3, F.g4, F.g5, F.g6, F.g7, F.g8, F.g9, F.g10, F.p3, F.p4, F.p5, F.p6, F.p7, F.p8, F.p9, F.p10, F.a14, Soc]
  refine cl_mono (c_split F.2.1 R.1 B from_ to_ c fr j1 j2 j3 n ok hW) ?_
  rintro r μ1 ⟨rfl, R1, F1⟩
  have R2 := R.mesh R1 F1
  have r7 := R2.2.2.2 9 (by omega) (by omega)
  have R3 := R2.fld 9 (s.2.2.2 9 + nI 1)
  have r6 := R3.2.2.2 6 (by omega) (by omega)
  dsimp only at r7 r6
  rw [upd_n _ _ (by omega)] at r6
  simp (disch := first | omega | assumption) only [wp_is4 (y := zX1_splitCell) dX1_splitCell_10, wp_il4 (y := zX1_splitCell) dX1_splitCell_12, wp_if_lt (y := zX1_splitCell) 40 (by decide) dX1_splitCell_14, wp_al0 (y := zX1_splitCell) dX1_splitCell_17, wp_dup_int (y := zX1_splitCell) dX1_splitCell_18, wp_dup_ref (y := zX1_splitCell) dX1_splitCell_18, wp_getf (y := zX1_splitCell) kF1_48 dX1_splitCell_19, wp_iconst (y := zX1_splitCell) (nI 1) ki_1 dX1_splitCell_22, wp_iadd (y := zX1_splitCell) dX1_splitCell_23, wp_putf (y := zX1_splitCell) kF1_48 rfl dX1_splitCell_24, wp_al0 (y := zX1_splitCell) dX1_splitCell_27, wp_getf (y := zX1_splitCell) kF1_21 dX1_splitCell_28, wp_iconst (y := zX1_splitCell) (nI 2) ki_2 dX1_splitCell_31, wp_al0 (y := zX1_splitCell) dX1_splitCell_32, wp_getf (y := zX1_splitCell) kF1_39 dX1_splitCell_33, wp_il1 (y := zX1_splitCell) dX1_splitCell_36, wp_cv3 (y := zX1_splitCell) kM1_78 (by decide) dX1_splitCell_37, (show yo zX0_write = 0 from rfl), mm_op_some, true_and, and_true, mm_rc_some, mm_rc_none, nI_xor, tw_xor, pk_mul, nI_add, mm_in_t, nI_clamp, ok0, ok1, ok2, ok3, ok4, n1_0, n0_0, n0_zz, n1_zz, bI_eq0, bI_ne0, bI_zz, nI_le_, nI_lt_, nI_eq_, nI_lt0, nI_ge0, nI_gt0, nI_le0, nI_eq0, m1_lt0, m1_ge0, if_true, if_false, not_true, not_false_eq_true, Classical.not_not, true_or, or_true, false_or, n1_1, k10, Bool.true_eq_false, Bool.false_eq_true, Nat.le_refl, and_self, and_false, false_and, or_self, or_false, i_irr, i_rfl, F.oc, F.g0, F.g1, F.g2, F.g3, F.g4, F.g5, F.g6, F.g7, F.g8, F.g9, F.g10, F.p3, F.p4, F.p5, F.p6, F.p7, F.p8, F.p9, F.p10, F.a14, Doc, r7, r6]
  refine cl_mono (c_diWrite F.2.2.1 R3.2.1 (nI 2) (s.2.2.2 6) (nI c.val)) ?_
  rintro r μ2 ⟨rfl, R4, F4⟩
  simp (disch := first | omega | assumption) only [wp_il4 (y := zX1_splitCell) dX1_splitCell_40, wp_ireti (y := zX1_splitCell) rfl dX1_splitCell_42, mm_op_some, true_and, and_true, mm_rc_some, mm_rc_none, nI_xor, tw_xor, pk_mul, nI_add, mm_in_t, nI_clamp, ok0, ok1, ok2, ok3, ok4, n1_0, n0_0, n0_zz, n1_zz, bI_eq0, bI_ne0, bI_zz, nI_le_, nI_lt_, nI_eq_, nI_lt0, nI_ge0, nI_gt0, nI_le0, nI_eq0, m1_lt0, m1_ge0, if_true, if_false, not_true, not_false_eq_true, Classical.not_not, true_or, or_true, false_or, n1_1, k10, Bool.true_eq_false, Bool.false_eq_true, Nat.le_refl, and_self, and_false, false_and, or_self, or_false, i_irr, i_rfl, F.oc, F.g0, F.g1, F.g2, F.g3, F.g4, F.g5, F.g6, F.g7, F.g8, F.g9, F.g10, F.p3, F.p4, F.p5, F.p6, F.p7, F.p8, F.p9, F.p10, F.a14]
  exact ⟨R3.diary R4 F4, ((Fr.f F1).mu _ (by omega) (by omega)).trans (FrD.f F4)⟩
end FO
