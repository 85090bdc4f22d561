/-! ===== the ways ===== -/
def WaSh (sh : mm_Sh) (w : Nat) : Prop := sh w = .inr (4, [some (.inl (w + 1)), some (.inl (w + 2)), some (.inl (w + 3)), some (.inl (w + 4)), none, none, none, none]) ∧ sh (w + 1) = .inl (0, 48) ∧ sh (w + 2) = .inl (0, 1200) ∧ sh (w + 3) = .inl (0, 1200) ∧ sh (w + 4) = .inl (0, 48)
def FrW (μ μ' : mm_U) (w : Nat) : Prop := ∀ a, (a < w ∨ w + 4 < a) → μ' a = μ a
theorem FrW.refl (μ : mm_U) (w : Nat) : FrW μ μ w := fun _ _ => rfl
theorem FrW.trans {μ μ1 μ2 : mm_U} {w : Nat} (h1 : FrW μ μ1 w) (h2 : FrW μ1 μ2 w) : FrW μ μ2 w := fun a h => (h2 a h).trans (h1 a h)
theorem FrW.mu {μ μ1 : mm_U} {w a : Nat} (h : FrW μ μ1 w) (g : Nat → Int32) (h1 : w ≤ a) (h2 : a ≤ w + 4) : FrW μ (mu μ1 a g) w := fun q hq => by
  rw [mu_n _ _ (by omega)]
  exact h q hq
/-- where a walk round a cell begins -/
def stt (M : Ms) (c : Ce) : Int32 := if 0 < sd M c then fo (fH M c) else -1
def RepW (M : Ms) (d : Ce → Option Nat) (μ : mm_U) (w : Nat) : Prop := (∀ c : Ce, μ (w + 1) c.val = fo (d c)) ∧ (∀ c : Ce, μ (w + 4) c.val = stt M c)
def cntD (d : Ce → Option Nat) (x : Int32) (i : Nat) (a : Int32) : Int32 := if fo (d (cI i)) = x then a + nI 1 else a
def whiP (d : Ce → Option Nat) (x y : Int32) (i : Nat) : Bool := decide (fo (d (cI i)) = x ∧ it (cntD d x) i 0 (nI 0) = y)
section WY
variable {sh : mm_Sh} {w b : Nat} {μ μ1 : mm_U} {M : Ms} {d : Ce → Option Nat} {Q : Option Value → mm_U → Prop}
theorem WaSh.oc (W : WaSh sh w) : (mm_oc sh w 4 = true) = True := by unfold mm_oc; rw [W.1]; exact eq_true rfl
theorem WaSh.g0 (W : WaSh sh w) (μ : mm_U) : mm_gf sh μ w 4 0 = some (.ref (w + 1)) := by unfold mm_gf mm_oc mm_fd; rw [W.1]; rfl
theorem WaSh.g1 (W : WaSh sh w) (μ : mm_U) : mm_gf sh μ w 4 1 = some (.ref (w + 2)) := by unfold mm_gf mm_oc mm_fd; rw [W.1]; rfl
theorem WaSh.g2 (W : WaSh sh w) (μ : mm_U) : mm_gf sh μ w 4 2 = some (.ref (w + 3)) := by unfold mm_gf mm_oc mm_fd; rw [W.1]; rfl
theorem WaSh.g3 (W : WaSh sh w) (μ : mm_U) : mm_gf sh μ w 4 3 = some (.ref (w + 4)) := by unfold mm_gf mm_oc mm_fd; rw [W.1]; rfl
theorem WaSh.g4 (W : WaSh sh w) (μ : mm_U) : mm_gf sh μ w 4 4 = some (.int (μ w 4)) := by unfold mm_gf mm_oc mm_fd; rw [W.1]; rfl
theorem WaSh.p4 (W : WaSh sh w) (μ : mm_U) (x : Int32) : mm_pf sh μ w 4 4 (.int x) = some (mu μ w (upd (μ w) 4 x)) := by unfold mm_pf mm_oc mm_fd; rw [W.1]; rfl
theorem WaSh.a1 (W : WaSh sh w) : mm_al sh (w + 1) = 48 := by unfold mm_al; rw [W.2.1]; rfl
theorem WaSh.a2 (W : WaSh sh w) : mm_al sh (w + 2) = 1200 := by unfold mm_al; rw [W.2.2.1]; rfl
theorem WaSh.a3 (W : WaSh sh w) : mm_al sh (w + 3) = 1200 := by unfold mm_al; rw [W.2.2.2.1]; rfl
theorem WaSh.a4 (W : WaSh sh w) : mm_al sh (w + 4) = 48 := by unfold mm_al; rw [W.2.2.2.2]; rfl
theorem c_clearDistances (W : WaSh sh w) (S : MeshSh sh b) (R : RepC M μ b) (B : SdB M) (hd : w + 4 < b ∨ b + 8 < w) : cl sh zX4_clearDistances [.ref w, .ref b] μ (fun r μ' => r = none ∧ RepW M (fun _ => none) μ' w ∧ FrW μ μ' w) := by
  have Soc := S.oc
  show wp sh zX4_clearDistances 0 [.ref w, .ref b, .null] [] μ _
  simp (disch := first | omega | assumption) only [wp_iconst (y := zX4_clearDistances) (nI 0) ki_0 dX4_clearDistances_0, wp_is2 (y := zX4_clearDistances) dX4_clearDistances_1]
  refine lpI 48 (fun i μ1 => wp sh zX4_clearDistances 2 [.ref w, .ref b, .int (nI i)] [] μ1 (fun r μ' => r = none ∧ RepW M (fun _ => none) μ' w ∧ FrW μ μ' w)) (fun i μ1 => (∀ c : Ce, c.val < i → μ1 (w + 1) c.val = -1 ∧ μ1 (w + 4) c.val = stt M c) ∧ FrW μ μ1 w) ?_ ?_ μ ⟨fun c hc => absurd hc (Nat.not_lt_zero _), FrW.refl _ _⟩
  · rintro i μ1 hi ⟨h1, F1⟩ kk
    have h9 : ¬ 48 ≤ i := by omega
    have iv := cI_lt hi
    have F2 := F1.mu (upd (μ1 (w + 1)) i (-1)) (a := w + 1) (by omega) (by omega)
    have R2 : RepC M (mu μ1 (w + 1) (upd (μ1 (w + 1)) i (-1))) b := R.cg (fun a h1 h2 => F2 a (by omega))
    have fin : ∀ μ2, μ2 = mu (mu μ1 (w + 1) (upd (μ1 (w + 1)) i (-1))) (w + 4) (upd (mu μ1 (w + 1) (upd (μ1 (w + 1)) i (-1)) (w + 4)) i (stt M (cI i))) → wp sh zX4_clearDistances 2 [.ref w, .ref b, .int (nI (i + 1))] [] μ2 (fun r μ' => r = none ∧ RepW M (fun _ => none) μ' w ∧ FrW μ μ' w) := by
      rintro μ2 rfl
      refine kk _ ⟨fun c hc => ?_, F2.mu _ (by omega) (by omega)⟩
      simp (disch := omega) only [mu_s, mu_n]
      by_cases z : c.val = i
      · rw [z, upd_s, upd_s]
        refine ⟨rfl, ?_⟩
        rw [show cI i = c from Fin.ext (by rw [iv]; exact z.symm)]
      · rw [upd_n _ _ z, upd_n _ _ z]
        exact h1 c (by omega)
    rw [wp_il2 (y := zX4_clearDistances) dX4_clearDistances_2]
    by_cases hc : 0 < sd M (cI i)
    · have E1 : ∀ Q', cl sh zX2_hasCell [.ref b, .int (nI i)] (mu μ1 (w + 1) (upd (μ1 (w + 1)) i (-1))) Q' = Q' (some (.int (nI 1))) (mu μ1 (w + 1) (upd (μ1 (w + 1)) i (-1))) := fun Q' => c_hasCell1 S R2 B hi hc
      have E2 : ∀ Q', cl sh zX2_firstHalf [.ref b, .int (nI i)] (mu μ1 (w + 1) (upd (μ1 (w + 1)) i (-1))) Q' = Q' (some (.int (fo (fH M (cI i))))) (mu μ1 (w + 1) (upd (μ1 (w + 1)) i (-1))) := fun Q' => by
        have := c_firstHalf (Q := Q') S R2 (cI i)
        rw [iv] at this
        exact this
      simp (disch := first | omega | assumption) only [wp_bipush (y := zX4_clearDistances) (nI 48) kb_48 dX4_clearDistances_3, wp_icmp_ge (y := zX4_clearDistances) 44 (by decide) dX4_clearDistances_5, wp_al0 (y := zX4_clearDistances) dX4_clearDistances_8, wp_getf (y := zX4_clearDistances) kF4_9 dX4_clearDistances_9, wp_il2 (y := zX4_clearDistances) dX4_clearDistances_12, wp_iconst (y := zX4_clearDistances) ((-1)) ki_m1 dX4_clearDistances_13, wp_iast (y := zX4_clearDistances) dX4_clearDistances_14, wp_al0 (y := zX4_clearDistances) dX4_clearDistances_15, wp_getf (y := zX4_clearDistances) kF4_21 dX4_clearDistances_16, wp_il2 (y := zX4_clearDistances) dX4_clearDistances_19, wp_al1 (y := zX4_clearDistances) dX4_clearDistances_20, wp_il2 (y := zX4_clearDistances) dX4_clearDistances_21, wp_cv1 (y := zX4_clearDistances) kM4_24 (by decide) dX4_clearDistances_22, (show yo zX2_hasCell = 2 from rfl), wp_if_eq (y := zX4_clearDistances) 36 (by decide) dX4_clearDistances_25, wp_al1 (y := zX4_clearDistances) dX4_clearDistances_28, wp_il2 (y := zX4_clearDistances) dX4_clearDistances_29, wp_cv1 (y := zX4_clearDistances) kM4_30 (by decide) dX4_clearDistances_30, (show yo zX2_firstHalf = 2 from rfl), wp_goto (y := zX4_clearDistances) 37 (by decide) dX4_clearDistances_33, wp_iconst (y := zX4_clearDistances) ((-1)) ki_m1 dX4_clearDistances_36, wp_iast (y := zX4_clearDistances) dX4_clearDistances_37, wp_inc2 (y := zX4_clearDistances) (nI 1) ki_1 dX4_clearDistances_38, wp_goto (y := zX4_clearDistances) 2 (by decide) dX4_clearDistances_41, mm_op_some, true_and, and_true, mm_rc_some, mm_rc_none, nI_xor, tw_xor, pk_mul, nI_add, mm_in_t, nI_clamp, ok0, ok1, ok2, ok3, ok4, n1_0, n0_0, n0_zz, n1_zz, bI_eq0, bI_ne0, bI_zz, nI_le_, nI_lt_, nI_eq_, nI_lt0, nI_ge0, nI_gt0, nI_le0, nI_eq0, m1_lt0, m1_ge0, if_true, if_false, not_true, not_false_eq_true, Classical.not_not, true_or, or_true, false_or, n1_1, k10, Bool.true_eq_false, Bool.false_eq_true, Nat.le_refl, and_self, and_false, false_and, or_self, or_false, i_irr, i_rfl, W.oc, W.g0, W.g1, W.g2, W.g3, W.g4, W.p4, W.a1, W.a2, W.a3, W.a4, Soc, h9, E1, E2]
      refine fin _ ?_
      rw [show stt M (cI i) = fo (fH M (cI i)) from if_pos hc]
    · have E1 : ∀ Q', cl sh zX2_hasCell [.ref b, .int (nI i)] (mu μ1 (w + 1) (upd (μ1 (w + 1)) i (-1))) Q' = Q' (some (.int (nI 0))) (mu μ1 (w + 1) (upd (μ1 (w + 1)) i (-1))) := fun Q' => c_hasCell0 S R2 hi hc
      simp (disch := first | omega | assumption) only [wp_bipush (y := zX4_clearDistances) (nI 48) kb_48 dX4_clearDistances_3, wp_icmp_ge (y := zX4_clearDistances) 44 (by decide) dX4_clearDistances_5, wp_al0 (y := zX4_clearDistances) dX4_clearDistances_8, wp_getf (y := zX4_clearDistances) kF4_9 dX4_clearDistances_9, wp_il2 (y := zX4_clearDistances) dX4_clearDistances_12, wp_iconst (y := zX4_clearDistances) ((-1)) ki_m1 dX4_clearDistances_13, wp_iast (y := zX4_clearDistances) dX4_clearDistances_14, wp_al0 (y := zX4_clearDistances) dX4_clearDistances_15, wp_getf (y := zX4_clearDistances) kF4_21 dX4_clearDistances_16, wp_il2 (y := zX4_clearDistances) dX4_clearDistances_19, wp_al1 (y := zX4_clearDistances) dX4_clearDistances_20, wp_il2 (y := zX4_clearDistances) dX4_clearDistances_21, wp_cv1 (y := zX4_clearDistances) kM4_24 (by decide) dX4_clearDistances_22, (show yo zX2_hasCell = 2 from rfl), wp_if_eq (y := zX4_clearDistances) 36 (by decide) dX4_clearDistances_25, wp_al1 (y := zX4_clearDistances) dX4_clearDistances_28, wp_il2 (y := zX4_clearDistances) dX4_clearDistances_29, wp_cv1 (y := zX4_clearDistances) kM4_30 (by decide) dX4_clearDistances_30, (show yo zX2_firstHalf = 2 from rfl), wp_goto (y := zX4_clearDistances) 37 (by decide) dX4_clearDistances_33, wp_iconst (y := zX4_clearDistances) ((-1)) ki_m1 dX4_clearDistances_36, wp_iast (y := zX4_clearDistances) dX4_clearDistances_37, wp_inc2 (y := zX4_clearDistances) (nI 1) ki_1 dX4_clearDistances_38, wp_goto (y := zX4_clearDistances) 2 (by decide) dX4_clearDistances_41, mm_op_some, true_and, and_true, mm_rc_some, mm_rc_none, nI_xor, tw_xor, pk_mul, nI_add, mm_in_t, nI_clamp, ok0, ok1, ok2, ok3, ok4, n1_0, n0_0, n0_zz, n1_zz, bI_eq0, bI_ne0, bI_zz, nI_le_, nI_lt_, nI_eq_, nI_lt0, nI_ge0, nI_gt0, nI_le0, nI_eq0, m1_lt0, m1_ge0, if_true, if_false, not_true, not_false_eq_true, Classical.not_not, true_or, or_true, false_or, n1_1, k10, Bool.true_eq_false, Bool.false_eq_true, Nat.le_refl, and_self, and_false, false_and, or_self, or_false, i_irr, i_rfl, W.oc, W.g0, W.g1, W.g2, W.g3, W.g4, W.p4, W.a1, W.a2, W.a3, W.a4, Soc, h9, E1]
      refine fin _ ?_
      rw [show stt M (cI i) = -1 from if_neg hc]
  · rintro μ1 ⟨h1, F1⟩
    rw [wp_il2 (y := zX4_clearDistances) dX4_clearDistances_2]
    simp (disch := first | omega | assumption) only [wp_bipush (y := zX4_clearDistances) (nI 48) kb_48 dX4_clearDistances_3, wp_icmp_ge (y := zX4_clearDistances) 44 (by decide) dX4_clearDistances_5, wp_vret (y := zX4_clearDistances) rfl dX4_clearDistances_44, mm_op_some, true_and, and_true, mm_rc_some, mm_rc_none, nI_xor, tw_xor, pk_mul, nI_add, mm_in_t, nI_clamp, ok0, ok1, ok2, ok3, ok4, n1_0, n0_0, n0_zz, n1_zz, bI_eq0, bI_ne0, bI_zz, nI_le_, nI_lt_, nI_eq_, nI_lt0, nI_ge0, nI_gt0, nI_le0, nI_eq0, m1_lt0, m1_ge0, if_true, if_false, not_true, not_false_eq_true, Classical.not_not, true_or, or_true, false_or, n1_1, k10, Bool.true_eq_false, Bool.false_eq_true, Nat.le_refl, and_self, and_false, false_and, or_self, or_false, i_irr, i_rfl]
    exact ⟨⟨fun c => (h1 c c.isLt).1, fun c => (h1 c c.isLt).2⟩, F1⟩
theorem c_howManyAt (W : WaSh sh w) (R : RepW M d μ w) (x : Int32) : cl sh zX4_howManyAt [.ref w, .int x] μ Q = Q (some (.int (it (cntD d x) 48 0 (nI 0)))) μ := by
  show wp sh zX4_howManyAt 0 [.ref w, .int x, .null, .null] [] μ Q = _
  simp (disch := first | omega | assumption) only [wp_iconst (y := zX4_howManyAt) (nI 0) ki_0 dX4_howManyAt_0, wp_is2 (y := zX4_howManyAt) dX4_howManyAt_1, wp_iconst (y := zX4_howManyAt) (nI 0) ki_0 dX4_howManyAt_2, wp_is3 (y := zX4_howManyAt) dX4_howManyAt_3]
  refine (lp 48 (fun i (a : Int32) => wp sh zX4_howManyAt 4 [.ref w, .int x, .int a, .int (nI i)] [] μ Q) (cntD d x) (fun i a hi => ?_) (nI 0)).trans ?_
  · rw [wp_il3 (y := zX4_howManyAt) dX4_howManyAt_4]
    have h9 : ¬ 48 ≤ i := by omega
    have iv := cI_lt hi
    have r1 : μ (w + 1) i = fo (d (cI i)) := by
      have := R.1 (cI i)
      rw [iv] at this
      exact this
    unfold cntD
    by_cases he : fo (d (cI i)) = x
    · have he' := eq_true he
      simp (disch := first | omega | assumption) only [wp_bipush (y := zX4_howManyAt) (nI 48) kb_48 dX4_howManyAt_5, wp_icmp_ge (y := zX4_howManyAt) 29 (by decide) dX4_howManyAt_7, wp_al0 (y := zX4_howManyAt) dX4_howManyAt_10, wp_getf (y := zX4_howManyAt) kF4_9 dX4_howManyAt_11, wp_il3 (y := zX4_howManyAt) dX4_howManyAt_14, wp_iald (y := zX4_howManyAt) dX4_howManyAt_15, wp_il1 (y := zX4_howManyAt) dX4_howManyAt_16, wp_icmp_ne (y := zX4_howManyAt) 23 (by decide) dX4_howManyAt_17, wp_inc2 (y := zX4_howManyAt) (nI 1) ki_1 dX4_howManyAt_20, wp_inc3 (y := zX4_howManyAt) (nI 1) ki_1 dX4_howManyAt_23, wp_goto (y := zX4_howManyAt) 4 (by decide) dX4_howManyAt_26, mm_op_some, true_and, and_true, mm_rc_some, mm_rc_none, nI_xor, tw_xor, pk_mul, nI_add, mm_in_t, nI_clamp, ok0, ok1, ok2, ok3, ok4, n1_0, n0_0, n0_zz, n1_zz, bI_eq0, bI_ne0, bI_zz, nI_le_, nI_lt_, nI_eq_, nI_lt0, nI_ge0, nI_gt0, nI_le0, nI_eq0, m1_lt0, m1_ge0, if_true, if_false, not_true, not_false_eq_true, Classical.not_not, true_or, or_true, false_or, n1_1, k10, Bool.true_eq_false, Bool.false_eq_true, Nat.le_refl, and_self, and_false, false_and, or_self, or_false, i_irr, i_rfl, W.oc, W.g0, W.g1, W.g2, W.g3, W.g4, W.p4, W.a1, W.a2, W.a3, W.a4, h9, r1, he']
    · simp (disch := first | omega | assumption) only [wp_bipush (y := zX4_howManyAt) (nI 48) kb_48 dX4_howManyAt_5, wp_icmp_ge (y := zX4_howManyAt) 29 (by decide) dX4_howManyAt_7, wp_al0 (y := zX4_howManyAt) dX4_howManyAt_10, wp_getf (y := zX4_howManyAt) kF4_9 dX4_howManyAt_11, wp_il3 (y := zX4_howManyAt) dX4_howManyAt_14, wp_iald (y := zX4_howManyAt) dX4_howManyAt_15, wp_il1 (y := zX4_howManyAt) dX4_howManyAt_16, wp_icmp_ne (y := zX4_howManyAt) 23 (by decide) dX4_howManyAt_17, wp_inc2 (y := zX4_howManyAt) (nI 1) ki_1 dX4_howManyAt_20, wp_inc3 (y := zX4_howManyAt) (nI 1) ki_1 dX4_howManyAt_23, wp_goto (y := zX4_howManyAt) 4 (by decide) dX4_howManyAt_26, mm_op_some, true_and, and_true, mm_rc_some, mm_rc_none, nI_xor, tw_xor, pk_mul, nI_add, mm_in_t, nI_clamp, ok0, ok1, ok2, ok3, ok4, n1_0, n0_0, n0_zz, n1_zz, bI_eq0, bI_ne0, bI_zz, nI_le_, nI_lt_, nI_eq_, nI_lt0, nI_ge0, nI_gt0, nI_le0, nI_eq0, m1_lt0, m1_ge0, if_true, if_false, not_true, not_false_eq_true, Classical.not_not, true_or, or_true, false_or, n1_1, k10, Bool.true_eq_false, Bool.false_eq_true, Nat.le_refl, and_self, and_false, false_and, or_self, or_false, i_irr, i_rfl, W.oc, W.g0, W.g1, W.g2, W.g3, W.g4, W.p4, W.a1, W.a2, W.a3, W.a4, h9, r1, he]
  · rw [wp_il3 (y := zX4_howManyAt) dX4_howManyAt_4]
    simp (disch := first | omega | assumption) only [wp_bipush (y := zX4_howManyAt) (nI 48) kb_48 dX4_howManyAt_5, wp_icmp_ge (y := zX4_howManyAt) 29 (by decide) dX4_howManyAt_7, wp_il2 (y := zX4_howManyAt) dX4_howManyAt_29, wp_ireti (y := zX4_howManyAt) rfl dX4_howManyAt_30, mm_op_some, true_and, and_true, mm_rc_some, mm_rc_none, nI_xor, tw_xor, pk_mul, nI_add, mm_in_t, nI_clamp, ok0, ok1, ok2, ok3, ok4, n1_0, n0_0, n0_zz, n1_zz, bI_eq0, bI_ne0, bI_zz, nI_le_, nI_lt_, nI_eq_, nI_lt0, nI_ge0, nI_gt0, nI_le0, nI_eq0, m1_lt0, m1_ge0, if_true, if_false, not_true, not_false_eq_true, Classical.not_not, true_or, or_true, false_or, n1_1, k10, Bool.true_eq_false, Bool.false_eq_true, Nat.le_refl, and_self, and_false, false_and, or_self, or_false, i_irr, i_rfl]
theorem c_whichAt (W : WaSh sh w) (R : RepW M d μ w) (x y : Int32) : cl sh zX4_whichAt [.ref w, .int x, .int y] μ Q = Q (some (.int (fo (fd (whiP d x y) 48 0)))) μ := by
  show wp sh zX4_whichAt 0 [.ref w, .int x, .int y, .null, .null] [] μ Q = _
  simp (disch := first | omega | assumption) only [wp_iconst (y := zX4_whichAt) (nI 0) ki_0 dX4_whichAt_0, wp_is3 (y := zX4_whichAt) dX4_whichAt_1, wp_iconst (y := zX4_whichAt) (nI 0) ki_0 dX4_whichAt_2, wp_is4 (y := zX4_whichAt) dX4_whichAt_3]
  refine (lpf 48 (fun i => wp sh zX4_whichAt 5 [.ref w, .int x, .int y, .int (it (cntD d x) i 0 (nI 0)), .int (nI i)] [] μ Q) (whiP d x y) (fun i => Q (some (.int (nI i))) μ) (fun i hi => ?_)).trans ?_
  · rw [wp_il4 (y := zX4_whichAt) dX4_whichAt_5]
    have h9 : ¬ 48 ≤ i := by omega
    have iv := cI_lt hi
    have r1 : μ (w + 1) i = fo (d (cI i)) := by
      have := R.1 (cI i)
      rw [iv] at this
      exact this
    rw [it_last0]
    unfold whiP
    generalize it (cntD d x) i 0 (nI 0) = a
    unfold cntD
    by_cases he : fo (d (cI i)) = x
    · have he' := eq_true he
      by_cases ha : a = y
      · have ha' := eq_true ha
        simp (disch := first | omega | assumption) only [wp_bipush (y := zX4_whichAt) (nI 48) kb_48 dX4_whichAt_7, wp_icmp_ge (y := zX4_whichAt) 40 (by decide) dX4_whichAt_9, wp_al0 (y := zX4_whichAt) dX4_whichAt_12, wp_getf (y := zX4_whichAt) kF4_9 dX4_whichAt_13, wp_il4 (y := zX4_whichAt) dX4_whichAt_16, wp_iald (y := zX4_whichAt) dX4_whichAt_18, wp_il1 (y := zX4_whichAt) dX4_whichAt_19, wp_icmp_ne (y := zX4_whichAt) 34 (by decide) dX4_whichAt_20, wp_il3 (y := zX4_whichAt) dX4_whichAt_23, wp_il2 (y := zX4_whichAt) dX4_whichAt_24, wp_icmp_ne (y := zX4_whichAt) 31 (by decide) dX4_whichAt_25, wp_il4 (y := zX4_whichAt) dX4_whichAt_28, wp_ireti (y := zX4_whichAt) rfl dX4_whichAt_30, wp_inc3 (y := zX4_whichAt) (nI 1) ki_1 dX4_whichAt_31, wp_inc4 (y := zX4_whichAt) (nI 1) ki_1 dX4_whichAt_34, wp_goto (y := zX4_whichAt) 5 (by decide) dX4_whichAt_37, mm_op_some, true_and, and_true, mm_rc_some, mm_rc_none, nI_xor, tw_xor, pk_mul, nI_add, mm_in_t, nI_clamp, ok0, ok1, ok2, ok3, ok4, n1_0, n0_0, n0_zz, n1_zz, bI_eq0, bI_ne0, bI_zz, nI_le_, nI_lt_, nI_eq_, nI_lt0, nI_ge0, nI_gt0, nI_le0, nI_eq0, m1_lt0, m1_ge0, if_true, if_false, not_true, not_false_eq_true, Classical.not_not, true_or, or_true, false_or, n1_1, k10, Bool.true_eq_false, Bool.false_eq_true, Nat.le_refl, and_self, and_false, false_and, or_self, or_false, i_irr, i_rfl, W.oc, W.g0, W.g1, W.g2, W.g3, W.g4, W.p4, W.a1, W.a2, W.a3, W.a4, h9, r1, he', ha', decide_true]
      · simp (disch := first | omega | assumption) only [wp_bipush (y := zX4_whichAt) (nI 48) kb_48 dX4_whichAt_7, wp_icmp_ge (y := zX4_whichAt) 40 (by decide) dX4_whichAt_9, wp_al0 (y := zX4_whichAt) dX4_whichAt_12, wp_getf (y := zX4_whichAt) kF4_9 dX4_whichAt_13, wp_il4 (y := zX4_whichAt) dX4_whichAt_16, wp_iald (y := zX4_whichAt) dX4_whichAt_18, wp_il1 (y := zX4_whichAt) dX4_whichAt_19, wp_icmp_ne (y := zX4_whichAt) 34 (by decide) dX4_whichAt_20, wp_il3 (y := zX4_whichAt) dX4_whichAt_23, wp_il2 (y := zX4_whichAt) dX4_whichAt_24, wp_icmp_ne (y := zX4_whichAt) 31 (by decide) dX4_whichAt_25, wp_il4 (y := zX4_whichAt) dX4_whichAt_28, wp_ireti (y := zX4_whichAt) rfl dX4_whichAt_30, wp_inc3 (y := zX4_whichAt) (nI 1) ki_1 dX4_whichAt_31, wp_inc4 (y := zX4_whichAt) (nI 1) ki_1 dX4_whichAt_34, wp_goto (y := zX4_whichAt) 5 (by decide) dX4_whichAt_37, mm_op_some, true_and, and_true, mm_rc_some, mm_rc_none, nI_xor, tw_xor, pk_mul, nI_add, mm_in_t, nI_clamp, ok0, ok1, ok2, ok3, ok4, n1_0, n0_0, n0_zz, n1_zz, bI_eq0, bI_ne0, bI_zz, nI_le_, nI_lt_, nI_eq_, nI_lt0, nI_ge0, nI_gt0, nI_le0, nI_eq0, m1_lt0, m1_ge0, if_true, if_false, not_true, not_false_eq_true, Classical.not_not, true_or, or_true, false_or, n1_1, k10, Bool.true_eq_false, Bool.false_eq_true, Nat.le_refl, and_self, and_false, false_and, or_self, or_false, i_irr, i_rfl, W.oc, W.g0, W.g1, W.g2, W.g3, W.g4, W.p4, W.a1, W.a2, W.a3, W.a4, h9, r1, he', ha, decide_false]
    · simp (disch := first | omega | assumption) only [wp_bipush (y := zX4_whichAt) (nI 48) kb_48 dX4_whichAt_7, wp_icmp_ge (y := zX4_whichAt) 40 (by decide) dX4_whichAt_9, wp_al0 (y := zX4_whichAt) dX4_whichAt_12, wp_getf (y := zX4_whichAt) kF4_9 dX4_whichAt_13, wp_il4 (y := zX4_whichAt) dX4_whichAt_16, wp_iald (y := zX4_whichAt) dX4_whichAt_18, wp_il1 (y := zX4_whichAt) dX4_whichAt_19, wp_icmp_ne (y := zX4_whichAt) 34 (by decide) dX4_whichAt_20, wp_il3 (y := zX4_whichAt) dX4_whichAt_23, wp_il2 (y := zX4_whichAt) dX4_whichAt_24, wp_icmp_ne (y := zX4_whichAt) 31 (by decide) dX4_whichAt_25, wp_il4 (y := zX4_whichAt) dX4_whichAt_28, wp_ireti (y := zX4_whichAt) rfl dX4_whichAt_30, wp_inc3 (y := zX4_whichAt) (nI 1) ki_1 dX4_whichAt_31, wp_inc4 (y := zX4_whichAt) (nI 1) ki_1 dX4_whichAt_34, wp_goto (y := zX4_whichAt) 5 (by decide) dX4_whichAt_37, mm_op_some, true_and, and_true, mm_rc_some, mm_rc_none, nI_xor, tw_xor, pk_mul, nI_add, mm_in_t, nI_clamp, ok0, ok1, ok2, ok3, ok4, n1_0, n0_0, n0_zz, n1_zz, bI_eq0, bI_ne0, bI_zz, nI_le_, nI_lt_, nI_eq_, nI_lt0, nI_ge0, nI_gt0, nI_le0, nI_eq0, m1_lt0, m1_ge0, if_true, if_false, not_true, not_false_eq_true, Classical.not_not, true_or, or_true, false_or, n1_1, k10, Bool.true_eq_false, Bool.false_eq_true, Nat.le_refl, and_self, and_false, false_and, or_self, or_false, i_irr, i_rfl, W.oc, W.g0, W.g1, W.g2, W.g3, W.g4, W.p4, W.a1, W.a2, W.a3, W.a4, h9, r1, he, decide_false]
  · cases fd (whiP d x y) 48 0 with
    | some j => rfl
    | none =>
      dsimp only
      rw [wp_il4 (y := zX4_whichAt) dX4_whichAt_5]
      simp (disch := first | omega | assumption) only [wp_bipush (y := zX4_whichAt) (nI 48) kb_48 dX4_whichAt_7, wp_icmp_ge (y := zX4_whichAt) 40 (by decide) dX4_whichAt_9, wp_iconst (y := zX4_whichAt) ((-1)) ki_m1 dX4_whichAt_40, wp_ireti (y := zX4_whichAt) rfl dX4_whichAt_41, mm_op_some, true_and, and_true, mm_rc_some, mm_rc_none, nI_xor, tw_xor, pk_mul, nI_add, mm_in_t, nI_clamp, ok0, ok1, ok2, ok3, ok4, n1_0, n0_0, n0_zz, n1_zz, bI_eq0, bI_ne0, bI_zz, nI_le_, nI_lt_, nI_eq_, nI_lt0, nI_ge0, nI_gt0, nI_le0, nI_eq0, m1_lt0, m1_ge0, if_true, if_false, not_true, not_false_eq_true, Classical.not_not, true_or, or_true, false_or, n1_1, k10, Bool.true_eq_false, Bool.false_eq_true, Nat.le_refl, and_self, and_false, false_and, or_self, or_false, i_irr, i_rfl]
      rfl
end WY
