section WY5
variable {sh : mm_Sh} {w b : Nat} {μ : mm_U} {M : Ms} {d : Ce → Option Nat} {Q : Option Value → mm_U → Prop}
theorem WaSh.g5 (W : WaSh sh w) (μ : mm_U) : mm_gf sh μ w 4 5 = some (.int (μ w 5)) := by unfold mm_gf mm_oc mm_fd; rw [W.1]; rfl
theorem WaSh.g6 (W : WaSh sh w) (μ : mm_U) : mm_gf sh μ w 4 6 = some (.int (μ w 6)) := by unfold mm_gf mm_oc mm_fd; rw [W.1]; rfl
theorem WaSh.g7 (W : WaSh sh w) (μ : mm_U) : mm_gf sh μ w 4 7 = some (.int (μ w 7)) := by unfold mm_gf mm_oc mm_fd; rw [W.1]; rfl
theorem WaSh.p5 (W : WaSh sh w) (μ : mm_U) (x : Int32) : mm_pf sh μ w 4 5 (.int x) = some (mu μ w (upd (μ w) 5 x)) := by unfold mm_pf mm_oc mm_fd; rw [W.1]; rfl
theorem WaSh.p6 (W : WaSh sh w) (μ : mm_U) (x : Int32) : mm_pf sh μ w 4 6 (.int x) = some (mu μ w (upd (μ w) 6 x)) := by unfold mm_pf mm_oc mm_fd; rw [W.1]; rfl
theorem WaSh.p7 (W : WaSh sh w) (μ : mm_U) (x : Int32) : mm_pf sh μ w 4 7 (.int x) = some (mu μ w (upd (μ w) 7 x)) := by unfold mm_pf mm_oc mm_fd; rw [W.1]; rfl
/-- of the neighbours one nearer, the least -/
def lnS (d : Ce → Option Nat) (cell o best : Ce) : Ce := if fo (d o) = fo (d cell) - nI 1 ∧ (best = cell ∨ o.val < best.val) then o else best
def lnN (M : Ms) (d : Ce → Option Nat) (cell : Ce) : Ce := it (fun i best => lnS d cell (ow M (tw (nxi M i (hI ((fH M cell).getD 0))))) best) (sd M cell) 0 cell
theorem fH_hI {h : Hf} {c : Ce} (fh : fH M c = some h.val) : hI ((fH M c).getD 0) = h := by
  rw [fh]
  exact hI_val h
theorem c_leastNearer (W : WaSh sh w) (S : MeshSh sh b) (R : RepC M μ b) (B : SdB M) (L : LvN M) (H : HasF M) (RW : RepW M d μ w) (cell : Ce) (hc : 0 < sd M cell) : cl sh zX4_leastNearer [.ref w, .ref b, .int (nI cell.val)] μ Q = Q (some (.int (nI (lnN M d cell).val))) μ := by
  obtain ⟨h, fh, hl⟩ := H cell hc
  have r4 := RW.2 cell
  rw [show stt M cell = nI h.val by unfold stt; rw [if_pos hc, fh]; rfl] at r4
  have bs := B cell
  have rs := R.2.2.2.1 cell
  have rc := RW.1 cell
  have Soc := S.oc
  show wp sh zX4_leastNearer 0 [.ref w, .ref b, .int (nI cell.val), .null, .null, .null, .null] [] μ Q = _
  simp (disch := first | omega | assumption) only [mm_op_some, true_and, and_true, mm_rc_some, mm_rc_none, nI_xor, tw_xor, pk_mul, nI_add, mm_in_t, nI_clamp, ok0, ok1, ok2, ok3, ok4, n1_0, n0_0, n0_zz, n1_zz, bI_eq0, bI_ne0, bI_zz, nI_le_, nI_lt_, nI_eq_, nI_lt0, nI_ge0, nI_gt0, nI_le0, nI_eq0, m1_lt0, m1_ge0, if_true, if_false, not_true, not_false_eq_true, Classical.not_not, true_or, or_true, false_or, n1_1, k10, Bool.true_eq_false, Bool.false_eq_true, Nat.le_refl, and_self, and_false, false_and, or_self, or_false, hf_lt, ce_lt, hf_cl, ce_cl, i_irr, i_rfl, wp_il2 (y := zX4_leastNearer) dX4_leastNearer_0, wp_is3 (y := zX4_leastNearer) dX4_leastNearer_1, wp_al0 (y := zX4_leastNearer) dX4_leastNearer_2, wp_getf (y := zX4_leastNearer) kF4_21 dX4_leastNearer_3, wp_il2 (y := zX4_leastNearer) dX4_leastNearer_6, wp_iald (y := zX4_leastNearer) dX4_leastNearer_7, wp_is4 (y := zX4_leastNearer) dX4_leastNearer_8, wp_iconst (y := zX4_leastNearer) (nI 0) ki_0 dX4_leastNearer_10, wp_is5 (y := zX4_leastNearer) dX4_leastNearer_11, W.oc, W.g0, W.g1, W.g2, W.g3, W.g4, W.p4, W.a1, W.a2, W.a3, W.a4, r4]
  refine (lp (sd M cell) (fun i (a : Ce × Value) => wp sh zX4_leastNearer 13 [.ref w, .ref b, .int (nI cell.val), .int (nI a.1.val), .int (nI (nxi M i h).val), .int (nI i), a.2] [] μ Q) (fun i a => (lnS d cell (ow M (tw (nxi M i h))) a.1, .int (nI (ow M (tw (nxi M i h))).val))) (fun i a hi => ?_) (cell, .null)).trans ?_
  · obtain ⟨best, v⟩ := a
    dsimp only
    have lh := nxi_lv L i h hl
    rw [nxi_s]
    generalize nxi M i h = g at lh ⊢
    have rn := (R.1 g lh).2.1
    have h9 : (sd M cell ≤ i) = False := eq_false (by omega)
    have E1 : ∀ Q', cl sh zX2_across [.ref b, .int (nI g.val)] μ Q' = Q' (some (.int (nI (ow M (tw g)).val))) μ := fun Q' => c_across S R g lh
    generalize ow M (tw g) = o at E1 ⊢
    have gb := g.isLt
    have ob := o.isLt
    have cb := cell.isLt
    have bb := best.isLt
    have rd := RW.1 o
    rw [wp_il5 (y := zX4_leastNearer) dX4_leastNearer_13]
    unfold lnS
    by_cases h1 : fo (d o) = fo (d cell) - nI 1
    · by_cases h2 : best = cell
      · have e2 : (nI best.val = nI cell.val) = True := eq_true (by rw [h2])
        rw [if_pos ⟨h1, Or.inl h2⟩]
        have e1 := eq_true h1
        simp (disch := first | omega | assumption) only [mm_op_some, true_and, and_true, mm_rc_some, mm_rc_none, nI_add, mm_in_t, nI_clamp, ok0, ok1, ok2, nI_le_, nI_lt0, if_true, if_false, not_true, hf_lt, ce_lt, hf_cl, ce_cl, wp_al1 (y := zX4_leastNearer) dX4_leastNearer_15, wp_getf (y := zX4_leastNearer) kF4_46 dX4_leastNearer_16, wp_il2 (y := zX4_leastNearer) dX4_leastNearer_19, wp_iald (y := zX4_leastNearer) dX4_leastNearer_20, wp_icmp_ge (y := zX4_leastNearer) 84 (by decide) dX4_leastNearer_21, wp_il4 (y := zX4_leastNearer) dX4_leastNearer_24, wp_if_lt (y := zX4_leastNearer) 84 (by decide) dX4_leastNearer_26, wp_al1 (y := zX4_leastNearer) dX4_leastNearer_29, wp_il4 (y := zX4_leastNearer) dX4_leastNearer_30, wp_cv1 (y := zX4_leastNearer) kM4_49 (by decide) dX4_leastNearer_32, (show yo zX2_across = 2 from rfl), wp_is6 (y := zX4_leastNearer) dX4_leastNearer_35, wp_al0 (y := zX4_leastNearer) dX4_leastNearer_37, wp_getf (y := zX4_leastNearer) kF4_9 dX4_leastNearer_38, wp_il6 (y := zX4_leastNearer) dX4_leastNearer_41, wp_iald (y := zX4_leastNearer) dX4_leastNearer_43, wp_al0 (y := zX4_leastNearer) dX4_leastNearer_44, wp_getf (y := zX4_leastNearer) kF4_9 dX4_leastNearer_45, wp_il2 (y := zX4_leastNearer) dX4_leastNearer_48, wp_iald (y := zX4_leastNearer) dX4_leastNearer_49, wp_iconst (y := zX4_leastNearer) (nI 1) ki_1 dX4_leastNearer_50, wp_isub (y := zX4_leastNearer) dX4_leastNearer_51, wp_icmp_ne (y := zX4_leastNearer) 69 (by decide) dX4_leastNearer_52, wp_il3 (y := zX4_leastNearer) dX4_leastNearer_55, wp_il2 (y := zX4_leastNearer) dX4_leastNearer_56, wp_icmp_eq (y := zX4_leastNearer) 66 (by decide) dX4_leastNearer_57, wp_il6 (y := zX4_leastNearer) dX4_leastNearer_60, wp_il3 (y := zX4_leastNearer) dX4_leastNearer_62, wp_icmp_ge (y := zX4_leastNearer) 69 (by decide) dX4_leastNearer_63, wp_il6 (y := zX4_leastNearer) dX4_leastNearer_66, wp_is3 (y := zX4_leastNearer) dX4_leastNearer_68, wp_al1 (y := zX4_leastNearer) dX4_leastNearer_69, wp_getf (y := zX4_leastNearer) kF4_52 dX4_leastNearer_70, wp_il4 (y := zX4_leastNearer) dX4_leastNearer_73, wp_iald (y := zX4_leastNearer) dX4_leastNearer_75, wp_is4 (y := zX4_leastNearer) dX4_leastNearer_76, wp_inc5 (y := zX4_leastNearer) (nI 1) ki_1 dX4_leastNearer_78, wp_goto (y := zX4_leastNearer) 13 (by decide) dX4_leastNearer_81, W.oc, W.g0, W.g1, W.g2, W.g3, W.g4, W.p4, W.a1, W.a2, W.a3, W.a4, S.oc, S.g0, S.g1, S.g2, S.g3, S.g4, S.g5, S.g6, S.g7, S.a1, S.a2, S.a3, S.a4, S.a5, S.a6, S.a7, S.a8, h9, rs, rn, E1, rd, rc, e1, e2]
      · have e2 : (nI best.val = nI cell.val) = False := eq_false (by rw [ce_eq]; exact h2)
        by_cases h3 : o.val < best.val
        · rw [if_pos ⟨h1, Or.inr h3⟩]
          have e1 := eq_true h1
          have e3 : (best.val ≤ o.val) = False := eq_false (by omega)
          simp (disch := first | omega | assumption) only [mm_op_some, true_and, and_true, mm_rc_some, mm_rc_none, nI_add, mm_in_t, nI_clamp, ok0, ok1, ok2, nI_le_, nI_lt0, if_true, if_false, not_true, hf_lt, ce_lt, hf_cl, ce_cl, wp_al1 (y := zX4_leastNearer) dX4_leastNearer_15, wp_getf (y := zX4_leastNearer) kF4_46 dX4_leastNearer_16, wp_il2 (y := zX4_leastNearer) dX4_leastNearer_19, wp_iald (y := zX4_leastNearer) dX4_leastNearer_20, wp_icmp_ge (y := zX4_leastNearer) 84 (by decide) dX4_leastNearer_21, wp_il4 (y := zX4_leastNearer) dX4_leastNearer_24, wp_if_lt (y := zX4_leastNearer) 84 (by decide) dX4_leastNearer_26, wp_al1 (y := zX4_leastNearer) dX4_leastNearer_29, wp_il4 (y := zX4_leastNearer) dX4_leastNearer_30, wp_cv1 (y := zX4_leastNearer) kM4_49 (by decide) dX4_leastNearer_32, (show yo zX2_across = 2 from rfl), wp_is6 (y := zX4_leastNearer) dX4_leastNearer_35, wp_al0 (y := zX4_leastNearer) dX4_leastNearer_37, wp_getf (y := zX4_leastNearer) kF4_9 dX4_leastNearer_38, wp_il6 (y := zX4_leastNearer) dX4_leastNearer_41, wp_iald (y := zX4_leastNearer) dX4_leastNearer_43, wp_al0 (y := zX4_leastNearer) dX4_leastNearer_44, wp_getf (y := zX4_leastNearer) kF4_9 dX4_leastNearer_45, wp_il2 (y := zX4_leastNearer) dX4_leastNearer_48, wp_iald (y := zX4_leastNearer) dX4_leastNearer_49, wp_iconst (y := zX4_leastNearer) (nI 1) ki_1 dX4_leastNearer_50, wp_isub (y := zX4_leastNearer) dX4_leastNearer_51, wp_icmp_ne (y := zX4_leastNearer) 69 (by decide) dX4_leastNearer_52, wp_il3 (y := zX4_leastNearer) dX4_leastNearer_55, wp_il2 (y := zX4_leastNearer) dX4_leastNearer_56, wp_icmp_eq (y := zX4_leastNearer) 66 (by decide) dX4_leastNearer_57, wp_il6 (y := zX4_leastNearer) dX4_leastNearer_60, wp_il3 (y := zX4_leastNearer) dX4_leastNearer_62, wp_icmp_ge (y := zX4_leastNearer) 69 (by decide) dX4_leastNearer_63, wp_il6 (y := zX4_leastNearer) dX4_leastNearer_66, wp_is3 (y := zX4_leastNearer) dX4_leastNearer_68, wp_al1 (y := zX4_leastNearer) dX4_leastNearer_69, wp_getf (y := zX4_leastNearer) kF4_52 dX4_leastNearer_70, wp_il4 (y := zX4_leastNearer) dX4_leastNearer_73, wp_iald (y := zX4_leastNearer) dX4_leastNearer_75, wp_is4 (y := zX4_leastNearer) dX4_leastNearer_76, wp_inc5 (y := zX4_leastNearer) (nI 1) ki_1 dX4_leastNearer_78, wp_goto (y := zX4_leastNearer) 13 (by decide) dX4_leastNearer_81, W.oc, W.g0, W.g1, W.g2, W.g3, W.g4, W.p4, W.a1, W.a2, W.a3, W.a4, S.oc, S.g0, S.g1, S.g2, S.g3, S.g4, S.g5, S.g6, S.g7, S.a1, S.a2, S.a3, S.a4, S.a5, S.a6, S.a7, S.a8, h9, rs, rn, E1, rd, rc, e1, e2, e3]
        · rw [if_neg (fun q => q.2.elim h2 h3)]
          have e1 := eq_true h1
          have e3 : (best.val ≤ o.val) = True := eq_true (by omega)
          simp (disch := first | omega | assumption) only [mm_op_some, true_and, and_true, mm_rc_some, mm_rc_none, nI_add, mm_in_t, nI_clamp, ok0, ok1, ok2, nI_le_, nI_lt0, if_true, if_false, not_true, hf_lt, ce_lt, hf_cl, ce_cl, wp_al1 (y := zX4_leastNearer) dX4_leastNearer_15, wp_getf (y := zX4_leastNearer) kF4_46 dX4_leastNearer_16, wp_il2 (y := zX4_leastNearer) dX4_leastNearer_19, wp_iald (y := zX4_leastNearer) dX4_leastNearer_20, wp_icmp_ge (y := zX4_leastNearer) 84 (by decide) dX4_leastNearer_21, wp_il4 (y := zX4_leastNearer) dX4_leastNearer_24, wp_if_lt (y := zX4_leastNearer) 84 (by decide) dX4_leastNearer_26, wp_al1 (y := zX4_leastNearer) dX4_leastNearer_29, wp_il4 (y := zX4_leastNearer) dX4_leastNearer_30, wp_cv1 (y := zX4_leastNearer) kM4_49 (by decide) dX4_leastNearer_32, (show yo zX2_across = 2 from rfl), wp_is6 (y := zX4_leastNearer) dX4_leastNearer_35, wp_al0 (y := zX4_leastNearer) dX4_leastNearer_37, wp_getf (y := zX4_leastNearer) kF4_9 dX4_leastNearer_38, wp_il6 (y := zX4_leastNearer) dX4_leastNearer_41, wp_iald (y := zX4_leastNearer) dX4_leastNearer_43, wp_al0 (y := zX4_leastNearer) dX4_leastNearer_44, wp_getf (y := zX4_leastNearer) kF4_9 dX4_leastNearer_45, wp_il2 (y := zX4_leastNearer) dX4_leastNearer_48, wp_iald (y := zX4_leastNearer) dX4_leastNearer_49, wp_iconst (y := zX4_leastNearer) (nI 1) ki_1 dX4_leastNearer_50, wp_isub (y := zX4_leastNearer) dX4_leastNearer_51, wp_icmp_ne (y := zX4_leastNearer) 69 (by decide) dX4_leastNearer_52, wp_il3 (y := zX4_leastNearer) dX4_leastNearer_55, wp_il2 (y := zX4_leastNearer) dX4_leastNearer_56, wp_icmp_eq (y := zX4_leastNearer) 66 (by decide) dX4_leastNearer_57, wp_il6 (y := zX4_leastNearer) dX4_leastNearer_60, wp_il3 (y := zX4_leastNearer) dX4_leastNearer_62, wp_icmp_ge (y := zX4_leastNearer) 69 (by decide) dX4_leastNearer_63, wp_al1 (y := zX4_leastNearer) dX4_leastNearer_69, wp_getf (y := zX4_leastNearer) kF4_52 dX4_leastNearer_70, wp_il4 (y := zX4_leastNearer) dX4_leastNearer_73, wp_iald (y := zX4_leastNearer) dX4_leastNearer_75, wp_is4 (y := zX4_leastNearer) dX4_leastNearer_76, wp_inc5 (y := zX4_leastNearer) (nI 1) ki_1 dX4_leastNearer_78, wp_goto (y := zX4_leastNearer) 13 (by decide) dX4_leastNearer_81, W.oc, W.g0, W.g1, W.g2, W.g3, W.g4, W.p4, W.a1, W.a2, W.a3, W.a4, S.oc, S.g0, S.g1, S.g2, S.g3, S.g4, S.g5, S.g6, S.g7, S.a1, S.a2, S.a3, S.a4, S.a5, S.a6, S.a7, S.a8, h9, rs, rn, E1, rd, rc, e1, e2, e3]
    · rw [if_neg (fun q => h1 q.1)]
      have e1 := eq_false h1
      simp (disch := first | omega | assumption) only [mm_op_some, true_and, and_true, mm_rc_some, mm_rc_none, nI_add, mm_in_t, nI_clamp, ok0, ok1, ok2, nI_le_, nI_lt0, if_true, if_false, not_false_eq_true, hf_lt, ce_lt, hf_cl, ce_cl, wp_al1 (y := zX4_leastNearer) dX4_leastNearer_15, wp_getf (y := zX4_leastNearer) kF4_46 dX4_leastNearer_16, wp_il2 (y := zX4_leastNearer) dX4_leastNearer_19, wp_iald (y := zX4_leastNearer) dX4_leastNearer_20, wp_icmp_ge (y := zX4_leastNearer) 84 (by decide) dX4_leastNearer_21, wp_il4 (y := zX4_leastNearer) dX4_leastNearer_24, wp_if_lt (y := zX4_leastNearer) 84 (by decide) dX4_leastNearer_26, wp_al1 (y := zX4_leastNearer) dX4_leastNearer_29, wp_il4 (y := zX4_leastNearer) dX4_leastNearer_30, wp_cv1 (y := zX4_leastNearer) kM4_49 (by decide) dX4_leastNearer_32, (show yo zX2_across = 2 from rfl), wp_is6 (y := zX4_leastNearer) dX4_leastNearer_35, wp_al0 (y := zX4_leastNearer) dX4_leastNearer_37, wp_getf (y := zX4_leastNearer) kF4_9 dX4_leastNearer_38, wp_il6 (y := zX4_leastNearer) dX4_leastNearer_41, wp_iald (y := zX4_leastNearer) dX4_leastNearer_43, wp_al0 (y := zX4_leastNearer) dX4_leastNearer_44, wp_getf (y := zX4_leastNearer) kF4_9 dX4_leastNearer_45, wp_il2 (y := zX4_leastNearer) dX4_leastNearer_48, wp_iald (y := zX4_leastNearer) dX4_leastNearer_49, wp_iconst (y := zX4_leastNearer) (nI 1) ki_1 dX4_leastNearer_50, wp_isub (y := zX4_leastNearer) dX4_leastNearer_51, wp_icmp_ne (y := zX4_leastNearer) 69 (by decide) dX4_leastNearer_52, wp_al1 (y := zX4_leastNearer) dX4_leastNearer_69, wp_getf (y := zX4_leastNearer) kF4_52 dX4_leastNearer_70, wp_il4 (y := zX4_leastNearer) dX4_leastNearer_73, wp_iald (y := zX4_leastNearer) dX4_leastNearer_75, wp_is4 (y := zX4_leastNearer) dX4_leastNearer_76, wp_inc5 (y := zX4_leastNearer) (nI 1) ki_1 dX4_leastNearer_78, wp_goto (y := zX4_leastNearer) 13 (by decide) dX4_leastNearer_81, W.oc, W.g0, W.g1, W.g2, W.g3, W.g4, W.p4, W.a1, W.a2, W.a3, W.a4, S.oc, S.g0, S.g1, S.g2, S.g3, S.g4, S.g5, S.g6, S.g7, S.a1, S.a2, S.a3, S.a4, S.a5, S.a6, S.a7, S.a8, h9, rs, rn, E1, rd, rc, e1]
  · rw [wp_il5 (y := zX4_leastNearer) dX4_leastNearer_13]
    have h9 : (sd M cell ≤ sd M cell) = True := eq_true (Nat.le_refl _)
    simp (disch := first | omega | assumption) only [mm_op_some, true_and, and_true, mm_rc_some, mm_rc_none, nI_xor, tw_xor, pk_mul, nI_add, mm_in_t, nI_clamp, ok0, ok1, ok2, ok3, ok4, n1_0, n0_0, n0_zz, n1_zz, bI_eq0, bI_ne0, bI_zz, nI_le_, nI_lt_, nI_eq_, nI_lt0, nI_ge0, nI_gt0, nI_le0, nI_eq0, m1_lt0, m1_ge0, if_true, if_false, not_true, not_false_eq_true, Classical.not_not, true_or, or_true, false_or, n1_1, k10, Bool.true_eq_false, Bool.false_eq_true, Nat.le_refl, and_self, and_false, false_and, or_self, or_false, hf_lt, ce_lt, hf_cl, ce_cl, i_irr, i_rfl, wp_al1 (y := zX4_leastNearer) dX4_leastNearer_15, wp_getf (y := zX4_leastNearer) kF4_46 dX4_leastNearer_16, wp_il2 (y := zX4_leastNearer) dX4_leastNearer_19, wp_iald (y := zX4_leastNearer) dX4_leastNearer_20, wp_icmp_ge (y := zX4_leastNearer) 84 (by decide) dX4_leastNearer_21, wp_il3 (y := zX4_leastNearer) dX4_leastNearer_84, wp_ireti (y := zX4_leastNearer) rfl dX4_leastNearer_85, W.oc, W.g0, W.g1, W.g2, W.g3, W.g4, W.p4, W.a1, W.a2, W.a3, W.a4, S.oc, S.g0, S.g1, S.g2, S.g3, S.g4, S.g5, S.g6, S.g7, S.a1, S.a2, S.a3, S.a4, S.a5, S.a6, S.a7, S.a8, rs, h9]
    rw [it_fst (f := fun i best => lnS d cell (ow M (tw (nxi M i h))) best)]
    unfold lnN
    rw [fH_hI fh]
theorem lnN_pos (L : LvN M) (H : HasF M) (O : OwL M) (cell : Ce) (hc : 0 < sd M cell) : 0 < sd M (lnN M d cell) := by
  obtain ⟨h, fh, hl⟩ := H cell hc
  unfold lnN
  rw [fH_hI fh]
  refine it_ind (fun i best => lnS d cell (ow M (tw (nxi M i h))) best) (sd M cell) (fun _ c => 0 < sd M c) ?_ cell hc
  intro i a _ ha
  unfold lnS
  split
  · exact O _ (by rw [wl_tw]; exact nxi_lv L i h hl)
  · exact ha
def cmN (M : Ms) (d : Ce → Option Nat) (k i : Nat) (c : Ce) : Ce := it (fun _ c => lnN M d c) k i c
theorem cm_loop (W : WaSh sh w) (S : MeshSh sh b) (R : RepC M μ b) (B : SdB M) (L : LvN M) (H : HasF M) (O : OwL M) (RW : RepW M d μ w) (n : Nat) (hn : n < 2 ^ 31) (v2 : Value) : ∀ (k i : Nat) (c : Ce), i + k = n → 0 < sd M c → wp sh zX4_comeNearer 18 [.ref w, .ref b, v2, .int (nI n), .int (nI c.val), .int (nI i)] [] μ Q = Q (some (.int (nI (cmN M d k i c).val))) μ := by
  intro k
  have Soc := S.oc
  induction k with
  | zero =>
    intro i c hi hc
    have e : i = n := by omega
    subst e
    have h9 : (i ≤ i) = True := eq_true (Nat.le_refl _)
    rw [wp_il5 (y := zX4_comeNearer) dX4_comeNearer_18]
    simp (disch := first | omega | assumption) only [mm_op_some, true_and, and_true, mm_rc_some, mm_rc_none, nI_xor, tw_xor, pk_mul, nI_add, mm_in_t, nI_clamp, ok0, ok1, ok2, ok3, ok4, n1_0, n0_0, n0_zz, n1_zz, bI_eq0, bI_ne0, bI_zz, nI_le_, nI_lt_, nI_eq_, nI_lt0, nI_ge0, nI_gt0, nI_le0, nI_eq0, m1_lt0, m1_ge0, if_true, if_false, not_true, not_false_eq_true, Classical.not_not, true_or, or_true, false_or, n1_1, k10, Bool.true_eq_false, Bool.false_eq_true, Nat.le_refl, and_self, and_false, false_and, or_self, or_false, hf_lt, ce_lt, hf_cl, ce_cl, i_irr, i_rfl, wp_il3 (y := zX4_comeNearer) dX4_comeNearer_20, wp_icmp_ge (y := zX4_comeNearer) 39 (by decide) dX4_comeNearer_21, wp_il4 (y := zX4_comeNearer) dX4_comeNearer_39, wp_ireti (y := zX4_comeNearer) rfl dX4_comeNearer_41, h9]
    rfl
  | succ k ih =>
    intro i c hi hc
    have h9 : (n ≤ i) = False := eq_false (by omega)
    have E1 : ∀ Q', cl sh zX4_leastNearer [.ref w, .ref b, .int (nI c.val)] μ Q' = Q' (some (.int (nI (lnN M d c).val))) μ := fun Q' => c_leastNearer W S R B L H RW c hc
    rw [wp_il5 (y := zX4_comeNearer) dX4_comeNearer_18]
    simp (disch := first | omega | assumption) only [mm_op_some, true_and, and_true, mm_rc_some, mm_rc_none, nI_xor, tw_xor, pk_mul, nI_add, mm_in_t, nI_clamp, ok0, ok1, ok2, ok3, ok4, n1_0, n0_0, n0_zz, n1_zz, bI_eq0, bI_ne0, bI_zz, nI_le_, nI_lt_, nI_eq_, nI_lt0, nI_ge0, nI_gt0, nI_le0, nI_eq0, m1_lt0, m1_ge0, if_true, if_false, not_true, not_false_eq_true, Classical.not_not, true_or, or_true, false_or, n1_1, k10, Bool.true_eq_false, Bool.false_eq_true, Nat.le_refl, and_self, and_false, false_and, or_self, or_false, hf_lt, ce_lt, hf_cl, ce_cl, i_irr, i_rfl, wp_il3 (y := zX4_comeNearer) dX4_comeNearer_20, wp_icmp_ge (y := zX4_comeNearer) 39 (by decide) dX4_comeNearer_21, wp_al0 (y := zX4_comeNearer) dX4_comeNearer_24, wp_al1 (y := zX4_comeNearer) dX4_comeNearer_25, wp_il4 (y := zX4_comeNearer) dX4_comeNearer_26, wp_cv_ri (y := zX4_comeNearer) kM4_55 (by decide) dX4_comeNearer_28, (show yo zX4_leastNearer = 4 from rfl), wp_is4 (y := zX4_comeNearer) dX4_comeNearer_31, wp_inc5 (y := zX4_comeNearer) (nI 1) ki_1 dX4_comeNearer_33, wp_goto (y := zX4_comeNearer) 18 (by decide) dX4_comeNearer_36, W.oc, Soc, h9, E1]
    rw [ih (i + 1) _ (by omega) (lnN_pos L H O c hc)]
    rfl
theorem c_comeNearer (W : WaSh sh w) (S : MeshSh sh b) (R : RepC M μ b) (B : SdB M) (L : LvN M) (H : HasF M) (O : OwL M) (RW : RepW M d μ w) (c : Ce) (hc : 0 < sd M c) (n : Nat) (hn : n < 2 ^ 31) : cl sh zX4_comeNearer [.ref w, .ref b, .int (nI c.val), .int (nI n)] μ Q = Q (some (.int (if nI n ≤ fo (d c) then nI (cmN M d n 0 c).val else -1))) μ := by
  have rd := RW.1 c
  have cb := c.isLt
  show wp sh zX4_comeNearer 0 [.ref w, .ref b, .int (nI c.val), .int (nI n), .null, .null] [] μ Q = _
  by_cases h1 : nI n ≤ fo (d c)
  · rw [if_pos h1]
    have e1 := eq_true h1
    simp (disch := first | omega | assumption) only [mm_op_some, true_and, and_true, mm_in_t, nI_clamp, if_true, if_false, hf_lt, ce_lt, hf_cl, ce_cl, wp_il3 (y := zX4_comeNearer) dX4_comeNearer_0, wp_al0 (y := zX4_comeNearer) dX4_comeNearer_1, wp_getf (y := zX4_comeNearer) kF4_9 dX4_comeNearer_2, wp_il2 (y := zX4_comeNearer) dX4_comeNearer_5, wp_iald (y := zX4_comeNearer) dX4_comeNearer_6, wp_icmp_le (y := zX4_comeNearer) 12 (by decide) dX4_comeNearer_7, wp_iconst (y := zX4_comeNearer) ((-1)) ki_m1 dX4_comeNearer_10, wp_ireti (y := zX4_comeNearer) rfl dX4_comeNearer_11, wp_il2 (y := zX4_comeNearer) dX4_comeNearer_12, wp_is4 (y := zX4_comeNearer) dX4_comeNearer_13, wp_iconst (y := zX4_comeNearer) (nI 0) ki_0 dX4_comeNearer_15, wp_is5 (y := zX4_comeNearer) dX4_comeNearer_16, W.oc, W.g0, W.g1, W.g2, W.g3, W.g4, W.p4, W.a1, W.a2, W.a3, W.a4, rd, e1]
    exact cm_loop W S R B L H O RW n hn _ n 0 c (by omega) hc
  · rw [if_neg h1]
    have e1 := eq_false h1
    simp (disch := first | omega | assumption) only [mm_op_some, true_and, and_true, mm_in_t, nI_clamp, if_true, if_false, hf_lt, ce_lt, hf_cl, ce_cl, wp_il3 (y := zX4_comeNearer) dX4_comeNearer_0, wp_al0 (y := zX4_comeNearer) dX4_comeNearer_1, wp_getf (y := zX4_comeNearer) kF4_9 dX4_comeNearer_2, wp_il2 (y := zX4_comeNearer) dX4_comeNearer_5, wp_iald (y := zX4_comeNearer) dX4_comeNearer_6, wp_icmp_le (y := zX4_comeNearer) 12 (by decide) dX4_comeNearer_7, wp_iconst (y := zX4_comeNearer) ((-1)) ki_m1 dX4_comeNearer_10, wp_ireti (y := zX4_comeNearer) rfl dX4_comeNearer_11, W.oc, W.g0, W.g1, W.g2, W.g3, W.g4, W.p4, W.a1, W.a2, W.a3, W.a4, rd, e1]
end WY5
