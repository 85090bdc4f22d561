section CM5
variable {sh : mm_Sh} {b : Nat} {M : Ms} {μ : mm_U} {Q : Option Value → mm_U → Prop}
theorem hf_lt (h : Hf) : (mm_in (nI h.val) 288 = true) = True := mm_in_t h.isLt (by decide)
theorem ce_lt (h : Ce) : (mm_in (nI h.val) 48 = true) = True := mm_in_t h.isLt (by decide)
theorem wa_lt (h : Wa) : (mm_in (nI h.val) 144 = true) = True := mm_in_t h.isLt (by decide)
theorem hf_cl (h : Hf) : (nI h.val).toNatClampNeg = h.val := nI_clamp (by omega)
theorem ce_cl (h : Ce) : (nI h.val).toNatClampNeg = h.val := nI_clamp (by omega)
theorem wa_cl (h : Wa) : (nI h.val).toNatClampNeg = h.val := nI_clamp (by omega)
def lkM (M : Ms) (a c : Hf) : Ms := sPv (sNx M a c) c a
theorem c_link (S : MeshSh sh b) (R : RepC M μ b) (a c : Hf) : cl sh zX2_link [.ref b, .int (nI a.val), .int (nI c.val)] μ (fun r μ' => r = none ∧ RepC (lkM M a c) μ' b ∧ Fr μ μ' b) := by
  show wp sh zX2_link 0 [.ref b, .int (nI a.val), .int (nI c.val)] [] μ _
  simp (disch := first | omega | assumption) only [wp_al0 (y := zX2_link) dX2_link_0, wp_getf (y := zX2_link) kF2_15 dX2_link_1, wp_il1 (y := zX2_link) dX2_link_4, wp_il2 (y := zX2_link) dX2_link_5, wp_iast (y := zX2_link) dX2_link_6, wp_al0 (y := zX2_link) dX2_link_7, wp_getf (y := zX2_link) kF2_18 dX2_link_8, wp_il2 (y := zX2_link) dX2_link_11, wp_il1 (y := zX2_link) dX2_link_12, wp_iast (y := zX2_link) dX2_link_13, wp_vret (y := zX2_link) rfl dX2_link_14, mm_op_some, true_and, and_true, mm_rc_some, mm_rc_none, nI_xor, tw_xor, pk_mul, nI_add, mm_in_t, nI_clamp, ok0, ok1, ok2, ok3, ok4, n1_0, n0_0, n0_zz, n1_zz, bI_eq0, bI_ne0, bI_zz, nI_le_, nI_lt_, nI_eq_, nI_lt0, nI_ge0, nI_gt0, nI_le0, nI_eq0, m1_lt0, m1_ge0, if_true, if_false, not_true, not_false_eq_true, Classical.not_not, true_or, or_true, false_or, n1_1, k10, Bool.true_eq_false, Bool.false_eq_true, Nat.le_refl, and_self, and_false, false_and, or_self, or_false, hf_lt, ce_lt, wa_lt, ce_vv, hf_vv, wa_vv, i_irr, S.oc, S.g0, S.g1, S.g2, S.g3, S.g4, S.g5, S.g6, S.g7, S.a1, S.a2, S.a3, S.a4, S.a5, S.a6, S.a7, S.a8, hf_cl]
  exact ⟨(R.wNx a c).wPv c a, ((Fr.refl μ b).mu _ (by omega) (by omega)).mu _ (by omega) (by omega)⟩
def unM (M : Ms) (h : Hf) : Ms := sPv (sNx M (pv M h) (nx M h)) (nx (sNx M (pv M h) (nx M h)) h) (pv M h)
theorem c_unlink (S : MeshSh sh b) (R : RepC M μ b) (h : Hf) (hl : lv M (wl h) = true) : cl sh zX2_unlink [.ref b, .int (nI h.val)] μ (fun r μ' => r = none ∧ RepC (unM M h) μ' b ∧ Fr μ μ' b) := by
  have r1 := (R.1 h hl).2.1
  have r2 := (R.1 h hl).2.2.1
  have R1 := R.wNx (pv M h) (nx M h)
  have r3 := (R1.1 h hl).2.1
  have r4 := (R1.1 h hl).2.2.1
  show wp sh zX2_unlink 0 [.ref b, .int (nI h.val)] [] μ _
  simp (disch := first | omega | assumption) only [wp_al0 (y := zX2_unlink) dX2_unlink_0, wp_getf (y := zX2_unlink) kF2_15 dX2_unlink_1, wp_al0 (y := zX2_unlink) dX2_unlink_4, wp_getf (y := zX2_unlink) kF2_18 dX2_unlink_5, wp_il1 (y := zX2_unlink) dX2_unlink_8, wp_iald (y := zX2_unlink) dX2_unlink_9, wp_al0 (y := zX2_unlink) dX2_unlink_10, wp_getf (y := zX2_unlink) kF2_15 dX2_unlink_11, wp_il1 (y := zX2_unlink) dX2_unlink_14, wp_iald (y := zX2_unlink) dX2_unlink_15, wp_iast (y := zX2_unlink) dX2_unlink_16, wp_al0 (y := zX2_unlink) dX2_unlink_17, wp_getf (y := zX2_unlink) kF2_18 dX2_unlink_18, wp_al0 (y := zX2_unlink) dX2_unlink_21, wp_getf (y := zX2_unlink) kF2_15 dX2_unlink_22, wp_il1 (y := zX2_unlink) dX2_unlink_25, wp_iald (y := zX2_unlink) dX2_unlink_26, wp_al0 (y := zX2_unlink) dX2_unlink_27, wp_getf (y := zX2_unlink) kF2_18 dX2_unlink_28, wp_il1 (y := zX2_unlink) dX2_unlink_31, wp_iald (y := zX2_unlink) dX2_unlink_32, wp_iast (y := zX2_unlink) dX2_unlink_33, wp_vret (y := zX2_unlink) rfl dX2_unlink_34, mm_op_some, true_and, and_true, mm_rc_some, mm_rc_none, nI_xor, tw_xor, pk_mul, nI_add, mm_in_t, nI_clamp, ok0, ok1, ok2, ok3, ok4, n1_0, n0_0, n0_zz, n1_zz, bI_eq0, bI_ne0, bI_zz, nI_le_, nI_lt_, nI_eq_, nI_lt0, nI_ge0, nI_gt0, nI_le0, nI_eq0, m1_lt0, m1_ge0, if_true, if_false, not_true, not_false_eq_true, Classical.not_not, true_or, or_true, false_or, n1_1, k10, Bool.true_eq_false, Bool.false_eq_true, Nat.le_refl, and_self, and_false, false_and, or_self, or_false, hf_lt, ce_lt, wa_lt, ce_vv, hf_vv, wa_vv, i_irr, S.oc, S.g0, S.g1, S.g2, S.g3, S.g4, S.g5, S.g6, S.g7, S.a1, S.a2, S.a3, S.a4, S.a5, S.a6, S.a7, S.a8, hf_cl, r1, r2, r3, r4]
  exact ⟨R1.wPv _ (pv M h), ((Fr.refl μ b).mu _ (by omega) (by omega)).mu _ (by omega) (by omega)⟩
def rdM (M : Ms) (h : Hf) (x y : Int32) : Ms := sRy (sRx (sRy (sRx M h x) h y) (tw h) (-x)) (tw h) (-y)
theorem c_setRound (S : MeshSh sh b) (R : RepC M μ b) (h : Hf) (x y : Int32) : cl sh zX2_setRound [.ref b, .int (nI h.val), .int x, .int y] μ (fun r μ' => r = none ∧ RepC (rdM M h x y) μ' b ∧ Fr μ μ' b) := by
  show wp sh zX2_setRound 0 [.ref b, .int (nI h.val), .int x, .int y] [] μ _
  simp (disch := first | omega | assumption) only [wp_al0 (y := zX2_setRound) dX2_setRound_0, wp_getf (y := zX2_setRound) kF2_21 dX2_setRound_1, wp_il1 (y := zX2_setRound) dX2_setRound_4, wp_il2 (y := zX2_setRound) dX2_setRound_5, wp_iast (y := zX2_setRound) dX2_setRound_6, wp_al0 (y := zX2_setRound) dX2_setRound_7, wp_getf (y := zX2_setRound) kF2_24 dX2_setRound_8, wp_il1 (y := zX2_setRound) dX2_setRound_11, wp_il3 (y := zX2_setRound) dX2_setRound_12, wp_iast (y := zX2_setRound) dX2_setRound_13, wp_al0 (y := zX2_setRound) dX2_setRound_14, wp_getf (y := zX2_setRound) kF2_21 dX2_setRound_15, wp_il1 (y := zX2_setRound) dX2_setRound_18, wp_iconst (y := zX2_setRound) (nI 1) ki_1 dX2_setRound_19, wp_ixor (y := zX2_setRound) dX2_setRound_20, wp_il2 (y := zX2_setRound) dX2_setRound_21, wp_ineg (y := zX2_setRound) dX2_setRound_22, wp_iast (y := zX2_setRound) dX2_setRound_23, wp_al0 (y := zX2_setRound) dX2_setRound_24, wp_getf (y := zX2_setRound) kF2_24 dX2_setRound_25, wp_il1 (y := zX2_setRound) dX2_setRound_28, wp_iconst (y := zX2_setRound) (nI 1) ki_1 dX2_setRound_29, wp_ixor (y := zX2_setRound) dX2_setRound_30, wp_il3 (y := zX2_setRound) dX2_setRound_31, wp_ineg (y := zX2_setRound) dX2_setRound_32, wp_iast (y := zX2_setRound) dX2_setRound_33, wp_vret (y := zX2_setRound) rfl dX2_setRound_34, mm_op_some, true_and, and_true, mm_rc_some, mm_rc_none, nI_xor, tw_xor, pk_mul, nI_add, mm_in_t, nI_clamp, ok0, ok1, ok2, ok3, ok4, n1_0, n0_0, n0_zz, n1_zz, bI_eq0, bI_ne0, bI_zz, nI_le_, nI_lt_, nI_eq_, nI_lt0, nI_ge0, nI_gt0, nI_le0, nI_eq0, m1_lt0, m1_ge0, if_true, if_false, not_true, not_false_eq_true, Classical.not_not, true_or, or_true, false_or, n1_1, k10, Bool.true_eq_false, Bool.false_eq_true, Nat.le_refl, and_self, and_false, false_and, or_self, or_false, hf_lt, ce_lt, wa_lt, ce_vv, hf_vv, wa_vv, i_irr, S.oc, S.g0, S.g1, S.g2, S.g3, S.g4, S.g5, S.g6, S.g7, S.a1, S.a2, S.a3, S.a4, S.a5, S.a6, S.a7, S.a8, hf_cl]
  exact ⟨(((R.wRx h x).wRy h y).wRx (tw h) (-x)).wRy (tw h) (-y), ((((Fr.refl μ b).mu _ (by omega) (by omega)).mu _ (by omega) (by omega)).mu _ (by omega) (by omega)).mu _ (by omega) (by omega)⟩
/-- a half comes between two of a cell -/
def inM (M : Ms) (h a c : Hf) : Ms :=
  sSd (sOw (sPv (sNx (sPv (sNx M a h) h a) h c) c h) h (ow M a)) (ow M a) (sd M (ow M a) + 1)
theorem c_insert (S : MeshSh sh b) (R : RepC M μ b) (h a c : Hf) (hh : lv M (wl h) = true) (hl : lv M (wl a) = true) (hs : 0 < sd M (ow M a)) : cl sh zX2_insert [.ref b, .int (nI h.val), .int (nI a.val), .int (nI c.val)] μ (fun r μ' => r = none ∧ RepC (inM M h a c) μ' b ∧ Fr μ μ' b) := by
  have R1 := ((((R.wNx a h).wPv h a).wNx h c).wPv c h)
  have r1 := (R1.1 a hl).1
  have R2 := R1.wOw h (ow M a) hh
  have r2 := (R2.1 h hh).1
  have r3 := R2.2.2.2.1 (ow M a)
  have e1 : ow (sOw (sPv (sNx (sPv (sNx M a h) h a) h c) c h) h (ow M a)) h = ow M a := fu_s _ _ _
  have e2 : ow (sPv (sNx (sPv (sNx M a h) h a) h c) c h) a = ow M a := rfl
  have e3 : sd (sOw (sPv (sNx (sPv (sNx M a h) h a) h c) c h) h (ow M a)) (ow M a) = sd M (ow M a) := rfl
  rw [e1] at r2
  rw [e2] at r1
  rw [e3] at r3
  show wp sh zX2_insert 0 [.ref b, .int (nI h.val), .int (nI a.val), .int (nI c.val)] [] μ _
  simp (disch := first | omega | assumption) only [wp_al0 (y := zX2_insert) dX2_insert_0, wp_getf (y := zX2_insert) kF2_15 dX2_insert_1, wp_il2 (y := zX2_insert) dX2_insert_4, wp_il1 (y := zX2_insert) dX2_insert_5, wp_iast (y := zX2_insert) dX2_insert_6, wp_al0 (y := zX2_insert) dX2_insert_7, wp_getf (y := zX2_insert) kF2_18 dX2_insert_8, wp_il1 (y := zX2_insert) dX2_insert_11, wp_il2 (y := zX2_insert) dX2_insert_12, wp_iast (y := zX2_insert) dX2_insert_13, wp_al0 (y := zX2_insert) dX2_insert_14, wp_getf (y := zX2_insert) kF2_15 dX2_insert_15, wp_il1 (y := zX2_insert) dX2_insert_18, wp_il3 (y := zX2_insert) dX2_insert_19, wp_iast (y := zX2_insert) dX2_insert_20, wp_al0 (y := zX2_insert) dX2_insert_21, wp_getf (y := zX2_insert) kF2_18 dX2_insert_22, wp_il3 (y := zX2_insert) dX2_insert_25, wp_il1 (y := zX2_insert) dX2_insert_26, wp_iast (y := zX2_insert) dX2_insert_27, wp_al0 (y := zX2_insert) dX2_insert_28, wp_getf (y := zX2_insert) kF2_9 dX2_insert_29, wp_il1 (y := zX2_insert) dX2_insert_32, wp_al0 (y := zX2_insert) dX2_insert_33, wp_getf (y := zX2_insert) kF2_9 dX2_insert_34, wp_il2 (y := zX2_insert) dX2_insert_37, wp_iald (y := zX2_insert) dX2_insert_38, wp_iast (y := zX2_insert) dX2_insert_39, wp_al0 (y := zX2_insert) dX2_insert_40, wp_getf (y := zX2_insert) kF2_30 dX2_insert_41, wp_al0 (y := zX2_insert) dX2_insert_44, wp_getf (y := zX2_insert) kF2_9 dX2_insert_45, wp_il1 (y := zX2_insert) dX2_insert_48, wp_iald (y := zX2_insert) dX2_insert_49, wp_dup2 (y := zX2_insert) dX2_insert_50, wp_iald (y := zX2_insert) dX2_insert_51, wp_iconst (y := zX2_insert) (nI 1) ki_1 dX2_insert_52, wp_iadd (y := zX2_insert) dX2_insert_53, wp_iast (y := zX2_insert) dX2_insert_54, wp_vret (y := zX2_insert) rfl dX2_insert_55, mm_op_some, true_and, and_true, mm_rc_some, mm_rc_none, nI_xor, tw_xor, pk_mul, nI_add, mm_in_t, nI_clamp, ok0, ok1, ok2, ok3, ok4, n1_0, n0_0, n0_zz, n1_zz, bI_eq0, bI_ne0, bI_zz, nI_le_, nI_lt_, nI_eq_, nI_lt0, nI_ge0, nI_gt0, nI_le0, nI_eq0, m1_lt0, m1_ge0, if_true, if_false, not_true, not_false_eq_true, Classical.not_not, true_or, or_true, false_or, n1_1, k10, Bool.true_eq_false, Bool.false_eq_true, Nat.le_refl, and_self, and_false, false_and, or_self, or_false, hf_lt, ce_lt, wa_lt, ce_vv, hf_vv, wa_vv, i_irr, S.oc, S.g0, S.g1, S.g2, S.g3, S.g4, S.g5, S.g6, S.g7, S.a1, S.a2, S.a3, S.a4, S.a5, S.a6, S.a7, S.a8, hf_cl, ce_cl, r1, r2, r3]
  refine ⟨R2.wSd (ow M a) (sd M (ow M a) + 1) (fun _ => R2.2.2.2.2 _ hs), ?_⟩
  exact ((((((Fr.refl μ b).mu _ (by omega) (by omega)).mu _ (by omega) (by omega)).mu _ (by omega) (by omega)).mu _ (by omega) (by omega)).mu _ (by omega) (by omega)).mu _ (by omega) (by omega)
theorem c_dropWall (S : MeshSh sh b) (R : RepC M μ b) (w : Wa) : cl sh zX2_dropWall [.ref b, .int (nI w.val)] μ (fun r μ' => r = none ∧ RepC (sLv M w false) μ' b ∧ Fr μ μ' b) := by
  have h0v := (h0 w).isLt
  have h1v := (h1 w).isLt
  rw [h0_val] at h0v
  rw [h1_val] at h1v
  show wp sh zX2_dropWall 0 [.ref b, .int (nI w.val)] [] μ _
  simp (disch := first | omega | assumption) only [wp_al0 (y := zX2_dropWall) dX2_dropWall_0, wp_getf (y := zX2_dropWall) kF2_9 dX2_dropWall_1, wp_iconst (y := zX2_dropWall) (nI 2) ki_2 dX2_dropWall_4, wp_il1 (y := zX2_dropWall) dX2_dropWall_5, wp_imul (y := zX2_dropWall) dX2_dropWall_6, wp_iconst (y := zX2_dropWall) ((-1)) ki_m1 dX2_dropWall_7, wp_iast (y := zX2_dropWall) dX2_dropWall_8, wp_al0 (y := zX2_dropWall) dX2_dropWall_9, wp_getf (y := zX2_dropWall) kF2_9 dX2_dropWall_10, wp_iconst (y := zX2_dropWall) (nI 2) ki_2 dX2_dropWall_13, wp_il1 (y := zX2_dropWall) dX2_dropWall_14, wp_imul (y := zX2_dropWall) dX2_dropWall_15, wp_iconst (y := zX2_dropWall) (nI 1) ki_1 dX2_dropWall_16, wp_iadd (y := zX2_dropWall) dX2_dropWall_17, wp_iconst (y := zX2_dropWall) ((-1)) ki_m1 dX2_dropWall_18, wp_iast (y := zX2_dropWall) dX2_dropWall_19, wp_al0 (y := zX2_dropWall) dX2_dropWall_20, wp_getf (y := zX2_dropWall) kF2_27 dX2_dropWall_21, wp_il1 (y := zX2_dropWall) dX2_dropWall_24, wp_iconst (y := zX2_dropWall) (nI 0) ki_0 dX2_dropWall_25, wp_iast (y := zX2_dropWall) dX2_dropWall_26, wp_vret (y := zX2_dropWall) rfl dX2_dropWall_27, mm_op_some, true_and, and_true, mm_rc_some, mm_rc_none, nI_xor, tw_xor, pk_mul, nI_add, mm_in_t, nI_clamp, ok0, ok1, ok2, ok3, ok4, n1_0, n0_0, n0_zz, n1_zz, bI_eq0, bI_ne0, bI_zz, nI_le_, nI_lt_, nI_eq_, nI_lt0, nI_ge0, nI_gt0, nI_le0, nI_eq0, m1_lt0, m1_ge0, if_true, if_false, not_true, not_false_eq_true, Classical.not_not, true_or, or_true, false_or, n1_1, k10, Bool.true_eq_false, Bool.false_eq_true, Nat.le_refl, and_self, and_false, false_and, or_self, or_false, hf_lt, ce_lt, wa_lt, ce_vv, hf_vv, wa_vv, i_irr, S.oc, S.g0, S.g1, S.g2, S.g3, S.g4, S.g5, S.g6, S.g7, S.a1, S.a2, S.a3, S.a4, S.a5, S.a6, S.a7, S.a8, wa_cl]
  refine ⟨?_, (((Fr.refl μ b).mu _ (by omega) (by omega)).mu _ (by omega) (by omega)).mu _ (by omega) (by omega)⟩
  have := R.wDrop w (nI 0)
  rw [mu_n _ _ (show b + 6 ≠ b + 1 by omega), mu_n _ _ (show b + 6 ≠ b + 1 by omega)]
  exact this
theorem c_dropCell (S : MeshSh sh b) (R : RepC M μ b) (c : Ce) : cl sh zX2_dropCell [.ref b, .int (nI c.val)] μ (fun r μ' => r = none ∧ RepC (sAr (sSd M c 0) c (nI 0)) μ' b ∧ Fr μ μ' b) := by
  show wp sh zX2_dropCell 0 [.ref b, .int (nI c.val)] [] μ _
  simp (disch := first | omega | assumption) only [wp_al0 (y := zX2_dropCell) dX2_dropCell_0, wp_getf (y := zX2_dropCell) kF2_30 dX2_dropCell_1, wp_il1 (y := zX2_dropCell) dX2_dropCell_4, wp_iconst (y := zX2_dropCell) (nI 0) ki_0 dX2_dropCell_5, wp_iast (y := zX2_dropCell) dX2_dropCell_6, wp_al0 (y := zX2_dropCell) dX2_dropCell_7, wp_getf (y := zX2_dropCell) kF2_33 dX2_dropCell_8, wp_il1 (y := zX2_dropCell) dX2_dropCell_11, wp_iconst (y := zX2_dropCell) (nI 0) ki_0 dX2_dropCell_12, wp_iast (y := zX2_dropCell) dX2_dropCell_13, wp_vret (y := zX2_dropCell) rfl dX2_dropCell_14, mm_op_some, true_and, and_true, mm_rc_some, mm_rc_none, nI_xor, tw_xor, pk_mul, nI_add, mm_in_t, nI_clamp, ok0, ok1, ok2, ok3, ok4, n1_0, n0_0, n0_zz, n1_zz, bI_eq0, bI_ne0, bI_zz, nI_le_, nI_lt_, nI_eq_, nI_lt0, nI_ge0, nI_gt0, nI_le0, nI_eq0, m1_lt0, m1_ge0, if_true, if_false, not_true, not_false_eq_true, Classical.not_not, true_or, or_true, false_or, n1_1, k10, Bool.true_eq_false, Bool.false_eq_true, Nat.le_refl, and_self, and_false, false_and, or_self, or_false, hf_lt, ce_lt, wa_lt, ce_vv, hf_vv, wa_vv, i_irr, S.oc, S.g0, S.g1, S.g2, S.g3, S.g4, S.g5, S.g6, S.g7, S.a1, S.a2, S.a3, S.a4, S.a5, S.a6, S.a7, S.a8, ce_cl]
  exact ⟨(R.wSd c 0 (fun h => absurd h (by decide))).wAr c (nI 0), ((Fr.refl μ b).mu _ (by omega) (by omega)).mu _ (by omega) (by omega)⟩
/-- SWAP of a wall -/
def flM (M : Ms) (w : Wa) : Ms :=
  let a := h0 w
  let o := h1 w
  let M1 := unM (unM M a) o
  let M2 := sSd M1 (ow M a) (sd M1 (ow M a) - 1)
  let M3 := sSd M2 (ow M o) (sd M2 (ow M o) - 1)
  let M4 := inM M3 a (tw (nx M a)) (tw (pv M o))
  let M5 := inM M4 o (tw (nx M o)) (tw (pv M a))
  sLn (rdM M5 a (rx M (tw (nx M a)) + rx M (pv M a)) (ry M (tw (nx M a)) + ry M (pv M a))) w (nI 10)
/-- what a swap needs of the mesh -/
def FlOk (M : Ms) (w : Wa) : Prop := lv M w = true ∧ lv M (wl (nx M (h0 w))) = true ∧ lv M (wl (pv M (h0 w))) = true ∧ lv M (wl (nx M (h1 w))) = true ∧ lv M (wl (pv M (h1 w))) = true ∧ ow M (h0 w) ≠ ow M (h1 w) ∧ 0 < sd M (en M (h0 w)) ∧ 0 < sd M (en M (h1 w)) ∧ 1 < sd M (ow M (h0 w)) ∧ 1 < sd M (ow M (h1 w)) ∧ ow M (h0 w) ≠ en M (h0 w) ∧ ow M (h0 w) ≠ en M (h1 w) ∧ ow M (h1 w) ≠ en M (h0 w) ∧ ow M (h1 w) ≠ en M (h1 w) ∧ en M (h0 w) ≠ en M (h1 w)
theorem c_flip (S : MeshSh sh b) (R : RepC M μ b) (B : SdB M) (w : Wa) (ok : FlOk M w) : cl sh zX2_flip [.ref b, .int (nI w.val)] μ (fun r μ' => r = none ∧ RepC (flM M w) μ' b ∧ Fr μ μ' b) := by
  obtain ⟨hl, l1, l2, l3, l4, n1, s1, s2, s3, s4, d1, d2, d3, d4, d5⟩ := ok
  have la : lv M (wl (h0 w)) = true := by rw [wl_h0]; exact hl
  have lo : lv M (wl (h1 w)) = true := by rw [wl_h1]; exact hl
  have ha := (h0 w).isLt
  have ho := (h1 w).isLt
  have ea := h0_val w
  have e10 : (h0 w).val + 1 = (h1 w).val := rfl
  have r1 := (R.1 (h0 w) la).2.1
  have r2 := (R.1 (h0 w) la).2.2.1
  have r3 := (R.1 (h1 w) lo).2.1
  have r4 := (R.1 (h1 w) lo).2.2.1
  have r5 := (R.1 (tw (nx M (h0 w))) (by rw [wl_tw]; exact l1)).2.2.2
  have r6 := (R.1 (pv M (h0 w)) l2).2.2.2
  show wp sh zX2_flip 0 [.ref b, .int (nI w.val), .null, .null, .null, .null, .null, .null, .null, .null] [] μ _
  simp (disch := first | omega | assumption) only [wp_iconst (y := zX2_flip) (nI 2) ki_2 dX2_flip_0, wp_il1 (y := zX2_flip) dX2_flip_1, wp_imul (y := zX2_flip) dX2_flip_2, wp_is2 (y := zX2_flip) dX2_flip_3, wp_il2 (y := zX2_flip) dX2_flip_4, wp_iconst (y := zX2_flip) (nI 1) ki_1 dX2_flip_5, wp_iadd (y := zX2_flip) dX2_flip_6, wp_is3 (y := zX2_flip) dX2_flip_7, wp_al0 (y := zX2_flip) dX2_flip_8, wp_getf (y := zX2_flip) kF2_15 dX2_flip_9, wp_il2 (y := zX2_flip) dX2_flip_12, wp_iald (y := zX2_flip) dX2_flip_13, wp_iconst (y := zX2_flip) (nI 1) ki_1 dX2_flip_14, wp_ixor (y := zX2_flip) dX2_flip_15, wp_is4 (y := zX2_flip) dX2_flip_16, wp_al0 (y := zX2_flip) dX2_flip_18, wp_getf (y := zX2_flip) kF2_18 dX2_flip_19, wp_il3 (y := zX2_flip) dX2_flip_22, wp_iald (y := zX2_flip) dX2_flip_23, wp_iconst (y := zX2_flip) (nI 1) ki_1 dX2_flip_24, wp_ixor (y := zX2_flip) dX2_flip_25, wp_is5 (y := zX2_flip) dX2_flip_26, wp_al0 (y := zX2_flip) dX2_flip_28, wp_getf (y := zX2_flip) kF2_15 dX2_flip_29, wp_il3 (y := zX2_flip) dX2_flip_32, wp_iald (y := zX2_flip) dX2_flip_33, wp_iconst (y := zX2_flip) (nI 1) ki_1 dX2_flip_34, wp_ixor (y := zX2_flip) dX2_flip_35, wp_is6 (y := zX2_flip) dX2_flip_36, wp_al0 (y := zX2_flip) dX2_flip_38, wp_getf (y := zX2_flip) kF2_18 dX2_flip_39, wp_il2 (y := zX2_flip) dX2_flip_42, wp_iald (y := zX2_flip) dX2_flip_43, wp_iconst (y := zX2_flip) (nI 1) ki_1 dX2_flip_44, wp_ixor (y := zX2_flip) dX2_flip_45, wp_is7 (y := zX2_flip) dX2_flip_46, wp_al0 (y := zX2_flip) dX2_flip_48, wp_getf (y := zX2_flip) kF2_21 dX2_flip_49, wp_il4 (y := zX2_flip) dX2_flip_52, wp_iald (y := zX2_flip) dX2_flip_54, wp_al0 (y := zX2_flip) dX2_flip_55, wp_getf (y := zX2_flip) kF2_21 dX2_flip_56, wp_al0 (y := zX2_flip) dX2_flip_59, wp_getf (y := zX2_flip) kF2_18 dX2_flip_60, wp_il2 (y := zX2_flip) dX2_flip_63, wp_iald (y := zX2_flip) dX2_flip_64, wp_iald (y := zX2_flip) dX2_flip_65, wp_iadd (y := zX2_flip) dX2_flip_66, wp_is8 (y := zX2_flip) dX2_flip_67, wp_al0 (y := zX2_flip) dX2_flip_69, wp_getf (y := zX2_flip) kF2_24 dX2_flip_70, wp_il4 (y := zX2_flip) dX2_flip_73, wp_iald (y := zX2_flip) dX2_flip_75, wp_al0 (y := zX2_flip) dX2_flip_76, wp_getf (y := zX2_flip) kF2_24 dX2_flip_77, wp_al0 (y := zX2_flip) dX2_flip_80, wp_getf (y := zX2_flip) kF2_18 dX2_flip_81, wp_il2 (y := zX2_flip) dX2_flip_84, wp_iald (y := zX2_flip) dX2_flip_85, wp_iald (y := zX2_flip) dX2_flip_86, wp_iadd (y := zX2_flip) dX2_flip_87, wp_is9 (y := zX2_flip) dX2_flip_88, wp_al0 (y := zX2_flip) dX2_flip_90, wp_il2 (y := zX2_flip) dX2_flip_91, wp_cv1 (y := zX2_flip) kM2_84 (by decide) dX2_flip_92, (show yo zX2_unlink = 2 from rfl), mm_op_some, true_and, and_true, mm_rc_some, mm_rc_none, nI_xor, tw_xor, pk_mul, nI_add, mm_in_t, nI_clamp, ok0, ok1, ok2, ok3, ok4, n1_0, n0_0, n0_zz, n1_zz, bI_eq0, bI_ne0, bI_zz, nI_le_, nI_lt_, nI_eq_, nI_lt0, nI_ge0, nI_gt0, nI_le0, nI_eq0, m1_lt0, m1_ge0, if_true, if_false, not_true, not_false_eq_true, Classical.not_not, true_or, or_true, false_or, n1_1, k10, Bool.true_eq_false, Bool.false_eq_true, Nat.le_refl, and_self, and_false, false_and, or_self, or_false, hf_lt, ce_lt, wa_lt, ce_vv, hf_vv, wa_vv, i_irr, S.oc, S.g0, S.g1, S.g2, S.g3, S.g4, S.g5, S.g6, S.g7, S.a1, S.a2, S.a3, S.a4, S.a5, S.a6, S.a7, S.a8, ← ea, e10, hf_cl, r1, r2, r3, r4, r5, r6]
  refine cl_mono (c_unlink S R (h0 w) la) ?_
  rintro r μ1 ⟨rfl, R1, F1⟩
  simp (disch := first | omega | assumption) only [wp_al0 (y := zX2_flip) dX2_flip_95, wp_il3 (y := zX2_flip) dX2_flip_96, wp_cv1 (y := zX2_flip) kM2_84 (by decide) dX2_flip_97, (show yo zX2_unlink = 2 from rfl), mm_op_some, true_and, and_true, mm_rc_some, mm_rc_none, nI_xor, tw_xor, pk_mul, nI_add, mm_in_t, nI_clamp, ok0, ok1, ok2, ok3, ok4, n1_0, n0_0, n0_zz, n1_zz, bI_eq0, bI_ne0, bI_zz, nI_le_, nI_lt_, nI_eq_, nI_lt0, nI_ge0, nI_gt0, nI_le0, nI_eq0, m1_lt0, m1_ge0, if_true, if_false, not_true, not_false_eq_true, Classical.not_not, true_or, or_true, false_or, n1_1, k10, Bool.true_eq_false, Bool.false_eq_true, Nat.le_refl, and_self, and_false, false_and, or_self, or_false, hf_lt, ce_lt, wa_lt, ce_vv, hf_vv, wa_vv, i_irr, S.oc, S.g0, S.g1, S.g2, S.g3, S.g4, S.g5, S.g6, S.g7, S.a1, S.a2, S.a3, S.a4, S.a5, S.a6, S.a7, S.a8]
  refine cl_mono (c_unlink S R1 (h1 w) lo) ?_
  rintro r μ2 ⟨rfl, R2, F2⟩
  have q1 := (R2.1 (h0 w) la).1
  have q2 := R2.2.2.2.1 (ow M (h0 w))
  have b1 := B (ow M (h0 w))
  have b2 := B (ow M (h1 w))
  have u1 : ow (unM (unM M (h0 w)) (h1 w)) = ow M := rfl
  have u2 : sd (unM (unM M (h0 w)) (h1 w)) = sd M := rfl
  rw [u1] at q1
  rw [u2] at q2
  have R3 := R2.wSd (ow M (h0 w)) (sd M (ow M (h0 w)) - 1) (fun _ => R2.2.2.2.2 _ (by rw [u2]; omega))
  have q3 := (R3.1 (h1 w) lo).1
  have q4 := R3.2.2.2.1 (ow M (h1 w))
  have u3 : ow (sSd (unM (unM M (h0 w)) (h1 w)) (ow M (h0 w)) (sd M (ow M (h0 w)) - 1)) = ow M := rfl
  have u4 : sd (sSd (unM (unM M (h0 w)) (h1 w)) (ow M (h0 w)) (sd M (ow M (h0 w)) - 1)) (ow M (h1 w)) = sd M (ow M (h1 w)) := fu_n _ _ (Ne.symm n1)
  rw [u3] at q3
  rw [u4] at q4
  have p1 : nI (sd M (ow M (h0 w))) - nI 1 = nI (sd M (ow M (h0 w)) - 1) := pk_sub (by omega)
  have p2 : nI (sd M (ow M (h1 w))) - nI 1 = nI (sd M (ow M (h1 w)) - 1) := pk_sub (by omega)
  have R4 := R3.wSd (ow M (h1 w)) (sd M (ow M (h1 w)) - 1) (fun _ => R3.2.2.2.2 _ (by rw [u4]; omega))
  simp (disch := first | omega | assumption) only [wp_al0 (y := zX2_flip) dX2_flip_100, wp_getf (y := zX2_flip) kF2_30 dX2_flip_101, wp_al0 (y := zX2_flip) dX2_flip_104, wp_getf (y := zX2_flip) kF2_9 dX2_flip_105, wp_il2 (y := zX2_flip) dX2_flip_108, wp_iald (y := zX2_flip) dX2_flip_109, wp_dup2 (y := zX2_flip) dX2_flip_110, wp_iald (y := zX2_flip) dX2_flip_111, wp_iconst (y := zX2_flip) (nI 1) ki_1 dX2_flip_112, wp_isub (y := zX2_flip) dX2_flip_113, wp_iast (y := zX2_flip) dX2_flip_114, wp_al0 (y := zX2_flip) dX2_flip_115, wp_getf (y := zX2_flip) kF2_30 dX2_flip_116, wp_al0 (y := zX2_flip) dX2_flip_119, wp_getf (y := zX2_flip) kF2_9 dX2_flip_120, wp_il3 (y := zX2_flip) dX2_flip_123, wp_iald (y := zX2_flip) dX2_flip_124, wp_dup2 (y := zX2_flip) dX2_flip_125, wp_iald (y := zX2_flip) dX2_flip_126, wp_iconst (y := zX2_flip) (nI 1) ki_1 dX2_flip_127, wp_isub (y := zX2_flip) dX2_flip_128, wp_iast (y := zX2_flip) dX2_flip_129, wp_al0 (y := zX2_flip) dX2_flip_130, wp_il2 (y := zX2_flip) dX2_flip_131, wp_il4 (y := zX2_flip) dX2_flip_132, wp_il5 (y := zX2_flip) dX2_flip_134, wp_cv3 (y := zX2_flip) kM2_88 (by decide) dX2_flip_136, (show yo zX2_insert = 2 from rfl), mm_op_some, true_and, and_true, mm_rc_some, mm_rc_none, nI_xor, tw_xor, pk_mul, nI_add, mm_in_t, nI_clamp, ok0, ok1, ok2, ok3, ok4, n1_0, n0_0, n0_zz, n1_zz, bI_eq0, bI_ne0, bI_zz, nI_le_, nI_lt_, nI_eq_, nI_lt0, nI_ge0, nI_gt0, nI_le0, nI_eq0, m1_lt0, m1_ge0, if_true, if_false, not_true, not_false_eq_true, Classical.not_not, true_or, or_true, false_or, n1_1, k10, Bool.true_eq_false, Bool.false_eq_true, Nat.le_refl, and_self, and_false, false_and, or_self, or_false, hf_lt, ce_lt, wa_lt, ce_vv, hf_vv, wa_vv, i_irr, S.oc, S.g0, S.g1, S.g2, S.g3, S.g4, S.g5, S.g6, S.g7, S.a1, S.a2, S.a3, S.a4, S.a5, S.a6, S.a7, S.a8, hf_cl, ce_cl, q1, q2, q3, q4, p1, p2]
  have v1 : ∀ c, c ≠ ow M (h0 w) → c ≠ ow M (h1 w) → sd (sSd (sSd (unM (unM M (h0 w)) (h1 w)) (ow M (h0 w)) (sd M (ow M (h0 w)) - 1)) (ow M (h1 w)) (sd M (ow M (h1 w)) - 1)) c = sd M c := fun c h1 h2 => (fu_n _ _ h2).trans (fu_n _ _ h1)
  refine cl_mono (c_insert S R4 (h0 w) (tw (nx M (h0 w))) (tw (pv M (h1 w))) la (by rw [wl_tw]; exact l1) (by show 0 < sd (sSd (sSd (unM (unM M (h0 w)) (h1 w)) (ow M (h0 w)) (sd M (ow M (h0 w)) - 1)) (ow M (h1 w)) (sd M (ow M (h1 w)) - 1)) (en M (h0 w)); rw [v1 _ (Ne.symm d1) (Ne.symm d3)]; exact s1)) ?_
  rintro r μ3 ⟨rfl, R5, F5⟩
  simp (disch := first | omega | assumption) only [wp_al0 (y := zX2_flip) dX2_flip_139, wp_il3 (y := zX2_flip) dX2_flip_140, wp_il6 (y := zX2_flip) dX2_flip_141, wp_il7 (y := zX2_flip) dX2_flip_143, wp_cv3 (y := zX2_flip) kM2_88 (by decide) dX2_flip_145, (show yo zX2_insert = 2 from rfl), mm_op_some, true_and, and_true, mm_rc_some, mm_rc_none, nI_xor, tw_xor, pk_mul, nI_add, mm_in_t, nI_clamp, ok0, ok1, ok2, ok3, ok4, n1_0, n0_0, n0_zz, n1_zz, bI_eq0, bI_ne0, bI_zz, nI_le_, nI_lt_, nI_eq_, nI_lt0, nI_ge0, nI_gt0, nI_le0, nI_eq0, m1_lt0, m1_ge0, if_true, if_false, not_true, not_false_eq_true, Classical.not_not, true_or, or_true, false_or, n1_1, k10, Bool.true_eq_false, Bool.false_eq_true, Nat.le_refl, and_self, and_false, false_and, or_self, or_false, hf_lt, ce_lt, wa_lt, ce_vv, hf_vv, wa_vv, i_irr, S.oc, S.g0, S.g1, S.g2, S.g3, S.g4, S.g5, S.g6, S.g7, S.a1, S.a2, S.a3, S.a4, S.a5, S.a6, S.a7, S.a8]
  have tneq : tw (nx M (h1 w)) ≠ h0 w := fun e => d2 (by show _ = ow M (tw (nx M (h1 w))); rw [e])
  refine cl_mono (c_insert S R5 (h1 w) (tw (nx M (h1 w))) (tw (pv M (h0 w))) lo (by rw [wl_tw]; exact l3) ?_) ?_
  · have f1 : ow (inM (sSd (sSd (unM (unM M (h0 w)) (h1 w)) (ow M (h0 w)) (sd M (ow M (h0 w)) - 1)) (ow M (h1 w)) (sd M (ow M (h1 w)) - 1)) (h0 w) (tw (nx M (h0 w))) (tw (pv M (h1 w)))) (tw (nx M (h1 w))) = en M (h1 w) := fu_n _ _ tneq
    rw [f1]
    have f2 : sd (inM (sSd (sSd (unM (unM M (h0 w)) (h1 w)) (ow M (h0 w)) (sd M (ow M (h0 w)) - 1)) (ow M (h1 w)) (sd M (ow M (h1 w)) - 1)) (h0 w) (tw (nx M (h0 w))) (tw (pv M (h1 w)))) (en M (h1 w)) = sd M (en M (h1 w)) := (fu_n _ _ (Ne.symm d5)).trans (v1 _ (Ne.symm d2) (Ne.symm d4))
    rw [f2]
    exact s2
  rintro r μ4 ⟨rfl, R6, F6⟩
  simp (disch := first | omega | assumption) only [wp_al0 (y := zX2_flip) dX2_flip_148, wp_il2 (y := zX2_flip) dX2_flip_149, wp_il8 (y := zX2_flip) dX2_flip_150, wp_il9 (y := zX2_flip) dX2_flip_152, wp_cv3 (y := zX2_flip) kM2_64 (by decide) dX2_flip_154, (show yo zX2_setRound = 2 from rfl), mm_op_some, true_and, and_true, mm_rc_some, mm_rc_none, nI_xor, tw_xor, pk_mul, nI_add, mm_in_t, nI_clamp, ok0, ok1, ok2, ok3, ok4, n1_0, n0_0, n0_zz, n1_zz, bI_eq0, bI_ne0, bI_zz, nI_le_, nI_lt_, nI_eq_, nI_lt0, nI_ge0, nI_gt0, nI_le0, nI_eq0, m1_lt0, m1_ge0, if_true, if_false, not_true, not_false_eq_true, Classical.not_not, true_or, or_true, false_or, n1_1, k10, Bool.true_eq_false, Bool.false_eq_true, Nat.le_refl, and_self, and_false, false_and, or_self, or_false, hf_lt, ce_lt, wa_lt, ce_vv, hf_vv, wa_vv, i_irr, S.oc, S.g0, S.g1, S.g2, S.g3, S.g4, S.g5, S.g6, S.g7, S.a1, S.a2, S.a3, S.a4, S.a5, S.a6, S.a7, S.a8]
  refine cl_mono (c_setRound S R6 (h0 w) (rx M (tw (nx M (h0 w))) + rx M (pv M (h0 w))) (ry M (tw (nx M (h0 w))) + ry M (pv M (h0 w)))) ?_
  rintro r μ5 ⟨rfl, R7, F7⟩
  simp (disch := first | omega | assumption) only [wp_al0 (y := zX2_flip) dX2_flip_157, wp_getf (y := zX2_flip) kF2_27 dX2_flip_158, wp_il1 (y := zX2_flip) dX2_flip_161, wp_bipush (y := zX2_flip) (nI 10) kb_10 dX2_flip_162, wp_iast (y := zX2_flip) dX2_flip_164, wp_vret (y := zX2_flip) rfl dX2_flip_165, mm_op_some, true_and, and_true, mm_rc_some, mm_rc_none, nI_xor, tw_xor, pk_mul, nI_add, mm_in_t, nI_clamp, ok0, ok1, ok2, ok3, ok4, n1_0, n0_0, n0_zz, n1_zz, bI_eq0, bI_ne0, bI_zz, nI_le_, nI_lt_, nI_eq_, nI_lt0, nI_ge0, nI_gt0, nI_le0, nI_eq0, m1_lt0, m1_ge0, if_true, if_false, not_true, not_false_eq_true, Classical.not_not, true_or, or_true, false_or, n1_1, k10, Bool.true_eq_false, Bool.false_eq_true, Nat.le_refl, and_self, and_false, false_and, or_self, or_false, hf_lt, ce_lt, wa_lt, ce_vv, hf_vv, wa_vv, i_irr, S.oc, S.g0, S.g1, S.g2, S.g3, S.g4, S.g5, S.g6, S.g7, S.a1, S.a2, S.a3, S.a4, S.a5, S.a6, S.a7, S.a8, wa_cl]
  have R8 := R7.wLn w (nI 10)
  refine ⟨?_, ?_⟩
  · have e5 : sd (unM (unM M (h0 w)) (h1 w)) (ow M (h0 w)) = sd M (ow M (h0 w)) := rfl
    unfold flM
    dsimp only
    rw [e5, u4]
    exact R8
  · refine Fr.mu ?_ _ (by omega) (by omega)
    refine Fr.trans ?_ F7
    refine Fr.trans ?_ F6
    refine Fr.trans ?_ F5
    refine Fr.mu ?_ _ (by omega) (by omega)
    refine Fr.mu ?_ _ (by omega) (by omega)
    exact F1.trans F2
end CM5
