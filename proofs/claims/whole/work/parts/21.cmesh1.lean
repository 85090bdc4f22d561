section CM1
variable {sh : mm_Sh} {b : Nat} {M : Ms} {μ : mm_U} {Q : Option Value → mm_U → Prop}
theorem RepC.sdv (R : RepC M μ b) {i : Nat} (hi : i < 48) : μ (b + 7) i = nI (sd M (cI i)) := by
  have := R.2.2.2.1 (cI i)
  rw [cI_lt hi] at this
  exact this
theorem RepC.arv (R : RepC M μ b) {i : Nat} (hi : i < 48) (h : 0 < sd M (cI i)) : μ (b + 8) i = ar M (cI i) := by
  have := R.2.2.2.2 (cI i) h
  rw [cI_lt hi] at this
  exact this
theorem RepC.lnv (R : RepC M μ b) {i : Nat} (hi : i < 144) (h : lv M (wI i) = true) : μ (b + 6) i = ln M (wI i) := by
  have := R.2.2.1 (wI i) h
  rw [wI_lt hi] at this
  exact this
theorem RepC.owv (R : RepC M μ b) {i : Nat} (hi : i < 288) (h : lv M (wl (hI i)) = true) : μ (b + 1) i = nI (ow M (hI i)).val := by
  have := (R.1 (hI i) h).1
  rw [hI_lt hi] at this
  exact this
theorem RepC.owd (R : RepC M μ b) {i : Nat} (hi : i < 288) (h : lv M (wl (hI i)) = false) : μ (b + 1) i = -1 := by
  have := R.2.1 (hI i) h
  rw [hI_lt hi] at this
  exact this
theorem RepC.nxv (R : RepC M μ b) {i : Nat} (hi : i < 288) (h : lv M (wl (hI i)) = true) : μ (b + 2) i = nI (nx M (hI i)).val := by
  have := (R.1 (hI i) h).2.1
  rw [hI_lt hi] at this
  exact this
theorem RepC.pvv (R : RepC M μ b) {i : Nat} (hi : i < 288) (h : lv M (wl (hI i)) = true) : μ (b + 3) i = nI (pv M (hI i)).val := by
  have := (R.1 (hI i) h).2.2.1
  rw [hI_lt hi] at this
  exact this
theorem hI2 (w : Wa) : hI (2 * w.val) = h0 w := Fin.ext (hI_lt (h0 w).isLt)
theorem hI21 (w : Wa) : hI (2 * w.val + 1) = h1 w := Fin.ext (hI_lt (h1 w).isLt)
theorem wl_hI {i : Nat} (hi : i < 144) : wl (hI (2 * i)) = wI i := by
  apply Fin.ext
  rw [wl_val, hI_lt (by omega), wI_lt hi]
  omega
theorem wl_hI1 {i : Nat} (hi : i < 144) : wl (hI (2 * i + 1)) = wI i := by
  apply Fin.ext
  rw [wl_val, hI_lt (by omega), wI_lt hi]
  omega
/-- hasCell -/
theorem c_hasCell1 (S : MeshSh sh b) (R : RepC M μ b) (B : SdB M) {i : Nat} (hi : i < 48) (hc : 0 < sd M (cI i)) : cl sh zX2_hasCell [.ref b, .int (nI i)] μ Q = Q (some (.int (nI 1))) μ := by
  have rs := R.sdv hi
  have bs := B (cI i)
  have h9 : ¬ 48 ≤ i := by omega
  have h8 : ¬ sd M (cI i) = 0 := by omega
  show wp sh zX2_hasCell 0 [.ref b, .int (nI i)] [] μ Q = _
  simp (disch := first | omega | assumption) only [wp_il1 (y := zX2_hasCell) dX2_hasCell_0, wp_if_lt (y := zX2_hasCell) 23 (by decide) dX2_hasCell_1, wp_il1 (y := zX2_hasCell) dX2_hasCell_4, wp_bipush (y := zX2_hasCell) (nI 48) kb_48 dX2_hasCell_5, wp_icmp_ge (y := zX2_hasCell) 23 (by decide) dX2_hasCell_7, wp_al0 (y := zX2_hasCell) dX2_hasCell_10, wp_getf (y := zX2_hasCell) kF2_30 dX2_hasCell_11, wp_il1 (y := zX2_hasCell) dX2_hasCell_14, wp_iald (y := zX2_hasCell) dX2_hasCell_15, wp_if_le (y := zX2_hasCell) 23 (by decide) dX2_hasCell_16, wp_iconst (y := zX2_hasCell) (nI 1) ki_1 dX2_hasCell_19, wp_goto (y := zX2_hasCell) 24 (by decide) dX2_hasCell_20, wp_iconst (y := zX2_hasCell) (nI 0) ki_0 dX2_hasCell_23, wp_iretz (y := zX2_hasCell) rfl dX2_hasCell_24, mm_op_some, true_and, and_true, mm_rc_some, mm_rc_none, nI_xor, tw_xor, pk_mul, nI_add, mm_in_t, nI_clamp, ok0, ok1, ok2, ok3, ok4, n1_0, n0_0, n0_zz, n1_zz, bI_eq0, bI_ne0, bI_zz, nI_le_, nI_lt_, nI_eq_, nI_lt0, nI_ge0, nI_gt0, nI_le0, nI_eq0, m1_lt0, m1_ge0, if_true, if_false, not_true, not_false_eq_true, Classical.not_not, true_or, or_true, false_or, n1_1, k10, S.oc, S.g0, S.g1, S.g2, S.g3, S.g4, S.g5, S.g6, S.g7, S.a1, S.a2, S.a3, S.a4, S.a5, S.a6, S.a7, S.a8, rs, h9, h8]
theorem c_hasCell0 (S : MeshSh sh b) (R : RepC M μ b) {i : Nat} (hi : i < 48) (hc : ¬ 0 < sd M (cI i)) : cl sh zX2_hasCell [.ref b, .int (nI i)] μ Q = Q (some (.int (nI 0))) μ := by
  have rs := R.sdv hi
  have h9 : ¬ 48 ≤ i := by omega
  have h8 : sd M (cI i) = 0 := by omega
  rw [h8] at rs
  show wp sh zX2_hasCell 0 [.ref b, .int (nI i)] [] μ Q = _
  simp (disch := first | omega | assumption) only [wp_il1 (y := zX2_hasCell) dX2_hasCell_0, wp_if_lt (y := zX2_hasCell) 23 (by decide) dX2_hasCell_1, wp_il1 (y := zX2_hasCell) dX2_hasCell_4, wp_bipush (y := zX2_hasCell) (nI 48) kb_48 dX2_hasCell_5, wp_icmp_ge (y := zX2_hasCell) 23 (by decide) dX2_hasCell_7, wp_al0 (y := zX2_hasCell) dX2_hasCell_10, wp_getf (y := zX2_hasCell) kF2_30 dX2_hasCell_11, wp_il1 (y := zX2_hasCell) dX2_hasCell_14, wp_iald (y := zX2_hasCell) dX2_hasCell_15, wp_if_le (y := zX2_hasCell) 23 (by decide) dX2_hasCell_16, wp_iconst (y := zX2_hasCell) (nI 1) ki_1 dX2_hasCell_19, wp_goto (y := zX2_hasCell) 24 (by decide) dX2_hasCell_20, wp_iconst (y := zX2_hasCell) (nI 0) ki_0 dX2_hasCell_23, wp_iretz (y := zX2_hasCell) rfl dX2_hasCell_24, mm_op_some, true_and, and_true, mm_rc_some, mm_rc_none, nI_xor, tw_xor, pk_mul, nI_add, mm_in_t, nI_clamp, ok0, ok1, ok2, ok3, ok4, n1_0, n0_0, n0_zz, n1_zz, bI_eq0, bI_ne0, bI_zz, nI_le_, nI_lt_, nI_eq_, nI_lt0, nI_ge0, nI_gt0, nI_le0, nI_eq0, m1_lt0, m1_ge0, if_true, if_false, not_true, not_false_eq_true, Classical.not_not, true_or, or_true, false_or, n1_1, k10, S.oc, S.g0, S.g1, S.g2, S.g3, S.g4, S.g5, S.g6, S.g7, S.a1, S.a2, S.a3, S.a4, S.a5, S.a6, S.a7, S.a8, rs, h9]
theorem c_hasCellX (S : MeshSh sh b) (R : RepC M μ b) {x : Int32} (hx : x < 0 ∨ nI 48 ≤ x) : cl sh zX2_hasCell [.ref b, .int x] μ Q = Q (some (.int (nI 0))) μ := by
  show wp sh zX2_hasCell 0 [.ref b, .int x] [] μ Q = _
  rcases hx with hx | hx
  · simp (disch := first | omega | assumption) only [wp_il1 (y := zX2_hasCell) dX2_hasCell_0, wp_if_lt (y := zX2_hasCell) 23 (by decide) dX2_hasCell_1, wp_il1 (y := zX2_hasCell) dX2_hasCell_4, wp_bipush (y := zX2_hasCell) (nI 48) kb_48 dX2_hasCell_5, wp_icmp_ge (y := zX2_hasCell) 23 (by decide) dX2_hasCell_7, wp_al0 (y := zX2_hasCell) dX2_hasCell_10, wp_getf (y := zX2_hasCell) kF2_30 dX2_hasCell_11, wp_il1 (y := zX2_hasCell) dX2_hasCell_14, wp_iald (y := zX2_hasCell) dX2_hasCell_15, wp_if_le (y := zX2_hasCell) 23 (by decide) dX2_hasCell_16, wp_iconst (y := zX2_hasCell) (nI 1) ki_1 dX2_hasCell_19, wp_goto (y := zX2_hasCell) 24 (by decide) dX2_hasCell_20, wp_iconst (y := zX2_hasCell) (nI 0) ki_0 dX2_hasCell_23, wp_iretz (y := zX2_hasCell) rfl dX2_hasCell_24, mm_op_some, true_and, and_true, mm_rc_some, mm_rc_none, nI_xor, tw_xor, pk_mul, nI_add, mm_in_t, nI_clamp, ok0, ok1, ok2, ok3, ok4, n1_0, n0_0, n0_zz, n1_zz, bI_eq0, bI_ne0, bI_zz, nI_le_, nI_lt_, nI_eq_, nI_lt0, nI_ge0, nI_gt0, nI_le0, nI_eq0, m1_lt0, m1_ge0, if_true, if_false, not_true, not_false_eq_true, Classical.not_not, true_or, or_true, false_or, n1_1, k10, S.oc, S.g0, S.g1, S.g2, S.g3, S.g4, S.g5, S.g6, S.g7, S.a1, S.a2, S.a3, S.a4, S.a5, S.a6, S.a7, S.a8, hx]
  · by_cases h : x < 0
    · simp (disch := first | omega | assumption) only [wp_il1 (y := zX2_hasCell) dX2_hasCell_0, wp_if_lt (y := zX2_hasCell) 23 (by decide) dX2_hasCell_1, wp_il1 (y := zX2_hasCell) dX2_hasCell_4, wp_bipush (y := zX2_hasCell) (nI 48) kb_48 dX2_hasCell_5, wp_icmp_ge (y := zX2_hasCell) 23 (by decide) dX2_hasCell_7, wp_al0 (y := zX2_hasCell) dX2_hasCell_10, wp_getf (y := zX2_hasCell) kF2_30 dX2_hasCell_11, wp_il1 (y := zX2_hasCell) dX2_hasCell_14, wp_iald (y := zX2_hasCell) dX2_hasCell_15, wp_if_le (y := zX2_hasCell) 23 (by decide) dX2_hasCell_16, wp_iconst (y := zX2_hasCell) (nI 1) ki_1 dX2_hasCell_19, wp_goto (y := zX2_hasCell) 24 (by decide) dX2_hasCell_20, wp_iconst (y := zX2_hasCell) (nI 0) ki_0 dX2_hasCell_23, wp_iretz (y := zX2_hasCell) rfl dX2_hasCell_24, mm_op_some, true_and, and_true, mm_rc_some, mm_rc_none, nI_xor, tw_xor, pk_mul, nI_add, mm_in_t, nI_clamp, ok0, ok1, ok2, ok3, ok4, n1_0, n0_0, n0_zz, n1_zz, bI_eq0, bI_ne0, bI_zz, nI_le_, nI_lt_, nI_eq_, nI_lt0, nI_ge0, nI_gt0, nI_le0, nI_eq0, m1_lt0, m1_ge0, if_true, if_false, not_true, not_false_eq_true, Classical.not_not, true_or, or_true, false_or, n1_1, k10, S.oc, S.g0, S.g1, S.g2, S.g3, S.g4, S.g5, S.g6, S.g7, S.a1, S.a2, S.a3, S.a4, S.a5, S.a6, S.a7, S.a8, h]
    · simp (disch := first | omega | assumption) only [wp_il1 (y := zX2_hasCell) dX2_hasCell_0, wp_if_lt (y := zX2_hasCell) 23 (by decide) dX2_hasCell_1, wp_il1 (y := zX2_hasCell) dX2_hasCell_4, wp_bipush (y := zX2_hasCell) (nI 48) kb_48 dX2_hasCell_5, wp_icmp_ge (y := zX2_hasCell) 23 (by decide) dX2_hasCell_7, wp_al0 (y := zX2_hasCell) dX2_hasCell_10, wp_getf (y := zX2_hasCell) kF2_30 dX2_hasCell_11, wp_il1 (y := zX2_hasCell) dX2_hasCell_14, wp_iald (y := zX2_hasCell) dX2_hasCell_15, wp_if_le (y := zX2_hasCell) 23 (by decide) dX2_hasCell_16, wp_iconst (y := zX2_hasCell) (nI 1) ki_1 dX2_hasCell_19, wp_goto (y := zX2_hasCell) 24 (by decide) dX2_hasCell_20, wp_iconst (y := zX2_hasCell) (nI 0) ki_0 dX2_hasCell_23, wp_iretz (y := zX2_hasCell) rfl dX2_hasCell_24, mm_op_some, true_and, and_true, mm_rc_some, mm_rc_none, nI_xor, tw_xor, pk_mul, nI_add, mm_in_t, nI_clamp, ok0, ok1, ok2, ok3, ok4, n1_0, n0_0, n0_zz, n1_zz, bI_eq0, bI_ne0, bI_zz, nI_le_, nI_lt_, nI_eq_, nI_lt0, nI_ge0, nI_gt0, nI_le0, nI_eq0, m1_lt0, m1_ge0, if_true, if_false, not_true, not_false_eq_true, Classical.not_not, true_or, or_true, false_or, n1_1, k10, S.oc, S.g0, S.g1, S.g2, S.g3, S.g4, S.g5, S.g6, S.g7, S.a1, S.a2, S.a3, S.a4, S.a5, S.a6, S.a7, S.a8, h, hx]
theorem c_hasWall1 (S : MeshSh sh b) (R : RepC M μ b) {i : Nat} (hi : i < 144) (hc : lv M (wI i) = true) : cl sh zX2_hasWall [.ref b, .int (nI i)] μ Q = Q (some (.int (nI 1))) μ := by
  have rs := R.owv (i := 2 * i) (by omega) (by rw [wl_hI hi]; exact hc)
  have bs := (ow M (hI (2 * i))).isLt
  have h9 : ¬ 144 ≤ i := by omega
  show wp sh zX2_hasWall 0 [.ref b, .int (nI i)] [] μ Q = _
  simp (disch := first | omega | assumption) only [wp_il1 (y := zX2_hasWall) dX2_hasWall_0, wp_if_lt (y := zX2_hasWall) 26 (by decide) dX2_hasWall_1, wp_il1 (y := zX2_hasWall) dX2_hasWall_4, wp_sipush (y := zX2_hasWall) (nI 144) ks_144 dX2_hasWall_5, wp_icmp_ge (y := zX2_hasWall) 26 (by decide) dX2_hasWall_8, wp_al0 (y := zX2_hasWall) dX2_hasWall_11, wp_getf (y := zX2_hasWall) kF2_9 dX2_hasWall_12, wp_iconst (y := zX2_hasWall) (nI 2) ki_2 dX2_hasWall_15, wp_il1 (y := zX2_hasWall) dX2_hasWall_16, wp_imul (y := zX2_hasWall) dX2_hasWall_17, wp_iald (y := zX2_hasWall) dX2_hasWall_18, wp_if_lt (y := zX2_hasWall) 26 (by decide) dX2_hasWall_19, wp_iconst (y := zX2_hasWall) (nI 1) ki_1 dX2_hasWall_22, wp_goto (y := zX2_hasWall) 27 (by decide) dX2_hasWall_23, wp_iconst (y := zX2_hasWall) (nI 0) ki_0 dX2_hasWall_26, wp_iretz (y := zX2_hasWall) rfl dX2_hasWall_27, mm_op_some, true_and, and_true, mm_rc_some, mm_rc_none, nI_xor, tw_xor, pk_mul, nI_add, mm_in_t, nI_clamp, ok0, ok1, ok2, ok3, ok4, n1_0, n0_0, n0_zz, n1_zz, bI_eq0, bI_ne0, bI_zz, nI_le_, nI_lt_, nI_eq_, nI_lt0, nI_ge0, nI_gt0, nI_le0, nI_eq0, m1_lt0, m1_ge0, if_true, if_false, not_true, not_false_eq_true, Classical.not_not, true_or, or_true, false_or, n1_1, k10, S.oc, S.g0, S.g1, S.g2, S.g3, S.g4, S.g5, S.g6, S.g7, S.a1, S.a2, S.a3, S.a4, S.a5, S.a6, S.a7, S.a8, rs, h9]
theorem c_hasWall0 (S : MeshSh sh b) (R : RepC M μ b) {i : Nat} (hi : i < 144) (hc : ¬ lv M (wI i) = true) : cl sh zX2_hasWall [.ref b, .int (nI i)] μ Q = Q (some (.int (nI 0))) μ := by
  have rs := R.owd (i := 2 * i) (by omega) (by rw [wl_hI hi]; exact Bool.eq_false_iff.mpr hc)
  have h9 : ¬ 144 ≤ i := by omega
  show wp sh zX2_hasWall 0 [.ref b, .int (nI i)] [] μ Q = _
  simp (disch := first | omega | assumption) only [wp_il1 (y := zX2_hasWall) dX2_hasWall_0, wp_if_lt (y := zX2_hasWall) 26 (by decide) dX2_hasWall_1, wp_il1 (y := zX2_hasWall) dX2_hasWall_4, wp_sipush (y := zX2_hasWall) (nI 144) ks_144 dX2_hasWall_5, wp_icmp_ge (y := zX2_hasWall) 26 (by decide) dX2_hasWall_8, wp_al0 (y := zX2_hasWall) dX2_hasWall_11, wp_getf (y := zX2_hasWall) kF2_9 dX2_hasWall_12, wp_iconst (y := zX2_hasWall) (nI 2) ki_2 dX2_hasWall_15, wp_il1 (y := zX2_hasWall) dX2_hasWall_16, wp_imul (y := zX2_hasWall) dX2_hasWall_17, wp_iald (y := zX2_hasWall) dX2_hasWall_18, wp_if_lt (y := zX2_hasWall) 26 (by decide) dX2_hasWall_19, wp_iconst (y := zX2_hasWall) (nI 1) ki_1 dX2_hasWall_22, wp_goto (y := zX2_hasWall) 27 (by decide) dX2_hasWall_23, wp_iconst (y := zX2_hasWall) (nI 0) ki_0 dX2_hasWall_26, wp_iretz (y := zX2_hasWall) rfl dX2_hasWall_27, mm_op_some, true_and, and_true, mm_rc_some, mm_rc_none, nI_xor, tw_xor, pk_mul, nI_add, mm_in_t, nI_clamp, ok0, ok1, ok2, ok3, ok4, n1_0, n0_0, n0_zz, n1_zz, bI_eq0, bI_ne0, bI_zz, nI_le_, nI_lt_, nI_eq_, nI_lt0, nI_ge0, nI_gt0, nI_le0, nI_eq0, m1_lt0, m1_ge0, if_true, if_false, not_true, not_false_eq_true, Classical.not_not, true_or, or_true, false_or, n1_1, k10, S.oc, S.g0, S.g1, S.g2, S.g3, S.g4, S.g5, S.g6, S.g7, S.a1, S.a2, S.a3, S.a4, S.a5, S.a6, S.a7, S.a8, rs, h9]
theorem c_hasWallX (S : MeshSh sh b) (R : RepC M μ b) {x : Int32} (hx : x < 0 ∨ nI 144 ≤ x) : cl sh zX2_hasWall [.ref b, .int x] μ Q = Q (some (.int (nI 0))) μ := by
  show wp sh zX2_hasWall 0 [.ref b, .int x] [] μ Q = _
  rcases hx with hx | hx
  · simp (disch := first | omega | assumption) only [wp_il1 (y := zX2_hasWall) dX2_hasWall_0, wp_if_lt (y := zX2_hasWall) 26 (by decide) dX2_hasWall_1, wp_il1 (y := zX2_hasWall) dX2_hasWall_4, wp_sipush (y := zX2_hasWall) (nI 144) ks_144 dX2_hasWall_5, wp_icmp_ge (y := zX2_hasWall) 26 (by decide) dX2_hasWall_8, wp_al0 (y := zX2_hasWall) dX2_hasWall_11, wp_getf (y := zX2_hasWall) kF2_9 dX2_hasWall_12, wp_iconst (y := zX2_hasWall) (nI 2) ki_2 dX2_hasWall_15, wp_il1 (y := zX2_hasWall) dX2_hasWall_16, wp_imul (y := zX2_hasWall) dX2_hasWall_17, wp_iald (y := zX2_hasWall) dX2_hasWall_18, wp_if_lt (y := zX2_hasWall) 26 (by decide) dX2_hasWall_19, wp_iconst (y := zX2_hasWall) (nI 1) ki_1 dX2_hasWall_22, wp_goto (y := zX2_hasWall) 27 (by decide) dX2_hasWall_23, wp_iconst (y := zX2_hasWall) (nI 0) ki_0 dX2_hasWall_26, wp_iretz (y := zX2_hasWall) rfl dX2_hasWall_27, mm_op_some, true_and, and_true, mm_rc_some, mm_rc_none, nI_xor, tw_xor, pk_mul, nI_add, mm_in_t, nI_clamp, ok0, ok1, ok2, ok3, ok4, n1_0, n0_0, n0_zz, n1_zz, bI_eq0, bI_ne0, bI_zz, nI_le_, nI_lt_, nI_eq_, nI_lt0, nI_ge0, nI_gt0, nI_le0, nI_eq0, m1_lt0, m1_ge0, if_true, if_false, not_true, not_false_eq_true, Classical.not_not, true_or, or_true, false_or, n1_1, k10, S.oc, S.g0, S.g1, S.g2, S.g3, S.g4, S.g5, S.g6, S.g7, S.a1, S.a2, S.a3, S.a4, S.a5, S.a6, S.a7, S.a8, hx]
  · by_cases h : x < 0
    · simp (disch := first | omega | assumption) only [wp_il1 (y := zX2_hasWall) dX2_hasWall_0, wp_if_lt (y := zX2_hasWall) 26 (by decide) dX2_hasWall_1, wp_il1 (y := zX2_hasWall) dX2_hasWall_4, wp_sipush (y := zX2_hasWall) (nI 144) ks_144 dX2_hasWall_5, wp_icmp_ge (y := zX2_hasWall) 26 (by decide) dX2_hasWall_8, wp_al0 (y := zX2_hasWall) dX2_hasWall_11, wp_getf (y := zX2_hasWall) kF2_9 dX2_hasWall_12, wp_iconst (y := zX2_hasWall) (nI 2) ki_2 dX2_hasWall_15, wp_il1 (y := zX2_hasWall) dX2_hasWall_16, wp_imul (y := zX2_hasWall) dX2_hasWall_17, wp_iald (y := zX2_hasWall) dX2_hasWall_18, wp_if_lt (y := zX2_hasWall) 26 (by decide) dX2_hasWall_19, wp_iconst (y := zX2_hasWall) (nI 1) ki_1 dX2_hasWall_22, wp_goto (y := zX2_hasWall) 27 (by decide) dX2_hasWall_23, wp_iconst (y := zX2_hasWall) (nI 0) ki_0 dX2_hasWall_26, wp_iretz (y := zX2_hasWall) rfl dX2_hasWall_27, mm_op_some, true_and, and_true, mm_rc_some, mm_rc_none, nI_xor, tw_xor, pk_mul, nI_add, mm_in_t, nI_clamp, ok0, ok1, ok2, ok3, ok4, n1_0, n0_0, n0_zz, n1_zz, bI_eq0, bI_ne0, bI_zz, nI_le_, nI_lt_, nI_eq_, nI_lt0, nI_ge0, nI_gt0, nI_le0, nI_eq0, m1_lt0, m1_ge0, if_true, if_false, not_true, not_false_eq_true, Classical.not_not, true_or, or_true, false_or, n1_1, k10, S.oc, S.g0, S.g1, S.g2, S.g3, S.g4, S.g5, S.g6, S.g7, S.a1, S.a2, S.a3, S.a4, S.a5, S.a6, S.a7, S.a8, h]
    · simp (disch := first | omega | assumption) only [wp_il1 (y := zX2_hasWall) dX2_hasWall_0, wp_if_lt (y := zX2_hasWall) 26 (by decide) dX2_hasWall_1, wp_il1 (y := zX2_hasWall) dX2_hasWall_4, wp_sipush (y := zX2_hasWall) (nI 144) ks_144 dX2_hasWall_5, wp_icmp_ge (y := zX2_hasWall) 26 (by decide) dX2_hasWall_8, wp_al0 (y := zX2_hasWall) dX2_hasWall_11, wp_getf (y := zX2_hasWall) kF2_9 dX2_hasWall_12, wp_iconst (y := zX2_hasWall) (nI 2) ki_2 dX2_hasWall_15, wp_il1 (y := zX2_hasWall) dX2_hasWall_16, wp_imul (y := zX2_hasWall) dX2_hasWall_17, wp_iald (y := zX2_hasWall) dX2_hasWall_18, wp_if_lt (y := zX2_hasWall) 26 (by decide) dX2_hasWall_19, wp_iconst (y := zX2_hasWall) (nI 1) ki_1 dX2_hasWall_22, wp_goto (y := zX2_hasWall) 27 (by decide) dX2_hasWall_23, wp_iconst (y := zX2_hasWall) (nI 0) ki_0 dX2_hasWall_26, wp_iretz (y := zX2_hasWall) rfl dX2_hasWall_27, mm_op_some, true_and, and_true, mm_rc_some, mm_rc_none, nI_xor, tw_xor, pk_mul, nI_add, mm_in_t, nI_clamp, ok0, ok1, ok2, ok3, ok4, n1_0, n0_0, n0_zz, n1_zz, bI_eq0, bI_ne0, bI_zz, nI_le_, nI_lt_, nI_eq_, nI_lt0, nI_ge0, nI_gt0, nI_le0, nI_eq0, m1_lt0, m1_ge0, if_true, if_false, not_true, not_false_eq_true, Classical.not_not, true_or, or_true, false_or, n1_1, k10, S.oc, S.g0, S.g1, S.g2, S.g3, S.g4, S.g5, S.g6, S.g7, S.a1, S.a2, S.a3, S.a4, S.a5, S.a6, S.a7, S.a8, h, hx]
theorem c_across (S : MeshSh sh b) (R : RepC M μ b) (h : Hf) (hl : lv M (wl h) = true) : cl sh zX2_across [.ref b, .int (nI h.val)] μ Q = Q (some (.int (nI (ow M (tw h)).val))) μ := by
  have hb := (tw h).isLt
  have r1 := (R.1 (tw h) (by rw [wl_tw]; exact hl)).1
  show wp sh zX2_across 0 [.ref b, .int (nI h.val)] [] μ Q = _
  simp (disch := first | omega | assumption) only [wp_al0 (y := zX2_across) dX2_across_0, wp_getf (y := zX2_across) kF2_9 dX2_across_1, wp_il1 (y := zX2_across) dX2_across_4, wp_iconst (y := zX2_across) (nI 1) ki_1 dX2_across_5, wp_ixor (y := zX2_across) dX2_across_6, wp_iald (y := zX2_across) dX2_across_7, wp_ireti (y := zX2_across) rfl dX2_across_8, mm_op_some, true_and, and_true, mm_rc_some, mm_rc_none, nI_xor, tw_xor, pk_mul, nI_add, mm_in_t, nI_clamp, ok0, ok1, ok2, ok3, ok4, n1_0, n0_0, n0_zz, n1_zz, bI_eq0, bI_ne0, bI_zz, nI_le_, nI_lt_, nI_eq_, nI_lt0, nI_ge0, nI_gt0, nI_le0, nI_eq0, m1_lt0, m1_ge0, if_true, if_false, not_true, not_false_eq_true, Classical.not_not, true_or, or_true, false_or, n1_1, k10, S.oc, S.g0, S.g1, S.g2, S.g3, S.g4, S.g5, S.g6, S.g7, S.a1, S.a2, S.a3, S.a4, S.a5, S.a6, S.a7, S.a8, r1]
/-- the cell at which a half ends -/
abbrev en (M : Ms) (h : Hf) : Ce := ow M (tw (nx M h))
theorem c_endOf (S : MeshSh sh b) (R : RepC M μ b) (h : Hf) (hl : lv M (wl h) = true) (hn : lv M (wl (nx M h)) = true) : cl sh zX2_endOf [.ref b, .int (nI h.val)] μ Q = Q (some (.int (nI (en M h).val))) μ := by
  have hb := (tw (nx M h)).isLt
  have hb2 := h.isLt
  have r1 := (R.1 h hl).2.1
  have r2 := (R.1 (tw (nx M h)) (by rw [wl_tw]; exact hn)).1
  show wp sh zX2_endOf 0 [.ref b, .int (nI h.val)] [] μ Q = _
  simp (disch := first | omega | assumption) only [wp_al0 (y := zX2_endOf) dX2_endOf_0, wp_getf (y := zX2_endOf) kF2_9 dX2_endOf_1, wp_al0 (y := zX2_endOf) dX2_endOf_4, wp_getf (y := zX2_endOf) kF2_15 dX2_endOf_5, wp_il1 (y := zX2_endOf) dX2_endOf_8, wp_iald (y := zX2_endOf) dX2_endOf_9, wp_iconst (y := zX2_endOf) (nI 1) ki_1 dX2_endOf_10, wp_ixor (y := zX2_endOf) dX2_endOf_11, wp_iald (y := zX2_endOf) dX2_endOf_12, wp_ireti (y := zX2_endOf) rfl dX2_endOf_13, mm_op_some, true_and, and_true, mm_rc_some, mm_rc_none, nI_xor, tw_xor, pk_mul, nI_add, mm_in_t, nI_clamp, ok0, ok1, ok2, ok3, ok4, n1_0, n0_0, n0_zz, n1_zz, bI_eq0, bI_ne0, bI_zz, nI_le_, nI_lt_, nI_eq_, nI_lt0, nI_ge0, nI_gt0, nI_le0, nI_eq0, m1_lt0, m1_ge0, if_true, if_false, not_true, not_false_eq_true, Classical.not_not, true_or, or_true, false_or, n1_1, k10, S.oc, S.g0, S.g1, S.g2, S.g3, S.g4, S.g5, S.g6, S.g7, S.a1, S.a2, S.a3, S.a4, S.a5, S.a6, S.a7, S.a8, r1, r2]
/-- four unlike cells -/
def four (a b c d : Ce) : Bool := decide (a ≠ b ∧ a ≠ c ∧ a ≠ d ∧ b ≠ c ∧ b ≠ d ∧ c ≠ d)
theorem ce_eq (a b : Ce) : (nI a.val = nI b.val) = (a = b) := by
  rw [nI_eq_ (by omega) (by omega)]
  exact propext ⟨Fin.ext, fun h => by rw [h]⟩
theorem hf_eq (a b : Hf) : (nI a.val = nI b.val) = (a = b) := by
  rw [nI_eq_ (by omega) (by omega)]
  exact propext ⟨Fin.ext, fun h => by rw [h]⟩
theorem c_areFour (a b c d : Ce) : cl sh zX2_areFour [.int (nI a.val), .int (nI b.val), .int (nI c.val), .int (nI d.val)] μ Q = Q (some (.int (bI (four a b c d)))) μ := by
  show wp sh zX2_areFour 0 [.int (nI a.val), .int (nI b.val), .int (nI c.val), .int (nI d.val)] [] μ Q = _
  simp only [wp_il0 (y := zX2_areFour) dX2_areFour_0, wp_il1 (y := zX2_areFour) dX2_areFour_1, wp_icmp_eq (y := zX2_areFour) 34 (by decide) dX2_areFour_2, wp_il0 (y := zX2_areFour) dX2_areFour_5, wp_il2 (y := zX2_areFour) dX2_areFour_6, wp_icmp_eq (y := zX2_areFour) 34 (by decide) dX2_areFour_7, wp_il0 (y := zX2_areFour) dX2_areFour_10, wp_il3 (y := zX2_areFour) dX2_areFour_11, wp_icmp_eq (y := zX2_areFour) 34 (by decide) dX2_areFour_12, wp_il1 (y := zX2_areFour) dX2_areFour_15, wp_il2 (y := zX2_areFour) dX2_areFour_16, wp_icmp_eq (y := zX2_areFour) 34 (by decide) dX2_areFour_17, wp_il1 (y := zX2_areFour) dX2_areFour_20, wp_il3 (y := zX2_areFour) dX2_areFour_21, wp_icmp_eq (y := zX2_areFour) 34 (by decide) dX2_areFour_22, wp_il2 (y := zX2_areFour) dX2_areFour_25, wp_il3 (y := zX2_areFour) dX2_areFour_26, wp_icmp_eq (y := zX2_areFour) 34 (by decide) dX2_areFour_27, wp_iconst (y := zX2_areFour) (nI 1) ki_1 dX2_areFour_30, wp_goto (y := zX2_areFour) 35 (by decide) dX2_areFour_31, wp_iconst (y := zX2_areFour) (nI 0) ki_0 dX2_areFour_34, wp_iretz (y := zX2_areFour) rfl dX2_areFour_35, ce_eq, n0_zz, n1_zz, true_and]
  unfold four bI
  by_cases e1 : a = b
  · simp [e1]
  by_cases e2 : a = c
  · simp [e1, e2]
  by_cases e3 : a = d
  · simp [e1, e2, e3]
  by_cases e4 : b = c
  · simp [e1, e2, e3, e4]
  by_cases e5 : b = d
  · simp [e1, e2, e3, e4, e5]
  by_cases e6 : c = d
  · simp [e1, e2, e3, e4, e5, e6]
  simp [e1, e2, e3, e4, e5, e6]
def can (M : Ms) (w : Wa) : Bool := decide (3 < sd M (ow M (h0 w)) ∧ 3 < sd M (ow M (h1 w))) && four (ow M (h0 w)) (ow M (h1 w)) (en M (h0 w)) (en M (h1 w))
/-- the halves of a live wall, and their next ones, are live -/
def LvN (M : Ms) : Prop := ∀ h : Hf, lv M (wl h) = true → lv M (wl (nx M h)) = true
theorem c_canFlip (S : MeshSh sh b) (R : RepC M μ b) (B : SdB M) (L : LvN M) (w : Wa) (hl : lv M w = true) : cl sh zX2_canFlip [.ref b, .int (nI w.val)] μ Q = Q (some (.int (bI (can M w)))) μ := by
  have l0 : lv M (wl (h0 w)) = true := by rw [wl_h0]; exact hl
  have l1 : lv M (wl (h1 w)) = true := by rw [wl_h1]; exact hl
  have r0 := (R.1 (h0 w) l0).1
  have r1 := (R.1 (h1 w) l1).1
  rw [h0_val] at r0
  rw [h1_val] at r1
  have s0 := R.2.2.2.1 (ow M (h0 w))
  have s1 := R.2.2.2.1 (ow M (h1 w))
  have b0 := B (ow M (h0 w))
  have b1 := B (ow M (h1 w))
  have hw := w.isLt
  have c0 := (ow M (h0 w)).isLt
  have c1 := (ow M (h1 w)).isLt
  have e0 := c_endOf (Q := Q) S R (h0 w) l0 (L _ l0)
  have e1 := c_endOf (Q := Q) S R (h1 w) l1 (L _ l1)
  have E0 : ∀ Q', cl sh zX2_endOf [.ref b, .int (nI (2 * w.val))] μ Q' = Q' (some (.int (nI (en M (h0 w)).val))) μ := fun Q' => c_endOf S R (h0 w) l0 (L _ l0)
  have E1 : ∀ Q', cl sh zX2_endOf [.ref b, .int (nI (2 * w.val + 1))] μ Q' = Q' (some (.int (nI (en M (h1 w)).val))) μ := fun Q' => c_endOf S R (h1 w) l1 (L _ l1)
  show wp sh zX2_canFlip 0 [.ref b, .int (nI w.val), .null, .null] [] μ Q = _
  simp (disch := first | omega | assumption) only [wp_al0 (y := zX2_canFlip) dX2_canFlip_0, wp_getf (y := zX2_canFlip) kF2_9 dX2_canFlip_1, wp_iconst (y := zX2_canFlip) (nI 2) ki_2 dX2_canFlip_4, wp_il1 (y := zX2_canFlip) dX2_canFlip_5, wp_imul (y := zX2_canFlip) dX2_canFlip_6, wp_iald (y := zX2_canFlip) dX2_canFlip_7, wp_is2 (y := zX2_canFlip) dX2_canFlip_8, wp_al0 (y := zX2_canFlip) dX2_canFlip_9, wp_getf (y := zX2_canFlip) kF2_9 dX2_canFlip_10, wp_iconst (y := zX2_canFlip) (nI 2) ki_2 dX2_canFlip_13, wp_il1 (y := zX2_canFlip) dX2_canFlip_14, wp_imul (y := zX2_canFlip) dX2_canFlip_15, wp_iconst (y := zX2_canFlip) (nI 1) ki_1 dX2_canFlip_16, wp_iadd (y := zX2_canFlip) dX2_canFlip_17, wp_iald (y := zX2_canFlip) dX2_canFlip_18, wp_is3 (y := zX2_canFlip) dX2_canFlip_19, wp_al0 (y := zX2_canFlip) dX2_canFlip_20, wp_getf (y := zX2_canFlip) kF2_30 dX2_canFlip_21, wp_il2 (y := zX2_canFlip) dX2_canFlip_24, wp_iald (y := zX2_canFlip) dX2_canFlip_25, wp_iconst (y := zX2_canFlip) (nI 3) ki_3 dX2_canFlip_26, wp_icmp_le (y := zX2_canFlip) 68 (by decide) dX2_canFlip_27, wp_al0 (y := zX2_canFlip) dX2_canFlip_30, wp_getf (y := zX2_canFlip) kF2_30 dX2_canFlip_31, wp_il3 (y := zX2_canFlip) dX2_canFlip_34, wp_iald (y := zX2_canFlip) dX2_canFlip_35, wp_iconst (y := zX2_canFlip) (nI 3) ki_3 dX2_canFlip_36, wp_icmp_le (y := zX2_canFlip) 68 (by decide) dX2_canFlip_37, wp_il2 (y := zX2_canFlip) dX2_canFlip_40, wp_il3 (y := zX2_canFlip) dX2_canFlip_41, wp_al0 (y := zX2_canFlip) dX2_canFlip_42, wp_iconst (y := zX2_canFlip) (nI 2) ki_2 dX2_canFlip_43, wp_il1 (y := zX2_canFlip) dX2_canFlip_44, wp_imul (y := zX2_canFlip) dX2_canFlip_45, wp_cv1 (y := zX2_canFlip) kM2_77 (by decide) dX2_canFlip_46, (show yo zX2_endOf = 2 from rfl), wp_al0 (y := zX2_canFlip) dX2_canFlip_49, wp_iconst (y := zX2_canFlip) (nI 2) ki_2 dX2_canFlip_50, wp_il1 (y := zX2_canFlip) dX2_canFlip_51, wp_imul (y := zX2_canFlip) dX2_canFlip_52, wp_iconst (y := zX2_canFlip) (nI 1) ki_1 dX2_canFlip_53, wp_iadd (y := zX2_canFlip) dX2_canFlip_54, wp_cv1 (y := zX2_canFlip) kM2_77 (by decide) dX2_canFlip_55, (show yo zX2_endOf = 2 from rfl), wp_cs4 (y := zX2_canFlip) kM2_80 (by decide) dX2_canFlip_58, wp_if_eq (y := zX2_canFlip) 68 (by decide) dX2_canFlip_61, wp_iconst (y := zX2_canFlip) (nI 1) ki_1 dX2_canFlip_64, wp_goto (y := zX2_canFlip) 69 (by decide) dX2_canFlip_65, wp_iconst (y := zX2_canFlip) (nI 0) ki_0 dX2_canFlip_68, wp_iretz (y := zX2_canFlip) rfl dX2_canFlip_69, mm_op_some, true_and, and_true, mm_rc_some, mm_rc_none, nI_xor, tw_xor, pk_mul, nI_add, mm_in_t, nI_clamp, ok0, ok1, ok2, ok3, ok4, n1_0, n0_0, n0_zz, n1_zz, bI_eq0, bI_ne0, bI_zz, nI_le_, nI_lt_, nI_eq_, nI_lt0, nI_ge0, nI_gt0, nI_le0, nI_eq0, m1_lt0, m1_ge0, if_true, if_false, not_true, not_false_eq_true, Classical.not_not, true_or, or_true, false_or, n1_1, k10, S.oc, S.g0, S.g1, S.g2, S.g3, S.g4, S.g5, S.g6, S.g7, S.a1, S.a2, S.a3, S.a4, S.a5, S.a6, S.a7, S.a8, r0, r1, s0, s1, E0, E1, c_areFour]
  unfold can
  by_cases q0 : sd M (ow M (h0 w)) ≤ 3
  · have : ¬ 3 < sd M (ow M (h0 w)) := by omega
    simp [q0, this, bI]
  by_cases q1 : sd M (ow M (h1 w)) ≤ 3
  · have : ¬ 3 < sd M (ow M (h1 w)) := by omega
    simp [q0, q1, this, bI]
  have p0 : 3 < sd M (ow M (h0 w)) := by omega
  have p1 : 3 < sd M (ow M (h1 w)) := by omega
  simp only [q0, q1, p0, p1, and_self, decide_true, Bool.true_and, if_false]
  cases four (ow M (h0 w)) (ow M (h1 w)) (en M (h0 w)) (en M (h1 w)) <;> simp [bI]
/-- by how much strain is less -/
def ease (M : Ms) (w : Wa) : Int32 := nI 2 * ((nI (sd M (ow M (h0 w))) + nI (sd M (ow M (h1 w)))) - (nI (sd M (en M (h0 w))) + nI (sd M (en M (h1 w))))) - nI 4
theorem c_easing (S : MeshSh sh b) (R : RepC M μ b) (L : LvN M) (w : Wa) (hl : lv M w = true) : cl sh zX2_easing [.ref b, .int (nI w.val)] μ Q = Q (some (.int (ease M w))) μ := by
  have l0 : lv M (wl (h0 w)) = true := by rw [wl_h0]; exact hl
  have l1 : lv M (wl (h1 w)) = true := by rw [wl_h1]; exact hl
  have r0 := (R.1 (h0 w) l0).1
  have r1 := (R.1 (h1 w) l1).1
  rw [h0_val] at r0
  rw [h1_val] at r1
  have s0 := R.2.2.2.1 (ow M (h0 w))
  have s1 := R.2.2.2.1 (ow M (h1 w))
  have s2 := R.2.2.2.1 (en M (h0 w))
  have s3 := R.2.2.2.1 (en M (h1 w))
  have hw := w.isLt
  have c0 := (ow M (h0 w)).isLt
  have c1 := (ow M (h1 w)).isLt
  have c2 := (en M (h0 w)).isLt
  have c3 := (en M (h1 w)).isLt
  have E0 : ∀ Q', cl sh zX2_endOf [.ref b, .int (nI (2 * w.val))] μ Q' = Q' (some (.int (nI (en M (h0 w)).val))) μ := fun Q' => c_endOf S R (h0 w) l0 (L _ l0)
  have E1 : ∀ Q', cl sh zX2_endOf [.ref b, .int (nI (2 * w.val + 1))] μ Q' = Q' (some (.int (nI (en M (h1 w)).val))) μ := fun Q' => c_endOf S R (h1 w) l1 (L _ l1)
  show wp sh zX2_easing 0 [.ref b, .int (nI w.val), .null, .null] [] μ Q = _
  simp (disch := first | omega | assumption) only [wp_al0 (y := zX2_easing) dX2_easing_0, wp_getf (y := zX2_easing) kF2_30 dX2_easing_1, wp_al0 (y := zX2_easing) dX2_easing_4, wp_getf (y := zX2_easing) kF2_9 dX2_easing_5, wp_iconst (y := zX2_easing) (nI 2) ki_2 dX2_easing_8, wp_il1 (y := zX2_easing) dX2_easing_9, wp_imul (y := zX2_easing) dX2_easing_10, wp_iald (y := zX2_easing) dX2_easing_11, wp_iald (y := zX2_easing) dX2_easing_12, wp_al0 (y := zX2_easing) dX2_easing_13, wp_getf (y := zX2_easing) kF2_30 dX2_easing_14, wp_al0 (y := zX2_easing) dX2_easing_17, wp_getf (y := zX2_easing) kF2_9 dX2_easing_18, wp_iconst (y := zX2_easing) (nI 2) ki_2 dX2_easing_21, wp_il1 (y := zX2_easing) dX2_easing_22, wp_imul (y := zX2_easing) dX2_easing_23, wp_iconst (y := zX2_easing) (nI 1) ki_1 dX2_easing_24, wp_iadd (y := zX2_easing) dX2_easing_25, wp_iald (y := zX2_easing) dX2_easing_26, wp_iald (y := zX2_easing) dX2_easing_27, wp_iadd (y := zX2_easing) dX2_easing_28, wp_is2 (y := zX2_easing) dX2_easing_29, wp_al0 (y := zX2_easing) dX2_easing_30, wp_getf (y := zX2_easing) kF2_30 dX2_easing_31, wp_al0 (y := zX2_easing) dX2_easing_34, wp_iconst (y := zX2_easing) (nI 2) ki_2 dX2_easing_35, wp_il1 (y := zX2_easing) dX2_easing_36, wp_imul (y := zX2_easing) dX2_easing_37, wp_cv1 (y := zX2_easing) kM2_77 (by decide) dX2_easing_38, (show yo zX2_endOf = 2 from rfl), wp_iald (y := zX2_easing) dX2_easing_41, wp_al0 (y := zX2_easing) dX2_easing_42, wp_getf (y := zX2_easing) kF2_30 dX2_easing_43, wp_al0 (y := zX2_easing) dX2_easing_46, wp_iconst (y := zX2_easing) (nI 2) ki_2 dX2_easing_47, wp_il1 (y := zX2_easing) dX2_easing_48, wp_imul (y := zX2_easing) dX2_easing_49, wp_iconst (y := zX2_easing) (nI 1) ki_1 dX2_easing_50, wp_iadd (y := zX2_easing) dX2_easing_51, wp_cv1 (y := zX2_easing) kM2_77 (by decide) dX2_easing_52, (show yo zX2_endOf = 2 from rfl), wp_iald (y := zX2_easing) dX2_easing_55, wp_iadd (y := zX2_easing) dX2_easing_56, wp_is3 (y := zX2_easing) dX2_easing_57, wp_iconst (y := zX2_easing) (nI 2) ki_2 dX2_easing_58, wp_il2 (y := zX2_easing) dX2_easing_59, wp_il3 (y := zX2_easing) dX2_easing_60, wp_isub (y := zX2_easing) dX2_easing_61, wp_imul (y := zX2_easing) dX2_easing_62, wp_iconst (y := zX2_easing) (nI 4) ki_4 dX2_easing_63, wp_isub (y := zX2_easing) dX2_easing_64, wp_ireti (y := zX2_easing) rfl dX2_easing_65, mm_op_some, true_and, and_true, mm_rc_some, mm_rc_none, nI_xor, tw_xor, pk_mul, nI_add, mm_in_t, nI_clamp, ok0, ok1, ok2, ok3, ok4, n1_0, n0_0, n0_zz, n1_zz, bI_eq0, bI_ne0, bI_zz, nI_le_, nI_lt_, nI_eq_, nI_lt0, nI_ge0, nI_gt0, nI_le0, nI_eq0, m1_lt0, m1_ge0, if_true, if_false, not_true, not_false_eq_true, Classical.not_not, true_or, or_true, false_or, n1_1, k10, S.oc, S.g0, S.g1, S.g2, S.g3, S.g4, S.g5, S.g6, S.g7, S.a1, S.a2, S.a3, S.a4, S.a5, S.a6, S.a7, S.a8, r0, r1, s0, s1, s2, s3, E0, E1, ease]
end CM1
