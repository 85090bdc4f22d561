section CM1
variable {sh : mm_Sh} {b : Nat} {M : Ms} {μ : mm_U} {Q : Option Value → mm_U → Prop}
theorem c_across (S : MeshSh sh b) (R : RepC M μ b) (h : Hf) (hl : lv M (wl h) = true) : cl sh zX2_across [.ref b, .int (nI h.val)] μ Q = Q (some (.int (nI (ow M (tw h)).val))) μ := by
  have hb := (tw h).isLt
  have r1 := (R.1 (tw h) (by rw [wl_tw]; exact hl)).1
  show wp sh zX2_across 0 [.ref b, .int (nI h.val)] [] μ Q = _
  simp (disch := omega) only [wp_al0 (y := zX2_across) dX2_across_0, wp_getf (y := zX2_across) kF2_9 dX2_across_1, wp_il1 (y := zX2_across) dX2_across_4, wp_iconst (y := zX2_across) (nI 1) ki_1 dX2_across_5, wp_ixor (y := zX2_across) dX2_across_6, wp_iald (y := zX2_across) dX2_across_7, wp_ireti (y := zX2_across) rfl dX2_across_8, S.g0, mm_op_some, S.a1, nI_xor, tw_xor, mm_in_t, true_and, nI_clamp, r1]
end CM1
