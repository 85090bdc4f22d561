theorem isin_nr (x : Int32) : mm_isin x.toInt64 (-2) 2 = bI (nr x) := by
  have z1 : (-2 : Int64).toInt = -2 := by decide
  have z2 : (2 : Int64).toInt = 2 := by decide
  have z3 : (-2 : Int32).toInt = -2 := by decide
  have z4 : (nI 2).toInt = 2 := by decide
  by_cases h : ¬ x < -2 ∧ ¬ nI 2 < x
  · rw [show nr x = true from decide_eq_true h, bI_t]
    refine isin_t ?_
    rw [Int32.lt_iff_toInt_lt, Int32.lt_iff_toInt_lt, z3, z4] at h
    rw [z1, z2]
    omega
  · rw [show nr x = false from decide_eq_false h, bI_f]
    refine isin_f ?_
    rw [Int32.lt_iff_toInt_lt, Int32.lt_iff_toInt_lt, z3, z4] at h
    rw [z1, z2]
    omega
section MLW
variable {sh : mm_Sh} {m : Nat} {M : Ms} {μ : mm_U} {s : Fo} {Q : Option Value → mm_U → Prop} {least : Int32}
theorem m_stateOf (c : Ce) {x y : Int32} (hx : nr x = true) (hy : nr y = true) : cl sh zX6_stateOf [.int (nI c.val), .int x, .int y] μ Q = Q (some (.int (nI (p3 c x y).val))) μ := by
  show wp sh zX6_stateOf 0 [.int (nI c.val), .int x, .int y] [] μ Q = _
  have e : nI 25 * nI c.val + nI 5 * (x + nI 2) + y + nI 2 = nI (p3 c x y).val := by
    rw [← (p3_val hx hy).1, Int32.mul_comm (nI 25), Int32.mul_comm (nI 5)]
  rw [← e]
  simp (disch := first | omega | assumption) only [wp_bipush (y := zX6_stateOf) (nI 25) kb_25 dX6_stateOf_0, wp_il0 (y := zX6_stateOf) dX6_stateOf_2, wp_imul (y := zX6_stateOf) dX6_stateOf_3, wp_iconst (y := zX6_stateOf) (nI 5) ki_5 dX6_stateOf_4, wp_il1 (y := zX6_stateOf) dX6_stateOf_5, wp_iconst (y := zX6_stateOf) (nI 2) ki_2 dX6_stateOf_6, wp_iadd (y := zX6_stateOf) dX6_stateOf_7, wp_imul (y := zX6_stateOf) dX6_stateOf_8, wp_iadd (y := zX6_stateOf) dX6_stateOf_9, wp_il2 (y := zX6_stateOf) dX6_stateOf_10, wp_iadd (y := zX6_stateOf) dX6_stateOf_11, wp_iconst (y := zX6_stateOf) (nI 2) ki_2 dX6_stateOf_12, wp_iadd (y := zX6_stateOf) dX6_stateOf_13, wp_ireti (y := zX6_stateOf) rfl dX6_stateOf_14, mm_rc_some]
theorem Inv.gr3 (J : Inv M) {u v : P3} (h : Gr3 M least u v) : 0 < sd M (c3 v) := by
  obtain ⟨i, hi, e⟩ := h
  obtain ⟨lh, oh⟩ := (J.rnd (c3 u) _).mpr ⟨i, hi, rfl⟩
  unfold gg3 at e
  generalize nxi M i (hI ((fH M (c3 u)).getD 0)) = g at e lh oh
  split at e
  · rename_i q
    cases e
    rw [(p3_val q.1 q.2.1).2]
    exact J.owl _ (LvH_tw.mpr lh)
  · cases e
end MLW
