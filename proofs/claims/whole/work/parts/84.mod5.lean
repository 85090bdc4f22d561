/-! ===== writes into the model's row ===== -/
def FrR (μ μ' : mm_U) (m : Nat) : Prop := (∀ a, a ≠ m + 1 → μ' a = μ a) ∧ ∀ k, k < 16 ∨ 1696 ≤ k → μ' (m + 1) k = μ (m + 1) k
theorem FrR.refl (μ : mm_U) (m : Nat) : FrR μ μ m := ⟨fun _ _ => rfl, fun _ _ => rfl⟩
theorem FrR.trans {μ μ1 μ2 : mm_U} {m : Nat} (h1 : FrR μ μ1 m) (h2 : FrR μ1 μ2 m) : FrR μ μ2 m := ⟨fun a h => (h2.1 a h).trans (h1.1 a h), fun k h => (h2.2 k h).trans (h1.2 k h)⟩
theorem FrR_mu {μ μ1 : mm_U} {m : Nat} (h : FrR μ μ1 m) (k : Nat) (v : Int32) (h1 : 16 ≤ k) (h2 : k < 1696) : FrR μ (mu μ1 (m + 1) (upd (μ1 (m + 1)) k v)) m := ⟨fun a ha => by rw [mu_n _ _ ha]; exact h.1 a ha, fun j hj => by rw [mu_s, upd_n _ _ (by omega)]; exact h.2 j hj⟩
section MEW
variable {M : Ms} {r : Nat → Int32}
theorem MeR.wNx (A : MeR M r) (h : Hf) (v : Hf) : MeR (sNx M h v) (upd r (16 + h.val) (nI v.val)) := by
  refine ⟨fun g lg => ?_, fun w => ?_, fun c => ?_, fun c hc => ?_⟩
  · obtain ⟨q0, q1, q2, q3, q4⟩ := A.1 g lg
    refine ⟨?_, ?_, ?_, ?_, ?_⟩
    · show upd r (16 + h.val) (nI v.val) (16 + g.val) = nI (fu (nx M) h v g).val
      by_cases z : g = h
      · rw [z, upd_s, fu_s]
      · rw [upd_n _ _ (fun e => z (Fin.ext (by omega))), fu_n _ _ z]; exact q0
    · rw [upd_n _ _ (by omega)]; exact q1
    · rw [upd_n _ _ (by omega)]; exact q2
    · rw [upd_n _ _ (by omega)]; exact q3
    · rw [upd_n _ _ (by omega)]; exact q4
  · rw [upd_n _ _ (by omega)]; exact A.2.1 w
  · rw [upd_n _ _ (by omega)]; exact A.2.2.1 c
  · rw [upd_n _ _ (by omega)]; exact A.2.2.2 c hc
theorem MeR.wPv (A : MeR M r) (h : Hf) (v : Hf) : MeR (sPv M h v) (upd r (304 + h.val) (nI v.val)) := by
  refine ⟨fun g lg => ?_, fun w => ?_, fun c => ?_, fun c hc => ?_⟩
  · obtain ⟨q0, q1, q2, q3, q4⟩ := A.1 g lg
    refine ⟨?_, ?_, ?_, ?_, ?_⟩
    · rw [upd_n _ _ (by omega)]; exact q0
    · show upd r (304 + h.val) (nI v.val) (304 + g.val) = nI (fu (pv M) h v g).val
      by_cases z : g = h
      · rw [z, upd_s, fu_s]
      · rw [upd_n _ _ (fun e => z (Fin.ext (by omega))), fu_n _ _ z]; exact q1
    · rw [upd_n _ _ (by omega)]; exact q2
    · rw [upd_n _ _ (by omega)]; exact q3
    · rw [upd_n _ _ (by omega)]; exact q4
  · rw [upd_n _ _ (by omega)]; exact A.2.1 w
  · rw [upd_n _ _ (by omega)]; exact A.2.2.1 c
  · rw [upd_n _ _ (by omega)]; exact A.2.2.2 c hc
theorem MeR.wOw (A : MeR M r) (h : Hf) (v : Ce) : MeR (sOw M h v) (upd r (592 + h.val) (nI v.val)) := by
  refine ⟨fun g lg => ?_, fun w => ?_, fun c => ?_, fun c hc => ?_⟩
  · obtain ⟨q0, q1, q2, q3, q4⟩ := A.1 g lg
    refine ⟨?_, ?_, ?_, ?_, ?_⟩
    · rw [upd_n _ _ (by omega)]; exact q0
    · rw [upd_n _ _ (by omega)]; exact q1
    · show upd r (592 + h.val) (nI v.val) (592 + g.val) = nI (fu (ow M) h v g).val
      by_cases z : g = h
      · rw [z, upd_s, fu_s]
      · rw [upd_n _ _ (fun e => z (Fin.ext (by omega))), fu_n _ _ z]; exact q2
    · rw [upd_n _ _ (by omega)]; exact q3
    · rw [upd_n _ _ (by omega)]; exact q4
  · rw [upd_n _ _ (by omega)]; exact A.2.1 w
  · rw [upd_n _ _ (by omega)]; exact A.2.2.1 c
  · rw [upd_n _ _ (by omega)]; exact A.2.2.2 c hc
theorem MeR.wRx (A : MeR M r) (h : Hf) (v : Int32) : MeR (sRx M h v) (upd r (880 + h.val) (v)) := by
  refine ⟨fun g lg => ?_, fun w => ?_, fun c => ?_, fun c hc => ?_⟩
  · obtain ⟨q0, q1, q2, q3, q4⟩ := A.1 g lg
    refine ⟨?_, ?_, ?_, ?_, ?_⟩
    · rw [upd_n _ _ (by omega)]; exact q0
    · rw [upd_n _ _ (by omega)]; exact q1
    · rw [upd_n _ _ (by omega)]; exact q2
    · show upd r (880 + h.val) (v) (880 + g.val) = fu (rx M) h v g
      by_cases z : g = h
      · rw [z, upd_s, fu_s]
      · rw [upd_n _ _ (fun e => z (Fin.ext (by omega))), fu_n _ _ z]; exact q3
    · rw [upd_n _ _ (by omega)]; exact q4
  · rw [upd_n _ _ (by omega)]; exact A.2.1 w
  · rw [upd_n _ _ (by omega)]; exact A.2.2.1 c
  · rw [upd_n _ _ (by omega)]; exact A.2.2.2 c hc
theorem MeR.wRy (A : MeR M r) (h : Hf) (v : Int32) : MeR (sRy M h v) (upd r (1168 + h.val) (v)) := by
  refine ⟨fun g lg => ?_, fun w => ?_, fun c => ?_, fun c hc => ?_⟩
  · obtain ⟨q0, q1, q2, q3, q4⟩ := A.1 g lg
    refine ⟨?_, ?_, ?_, ?_, ?_⟩
    · rw [upd_n _ _ (by omega)]; exact q0
    · rw [upd_n _ _ (by omega)]; exact q1
    · rw [upd_n _ _ (by omega)]; exact q2
    · rw [upd_n _ _ (by omega)]; exact q3
    · show upd r (1168 + h.val) (v) (1168 + g.val) = fu (ry M) h v g
      by_cases z : g = h
      · rw [z, upd_s, fu_s]
      · rw [upd_n _ _ (fun e => z (Fin.ext (by omega))), fu_n _ _ z]; exact q4
  · rw [upd_n _ _ (by omega)]; exact A.2.1 w
  · rw [upd_n _ _ (by omega)]; exact A.2.2.1 c
  · rw [upd_n _ _ (by omega)]; exact A.2.2.2 c hc
theorem MeR.wLn (A : MeR M r) (w : Wa) (v : Int32) (hw : lv M w = true) : MeR (sLn M w v) (upd r (1456 + w.val) v) := by
  refine ⟨fun g lg => ?_, fun x => ?_, fun c => ?_, fun c hc => ?_⟩
  · obtain ⟨q0, q1, q2, q3, q4⟩ := A.1 g lg
    refine ⟨?_, ?_, ?_, ?_, ?_⟩
    · rw [upd_n _ _ (by omega)]; exact q0
    · rw [upd_n _ _ (by omega)]; exact q1
    · rw [upd_n _ _ (by omega)]; exact q2
    · rw [upd_n _ _ (by omega)]; exact q3
    · rw [upd_n _ _ (by omega)]; exact q4
  · show upd r (1456 + w.val) v (1456 + x.val) = if lv M x = true then fu (ln M) w v x else -1
    by_cases z : x = w
    · rw [z, upd_s, fu_s, if_pos hw]
    · rw [upd_n _ _ (fun e => z (Fin.ext (by omega))), fu_n _ _ z]; exact A.2.1 x
  · rw [upd_n _ _ (by omega)]; exact A.2.2.1 c
  · rw [upd_n _ _ (by omega)]; exact A.2.2.2 c hc
theorem MeR.wOff (A : MeR M r) (w : Wa) : MeR (sLv M w false) (upd r (1456 + w.val) (-1)) := by
  refine ⟨fun g lg => ?_, fun x => ?_, fun c => ?_, fun c hc => ?_⟩
  · have lg' : LvH M g := by
      have lg : fu (lv M) w false (wl g) = true := lg
      have z : wl g ≠ w := fun e => by rw [e, fu_s] at lg; cases lg
      rw [fu_n _ _ z] at lg
      exact lg
    obtain ⟨q0, q1, q2, q3, q4⟩ := A.1 g lg'
    refine ⟨?_, ?_, ?_, ?_, ?_⟩
    · rw [upd_n _ _ (by omega)]; exact q0
    · rw [upd_n _ _ (by omega)]; exact q1
    · rw [upd_n _ _ (by omega)]; exact q2
    · rw [upd_n _ _ (by omega)]; exact q3
    · rw [upd_n _ _ (by omega)]; exact q4
  · show upd r (1456 + w.val) (-1) (1456 + x.val) = if fu (lv M) w false x = true then ln M x else -1
    by_cases z : x = w
    · rw [z, upd_s, fu_s, if_neg (by decide)]
    · rw [upd_n _ _ (fun e => z (Fin.ext (by omega))), fu_n _ _ z]; exact A.2.1 x
  · rw [upd_n _ _ (by omega)]; exact A.2.2.1 c
  · rw [upd_n _ _ (by omega)]; exact A.2.2.2 c hc
theorem MeR.wSd (A : MeR M r) (d : Ce) (v : Nat) (hv : 0 < v → r (1600 + d.val) = ar M d) : MeR (sSd M d v) (upd r (1648 + d.val) (nI v)) := by
  refine ⟨fun g lg => ?_, fun x => ?_, fun c => ?_, fun c hc => ?_⟩
  · obtain ⟨q0, q1, q2, q3, q4⟩ := A.1 g lg
    refine ⟨?_, ?_, ?_, ?_, ?_⟩
    · rw [upd_n _ _ (by omega)]; exact q0
    · rw [upd_n _ _ (by omega)]; exact q1
    · rw [upd_n _ _ (by omega)]; exact q2
    · rw [upd_n _ _ (by omega)]; exact q3
    · rw [upd_n _ _ (by omega)]; exact q4
  · rw [upd_n _ _ (by omega)]; exact A.2.1 x
  · show upd r (1648 + d.val) (nI v) (1648 + c.val) = nI (fu (sd M) d v c)
    by_cases z : c = d
    · rw [z, upd_s, fu_s]
    · rw [upd_n _ _ (fun e => z (Fin.ext (by omega))), fu_n _ _ z]; exact A.2.2.1 c
  · have hc : 0 < fu (sd M) d v c := hc
    show upd r (1648 + d.val) (nI v) (1600 + c.val) = ar M c
    rw [upd_n _ _ (by omega)]
    by_cases z : c = d
    · rw [z, fu_s] at hc
      rw [z]
      exact hv hc
    · rw [fu_n _ _ z] at hc
      exact A.2.2.2 c hc
theorem MeR.wAr (A : MeR M r) (d : Ce) (v : Int32) : MeR (sAr M d v) (upd r (1600 + d.val) v) := by
  refine ⟨fun g lg => ?_, fun x => ?_, fun c => ?_, fun c hc => ?_⟩
  · obtain ⟨q0, q1, q2, q3, q4⟩ := A.1 g lg
    refine ⟨?_, ?_, ?_, ?_, ?_⟩
    · rw [upd_n _ _ (by omega)]; exact q0
    · rw [upd_n _ _ (by omega)]; exact q1
    · rw [upd_n _ _ (by omega)]; exact q2
    · rw [upd_n _ _ (by omega)]; exact q3
    · rw [upd_n _ _ (by omega)]; exact q4
  · rw [upd_n _ _ (by omega)]; exact A.2.1 x
  · rw [upd_n _ _ (by omega)]; exact A.2.2.1 c
  · show upd r (1600 + d.val) v (1600 + c.val) = fu (ar M) d v c
    by_cases z : c = d
    · rw [z, upd_s, fu_s]
    · rw [upd_n _ _ (fun e => z (Fin.ext (by omega))), fu_n _ _ z]; exact A.2.2.2 c hc
end MEW
section MOF
variable {sh : mm_Sh} {m : Nat} {M : Ms} {μ : mm_U} {Q : Option Value → mm_U → Prop}
theorem m_join (O : MoSh sh m) (A : MeR M (μ (m + 1))) (a c : Hf) : cl sh zX6_join [.ref m, .int (nI a.val), .int (nI c.val)] μ (fun r μ' => r = none ∧ MeR (lkM M a c) (μ' (m + 1)) ∧ FrR μ μ' m) := by
  show wp sh zX6_join 0 [.ref m, .int (nI a.val), .int (nI c.val)] [] μ _
  simp (disch := first | omega | assumption) only [mm_op_some, true_and, and_true, mm_rc_some, mm_rc_none, pk_mul, nI_add, mm_in_t, nI_clamp, ok0, ok1, ok2, ok3, ok4, n1_0, n0_0, nI_le_, nI_lt_, if_true, if_false, not_true, not_false_eq_true, ce_lt, ce_cl, hf_lt, hf_cl, mu_s, wp_al0 (y := zX6_join) dX6_join_0, wp_getf (y := zX6_join) kF6_9 dX6_join_1, wp_bipush (y := zX6_join) (nI 16) kb_16 dX6_join_4, wp_il1 (y := zX6_join) dX6_join_6, wp_iadd (y := zX6_join) dX6_join_7, wp_il2 (y := zX6_join) dX6_join_8, wp_iast (y := zX6_join) dX6_join_9, wp_al0 (y := zX6_join) dX6_join_10, wp_getf (y := zX6_join) kF6_9 dX6_join_11, wp_sipush (y := zX6_join) (nI 304) ks_304 dX6_join_14, wp_il2 (y := zX6_join) dX6_join_17, wp_iadd (y := zX6_join) dX6_join_18, wp_il1 (y := zX6_join) dX6_join_19, wp_iast (y := zX6_join) dX6_join_20, wp_vret (y := zX6_join) rfl dX6_join_21, O.oc, O.g0, O.g1, O.g2, O.g3, O.g4, O.g5, O.g6, O.g7, O.g9, O.g10, O.g11, O.p0, O.p7, O.a1, O.a2, O.a3, O.a4, O.a5, O.a6, O.a7, O.a8, O.a9]
  refine ⟨?_, ?_⟩
  · exact (A.wNx a c).wPv c a
  · have := FrR_mu (FrR_mu (FrR.refl μ m) (16 + a.val) (nI c.val) (by omega) (by omega)) (304 + c.val) (nI a.val) (by omega) (by omega)
    rw [mu_s] at this
    exact this
def leM (M : Ms) (i : Hf) : Ms := sSd (lkM M (pv M i) (nx M i)) (ow M i) (sd M (ow M i) - 1)
theorem m_leave (O : MoSh sh m) (A : MeR M (μ (m + 1))) (i : Hf) (li : LvH M i) (hs : 0 < sd M (ow M i)) : cl sh zX6_leave [.ref m, .int (nI i.val)] μ (fun r μ' => r = none ∧ MeR (leM M i) (μ' (m + 1)) ∧ FrR μ μ' m) := by
  have E1 : ∀ Q', cl sh zX6_before [.ref m, .int (nI i.val)] μ Q' = Q' (some (.int (nI (pv M i).val))) μ := fun Q' => m_before O A i li
  have E2 : ∀ Q', cl sh zX6_next [.ref m, .int (nI i.val)] μ Q' = Q' (some (.int (nI (nx M i).val))) μ := fun Q' => m_next O A i li
  show wp sh zX6_leave 0 [.ref m, .int (nI i.val)] [] μ _
  simp (disch := first | omega | assumption) only [mm_op_some, true_and, and_true, mm_rc_some, mm_rc_none, pk_mul, nI_add, mm_in_t, nI_clamp, ok0, ok1, ok2, ok3, ok4, n1_0, n0_0, nI_le_, nI_lt_, if_true, if_false, not_true, not_false_eq_true, ce_lt, ce_cl, hf_lt, hf_cl, wp_al0 (y := zX6_leave) dX6_leave_0, wp_al0 (y := zX6_leave) dX6_leave_1, wp_il1 (y := zX6_leave) dX6_leave_2, wp_cv1 (y := zX6_leave) kM6_96 (by decide) dX6_leave_3, (show yo zX6_before = 6 from rfl), wp_al0 (y := zX6_leave) dX6_leave_6, wp_il1 (y := zX6_leave) dX6_leave_7, wp_cv1 (y := zX6_leave) kM6_90 (by decide) dX6_leave_8, (show yo zX6_next = 6 from rfl), wp_cv2 (y := zX6_leave) kM6_99 (by decide) dX6_leave_11, (show yo zX6_join = 6 from rfl), O.oc, O.g0, O.g1, O.g2, O.g3, O.g4, O.g5, O.g6, O.g7, O.g9, O.g10, O.g11, O.p0, O.p7, O.a1, O.a2, O.a3, O.a4, O.a5, O.a6, O.a7, O.a8, O.a9, E1, E2]
  refine cl_mono (m_join O A (pv M i) (nx M i)) ?_
  rintro r μ1 ⟨rfl, A1, F1⟩
  have E3 : ∀ Q', cl sh zX6_cellOf [.ref m, .int (nI i.val)] μ1 Q' = Q' (some (.int (nI (ow M i).val))) μ1 := fun Q' => m_cellOf O A1 i li
  have r1 : μ1 (m + 1) (1648 + (ow M i).val) = nI (sd M (ow M i)) := A1.2.2.1 (ow M i)
  have e1 : nI (sd M (ow M i)) - nI 1 = nI (sd M (ow M i) - 1) := pk_sub (by omega)
  simp (disch := first | omega | assumption) only [mm_op_some, true_and, and_true, mm_rc_some, mm_rc_none, pk_mul, nI_add, mm_in_t, nI_clamp, ok0, ok1, ok2, ok3, ok4, n1_0, n0_0, nI_le_, nI_lt_, if_true, if_false, not_true, not_false_eq_true, ce_lt, ce_cl, hf_lt, hf_cl, wp_al0 (y := zX6_leave) dX6_leave_14, wp_getf (y := zX6_leave) kF6_9 dX6_leave_15, wp_sipush (y := zX6_leave) (nI 1648) ks_1648 dX6_leave_18, wp_al0 (y := zX6_leave) dX6_leave_21, wp_il1 (y := zX6_leave) dX6_leave_22, wp_cv1 (y := zX6_leave) kM6_84 (by decide) dX6_leave_23, (show yo zX6_cellOf = 6 from rfl), wp_iadd (y := zX6_leave) dX6_leave_26, wp_dup2 (y := zX6_leave) dX6_leave_27, wp_iald (y := zX6_leave) dX6_leave_28, wp_iconst (y := zX6_leave) (nI 1) ki_1 dX6_leave_29, wp_isub (y := zX6_leave) dX6_leave_30, wp_iast (y := zX6_leave) dX6_leave_31, wp_vret (y := zX6_leave) rfl dX6_leave_32, O.oc, O.g0, O.g1, O.g2, O.g3, O.g4, O.g5, O.g6, O.g7, O.g9, O.g10, O.g11, O.p0, O.p7, O.a1, O.a2, O.a3, O.a4, O.a5, O.a6, O.a7, O.a8, O.a9, E3, r1, e1]
  refine ⟨?_, FrR_mu F1 _ _ (by omega) (by omega)⟩
  rw [mu_s]
  exact A1.wSd (ow M i) (sd M (ow M i) - 1) (fun _ => A1.2.2.2 (ow M i) hs)
theorem m_enter (O : MoSh sh m) (A : MeR M (μ (m + 1))) (i t : Hf) (li : LvH M i) (lt : LvH M t) (it_ : i ≠ t) (hs : 0 < sd M (ow M t)) : cl sh zX6_enter [.ref m, .int (nI i.val), .int (nI t.val)] μ (fun r μ' => r = none ∧ MeR (inM M i t (nx M t)) (μ' (m + 1)) ∧ FrR μ μ' m) := by
  have E1 : ∀ Q', cl sh zX6_next [.ref m, .int (nI t.val)] μ Q' = Q' (some (.int (nI (nx M t).val))) μ := fun Q' => m_next O A t lt
  show wp sh zX6_enter 0 [.ref m, .int (nI i.val), .int (nI t.val), .null] [] μ _
  simp (disch := first | omega | assumption) only [mm_op_some, true_and, and_true, mm_rc_some, mm_rc_none, pk_mul, nI_add, mm_in_t, nI_clamp, ok0, ok1, ok2, ok3, ok4, n1_0, n0_0, nI_le_, nI_lt_, if_true, if_false, not_true, not_false_eq_true, ce_lt, ce_cl, hf_lt, hf_cl, wp_al0 (y := zX6_enter) dX6_enter_0, wp_il2 (y := zX6_enter) dX6_enter_1, wp_cv1 (y := zX6_enter) kM6_90 (by decide) dX6_enter_2, (show yo zX6_next = 6 from rfl), wp_is3 (y := zX6_enter) dX6_enter_5, wp_al0 (y := zX6_enter) dX6_enter_6, wp_il2 (y := zX6_enter) dX6_enter_7, wp_il1 (y := zX6_enter) dX6_enter_8, wp_cv2 (y := zX6_enter) kM6_99 (by decide) dX6_enter_9, (show yo zX6_join = 6 from rfl), O.oc, O.g0, O.g1, O.g2, O.g3, O.g4, O.g5, O.g6, O.g7, O.g9, O.g10, O.g11, O.p0, O.p7, O.a1, O.a2, O.a3, O.a4, O.a5, O.a6, O.a7, O.a8, O.a9, E1]
  refine cl_mono (m_join O A t i) ?_
  rintro r μ1 ⟨rfl, A1, F1⟩
  simp (disch := first | omega | assumption) only [mm_op_some, true_and, and_true, mm_rc_some, mm_rc_none, pk_mul, nI_add, mm_in_t, nI_clamp, ok0, ok1, ok2, ok3, ok4, n1_0, n0_0, nI_le_, nI_lt_, if_true, if_false, not_true, not_false_eq_true, ce_lt, ce_cl, hf_lt, hf_cl, wp_al0 (y := zX6_enter) dX6_enter_12, wp_il1 (y := zX6_enter) dX6_enter_13, wp_il3 (y := zX6_enter) dX6_enter_14, wp_cv2 (y := zX6_enter) kM6_99 (by decide) dX6_enter_15, (show yo zX6_join = 6 from rfl), O.oc, O.g0, O.g1, O.g2, O.g3, O.g4, O.g5, O.g6, O.g7, O.g9, O.g10, O.g11, O.p0, O.p7, O.a1, O.a2, O.a3, O.a4, O.a5, O.a6, O.a7, O.a8, O.a9]
  refine cl_mono (m_join O A1 i (nx M t)) ?_
  rintro r μ2 ⟨rfl, A2, F2⟩
  have E3 : ∀ Q', cl sh zX6_cellOf [.ref m, .int (nI t.val)] μ2 Q' = Q' (some (.int (nI (ow M t).val))) μ2 := fun Q' => m_cellOf O A2 t lt
  have A3 := A2.wOw i (ow M t)
  have E4 : ∀ Q', cl sh zX6_cellOf [.ref m, .int (nI i.val)] (mu μ2 (m + 1) (upd (μ2 (m + 1)) (592 + i.val) (nI (ow M t).val))) Q' = Q' (some (.int (nI (ow M t).val))) (mu μ2 (m + 1) (upd (μ2 (m + 1)) (592 + i.val) (nI (ow M t).val))) := fun Q' => by
    have := m_cellOf (Q := Q') (M := sOw (lkM (lkM M t i) i (nx M t)) i (ow M t)) (μ := mu μ2 (m + 1) (upd (μ2 (m + 1)) (592 + i.val) (nI (ow M t).val))) O (by rw [mu_s]; exact A3) i li
    rw [show ow (sOw (lkM (lkM M t i) i (nx M t)) i (ow M t)) i = ow M t from fu_s _ _ _] at this
    exact this
  have r1 : upd (μ2 (m + 1)) (592 + i.val) (nI (ow M t).val) (1648 + (ow M t).val) = nI (sd M (ow M t)) := A3.2.2.1 (ow M t)
  simp (disch := first | omega | assumption) only [mm_op_some, true_and, and_true, mm_rc_some, mm_rc_none, pk_mul, nI_add, mm_in_t, nI_clamp, ok0, ok1, ok2, ok3, ok4, n1_0, n0_0, nI_le_, nI_lt_, if_true, if_false, not_true, not_false_eq_true, ce_lt, ce_cl, hf_lt, hf_cl, wp_al0 (y := zX6_enter) dX6_enter_18, wp_getf (y := zX6_enter) kF6_9 dX6_enter_19, wp_sipush (y := zX6_enter) (nI 592) ks_592 dX6_enter_22, wp_il1 (y := zX6_enter) dX6_enter_25, wp_iadd (y := zX6_enter) dX6_enter_26, wp_al0 (y := zX6_enter) dX6_enter_27, wp_il2 (y := zX6_enter) dX6_enter_28, wp_cv1 (y := zX6_enter) kM6_84 (by decide) dX6_enter_29, (show yo zX6_cellOf = 6 from rfl), wp_iast (y := zX6_enter) dX6_enter_32, wp_al0 (y := zX6_enter) dX6_enter_33, wp_getf (y := zX6_enter) kF6_9 dX6_enter_34, wp_sipush (y := zX6_enter) (nI 1648) ks_1648 dX6_enter_37, wp_al0 (y := zX6_enter) dX6_enter_40, wp_il1 (y := zX6_enter) dX6_enter_41, wp_cv1 (y := zX6_enter) kM6_84 (by decide) dX6_enter_42, (show yo zX6_cellOf = 6 from rfl), wp_iadd (y := zX6_enter) dX6_enter_45, wp_dup2 (y := zX6_enter) dX6_enter_46, wp_iald (y := zX6_enter) dX6_enter_47, wp_iconst (y := zX6_enter) (nI 1) ki_1 dX6_enter_48, wp_iadd (y := zX6_enter) dX6_enter_49, wp_iast (y := zX6_enter) dX6_enter_50, wp_vret (y := zX6_enter) rfl dX6_enter_51, O.oc, O.g0, O.g1, O.g2, O.g3, O.g4, O.g5, O.g6, O.g7, O.g9, O.g10, O.g11, O.p0, O.p7, O.a1, O.a2, O.a3, O.a4, O.a5, O.a6, O.a7, O.a8, O.a9, E3, E4, mu_s, r1]
  refine ⟨?_, ?_⟩
  · exact A3.wSd (ow M t) (sd M (ow M t) + 1) (fun _ => A3.2.2.2 (ow M t) hs)
  · have := FrR_mu (FrR_mu (F1.trans F2) (592 + i.val) (nI (ow M t).val) (by omega) (by omega)) (1648 + (ow M t).val) (nI (sd M (ow M t) + 1)) (by omega) (by omega)
    rw [mu_s] at this
    exact this
theorem m_counts (O : MoSh sh m) (A : MeR M (μ (m + 1))) (i : Hf) (x y : Int32) : cl sh zX6_counts [.ref m, .int (nI i.val), .int x, .int y] μ (fun r μ' => r = none ∧ MeR (rdM M i x y) (μ' (m + 1)) ∧ FrR μ μ' m) := by
  show wp sh zX6_counts 0 [.ref m, .int (nI i.val), .int x, .int y] [] μ _
  simp (disch := first | omega | assumption) only [mm_op_some, true_and, and_true, mm_rc_some, mm_rc_none, pk_mul, nI_add, mm_in_t, nI_clamp, ok0, ok1, ok2, ok3, ok4, n1_0, n0_0, nI_le_, nI_lt_, if_true, if_false, not_true, not_false_eq_true, ce_lt, ce_cl, hf_lt, hf_cl, nI_xor, tw_xor, mu_s, wp_al0 (y := zX6_counts) dX6_counts_0, wp_getf (y := zX6_counts) kF6_9 dX6_counts_1, wp_sipush (y := zX6_counts) (nI 880) ks_880 dX6_counts_4, wp_il1 (y := zX6_counts) dX6_counts_7, wp_iadd (y := zX6_counts) dX6_counts_8, wp_il2 (y := zX6_counts) dX6_counts_9, wp_iast (y := zX6_counts) dX6_counts_10, wp_al0 (y := zX6_counts) dX6_counts_11, wp_getf (y := zX6_counts) kF6_9 dX6_counts_12, wp_sipush (y := zX6_counts) (nI 1168) ks_1168 dX6_counts_15, wp_il1 (y := zX6_counts) dX6_counts_18, wp_iadd (y := zX6_counts) dX6_counts_19, wp_il3 (y := zX6_counts) dX6_counts_20, wp_iast (y := zX6_counts) dX6_counts_21, wp_al0 (y := zX6_counts) dX6_counts_22, wp_getf (y := zX6_counts) kF6_9 dX6_counts_23, wp_sipush (y := zX6_counts) (nI 880) ks_880 dX6_counts_26, wp_il1 (y := zX6_counts) dX6_counts_29, wp_iconst (y := zX6_counts) (nI 1) ki_1 dX6_counts_30, wp_ixor (y := zX6_counts) dX6_counts_31, wp_iadd (y := zX6_counts) dX6_counts_32, wp_il2 (y := zX6_counts) dX6_counts_33, wp_ineg (y := zX6_counts) dX6_counts_34, wp_iast (y := zX6_counts) dX6_counts_35, wp_al0 (y := zX6_counts) dX6_counts_36, wp_getf (y := zX6_counts) kF6_9 dX6_counts_37, wp_sipush (y := zX6_counts) (nI 1168) ks_1168 dX6_counts_40, wp_il1 (y := zX6_counts) dX6_counts_43, wp_iconst (y := zX6_counts) (nI 1) ki_1 dX6_counts_44, wp_ixor (y := zX6_counts) dX6_counts_45, wp_iadd (y := zX6_counts) dX6_counts_46, wp_il3 (y := zX6_counts) dX6_counts_47, wp_ineg (y := zX6_counts) dX6_counts_48, wp_iast (y := zX6_counts) dX6_counts_49, wp_vret (y := zX6_counts) rfl dX6_counts_50, O.oc, O.g0, O.g1, O.g2, O.g3, O.g4, O.g5, O.g6, O.g7, O.g9, O.g10, O.g11, O.p0, O.p7, O.a1, O.a2, O.a3, O.a4, O.a5, O.a6, O.a7, O.a8, O.a9]
  refine ⟨?_, ?_⟩
  · exact (((A.wRx i x).wRy i y).wRx (tw i) (-x)).wRy (tw i) (-y)
  · have := FrR_mu (FrR_mu (FrR_mu (FrR_mu (FrR.refl μ m) (880 + i.val) x (by omega) (by omega)) (1168 + i.val) y (by omega) (by omega)) (880 + (tw i).val) (-x) (by omega) (by omega)) (1168 + (tw i).val) (-y) (by omega) (by omega)
    simp only [mu_s] at this
    exact this
def tuM (M : Ms) (w : Wa) : Ms :=
  let M2 := leM (leM M (h0 w)) (h1 w)
  let M3 := inM M2 (h0 w) (tw (nx M (h0 w))) (nx M2 (tw (nx M (h0 w))))
  let M4 := inM M3 (h1 w) (tw (nx M (h1 w))) (nx M3 (tw (nx M (h1 w))))
  sLn (rdM M4 (h0 w) (rx M (tw (nx M (h0 w))) + rx M (pv M (h0 w))) (ry M (tw (nx M (h0 w))) + ry M (pv M (h0 w)))) w (nI 10)
theorem Ms_ext {M N : Ms} (e1 : lv M = lv N) (e2 : ow M = ow N) (e3 : nx M = nx N) (e4 : pv M = pv N) (e5 : rx M = rx N) (e6 : ry M = ry N) (e7 : ln M = ln N) (e8 : sd M = sd N) (e9 : ar M = ar N) : M = N := by
  obtain ⟨a1, a2, a3, a4, a5, a6, a7, a8, a9⟩ := M
  obtain ⟨b1, b2, b3, b4, b5, b6, b7, b8, b9⟩ := N
  have e1 : a1 = b1 := e1
  have e2 : a2 = b2 := e2
  have e3 : a3 = b3 := e3
  have e4 : a4 = b4 := e4
  have e5 : a5 = b5 := e5
  have e6 : a6 = b6 := e6
  have e7 : a7 = b7 := e7
  have e8 : a8 = b8 := e8
  have e9 : a9 = b9 := e9
  rw [e1, e2, e3, e4, e5, e6, e7, e8, e9]
end MOF
