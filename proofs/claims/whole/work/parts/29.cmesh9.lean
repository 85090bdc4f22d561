section CM9
variable {sh : mm_Sh} {b : Nat} {M : Ms} {μ : mm_U} {Q : Option Value → mm_U → Prop}
/-- a half goes out of its cell, its twin out of the other one, their wall goes -/
def goM (M : Ms) (g : Hf) : Ms :=
  let M2 := sSd M (ow M g) (sd M (ow M g) - 1)
  let M3 := sSd M2 (ow M (tw g)) (sd M2 (ow M (tw g)) - 1)
  sLv (unM (unM M3 g) (tw g)) (wl g) false
def mst (p q : Hf) : Hf := if p.val < q.val then p else q
def mgo (p q : Hf) : Hf := if p.val < q.val then q else p
def mkM (M : Ms) (p q : Hf) : Ms := goM (sLn M (wl (mst p q)) (imin (ln M (wl p) + ln M (wl q)) (nI 99))) (mgo p q)
def MkOk (M : Ms) (p q : Hf) : Prop := lv M (wl p) = true ∧ lv M (wl q) = true ∧ 0 < sd M (ow M (mgo p q)) ∧ 0 < sd M (ow M (tw (mgo p q))) ∧ ow M (tw (mgo p q)) ≠ ow M (mgo p q)
theorem wl_div (h : Hf) : nI h.val / nI 2 = nI (wl h).val := nI_div2 h.isLt
theorem go_makeOne {p q : Int32} {v3 v5 : Value} (S : MeshSh sh b) (R : RepC M μ b) (g : Hf) (lg : lv M (wl g) = true) (s1 : 0 < sd M (ow M g)) (s2 : 0 < sd M (ow M (tw g))) (ne : ow M (tw g) ≠ ow M g) : wp sh zX2_makeOne 57 [.ref b, .int p, .int q, v3, .int (nI g.val), v5] [] μ (fun r μ' => r = none ∧ RepC (goM M g) μ' b ∧ Fr μ μ' b) := by
  have hg := g.isLt
  have k2 : ¬ nI 2 = 0 := by decide
  have r1 := (R.1 g lg).1
  have q1 := R.2.2.2.1 (ow M g)
  have p1 : nI (sd M (ow M g)) - nI 1 = nI (sd M (ow M g) - 1) := pk_sub (by omega)
  have p2 : nI (sd M (ow M (tw g))) - nI 1 = nI (sd M (ow M (tw g)) - 1) := pk_sub (by omega)
  have R2 := R.wSd (ow M g) (sd M (ow M g) - 1) (fun _ => R.2.2.2.2 _ s1)
  have E1 : ∀ Q', cl sh zX2_across [.ref b, .int (nI g.val)] (mu μ (b + 7) (upd (μ (b + 7)) (ow M g).val (nI (sd M (ow M g) - 1)))) Q' = Q' (some (.int (nI (ow M (tw g)).val))) (mu μ (b + 7) (upd (μ (b + 7)) (ow M g).val (nI (sd M (ow M g) - 1)))) := fun Q' => c_across S R2 g lg
  have e2 : sd (sSd M (ow M g) (sd M (ow M g) - 1)) (ow M (tw g)) = sd M (ow M (tw g)) := fu_n _ _ ne
  have q2 := R2.2.2.2.1 (ow M (tw g))
  rw [e2] at q2
  have R3 := R2.wSd (ow M (tw g)) (sd M (ow M (tw g)) - 1) (fun _ => R2.2.2.2.2 _ (by rw [e2]; exact s2))
  simp (disch := first | omega | assumption) only [wp_al0 (y := zX2_makeOne) dX2_makeOne_57, wp_getf (y := zX2_makeOne) kF2_30 dX2_makeOne_58, wp_al0 (y := zX2_makeOne) dX2_makeOne_61, wp_getf (y := zX2_makeOne) kF2_9 dX2_makeOne_62, wp_il4 (y := zX2_makeOne) dX2_makeOne_65, wp_iald (y := zX2_makeOne) dX2_makeOne_67, wp_dup2 (y := zX2_makeOne) dX2_makeOne_68, wp_iald (y := zX2_makeOne) dX2_makeOne_69, wp_iconst (y := zX2_makeOne) (nI 1) ki_1 dX2_makeOne_70, wp_isub (y := zX2_makeOne) dX2_makeOne_71, wp_iast (y := zX2_makeOne) dX2_makeOne_72, wp_al0 (y := zX2_makeOne) dX2_makeOne_73, wp_getf (y := zX2_makeOne) kF2_30 dX2_makeOne_74, wp_al0 (y := zX2_makeOne) dX2_makeOne_77, wp_il4 (y := zX2_makeOne) dX2_makeOne_78, wp_cv1 (y := zX2_makeOne) kM2_101 (by decide) dX2_makeOne_80, (show yo zX2_across = 2 from rfl), wp_dup2 (y := zX2_makeOne) dX2_makeOne_83, wp_iald (y := zX2_makeOne) dX2_makeOne_84, wp_iconst (y := zX2_makeOne) (nI 1) ki_1 dX2_makeOne_85, wp_isub (y := zX2_makeOne) dX2_makeOne_86, wp_iast (y := zX2_makeOne) dX2_makeOne_87, wp_al0 (y := zX2_makeOne) dX2_makeOne_88, wp_il4 (y := zX2_makeOne) dX2_makeOne_89, wp_cv1 (y := zX2_makeOne) kM2_84 (by decide) dX2_makeOne_91, (show yo zX2_unlink = 2 from rfl), mm_op_some, true_and, and_true, mm_rc_some, mm_rc_none, nI_xor, tw_xor, pk_mul, nI_add, mm_in_t, nI_clamp, ok0, ok1, ok2, ok3, ok4, n1_0, n0_0, n0_zz, n1_zz, bI_eq0, bI_ne0, bI_zz, nI_le_, nI_lt_, nI_eq_, nI_lt0, nI_ge0, nI_gt0, nI_le0, nI_eq0, m1_lt0, m1_ge0, if_true, if_false, not_true, not_false_eq_true, Classical.not_not, true_or, or_true, false_or, n1_1, k10, Bool.true_eq_false, Bool.false_eq_true, Nat.le_refl, and_self, and_false, false_and, or_self, or_false, hf_lt, ce_lt, wa_lt, hf_cl, ce_cl, wa_cl, ce_vv, hf_vv, wa_vv, i_irr, i_rfl, S.oc, S.g0, S.g1, S.g2, S.g3, S.g4, S.g5, S.g6, S.g7, S.a1, S.a2, S.a3, S.a4, S.a5, S.a6, S.a7, S.a8, r1, q1, p1, p2, E1, q2]
  refine cl_mono (c_unlink S R3 g lg) ?_
  rintro r μ1 ⟨rfl, R4, F4⟩
  simp (disch := first | omega | assumption) only [wp_al0 (y := zX2_makeOne) dX2_makeOne_94, wp_il4 (y := zX2_makeOne) dX2_makeOne_95, wp_iconst (y := zX2_makeOne) (nI 1) ki_1 dX2_makeOne_97, wp_ixor (y := zX2_makeOne) dX2_makeOne_98, wp_cv1 (y := zX2_makeOne) kM2_84 (by decide) dX2_makeOne_99, (show yo zX2_unlink = 2 from rfl), mm_op_some, true_and, and_true, mm_rc_some, mm_rc_none, nI_xor, tw_xor, pk_mul, nI_add, mm_in_t, nI_clamp, ok0, ok1, ok2, ok3, ok4, n1_0, n0_0, n0_zz, n1_zz, bI_eq0, bI_ne0, bI_zz, nI_le_, nI_lt_, nI_eq_, nI_lt0, nI_ge0, nI_gt0, nI_le0, nI_eq0, m1_lt0, m1_ge0, if_true, if_false, not_true, not_false_eq_true, Classical.not_not, true_or, or_true, false_or, n1_1, k10, Bool.true_eq_false, Bool.false_eq_true, Nat.le_refl, and_self, and_false, false_and, or_self, or_false, hf_lt, ce_lt, wa_lt, hf_cl, ce_cl, wa_cl, ce_vv, hf_vv, wa_vv, i_irr, i_rfl, S.oc, S.g0, S.g1, S.g2, S.g3, S.g4, S.g5, S.g6, S.g7, S.a1, S.a2, S.a3, S.a4, S.a5, S.a6, S.a7, S.a8]
  refine cl_mono (c_unlink S R4 (tw g) (by rw [wl_tw]; exact lg)) ?_
  rintro r μ2 ⟨rfl, R5, F5⟩
  simp (disch := first | omega | assumption) only [wp_al0 (y := zX2_makeOne) dX2_makeOne_102, wp_il4 (y := zX2_makeOne) dX2_makeOne_103, wp_iconst (y := zX2_makeOne) (nI 2) ki_2 dX2_makeOne_105, wp_idiv' (y := zX2_makeOne) dX2_makeOne_106, wp_cv1 (y := zX2_makeOne) kM2_107 (by decide) dX2_makeOne_107, (show yo zX2_dropWall = 2 from rfl), mm_op_some, true_and, and_true, mm_rc_some, mm_rc_none, nI_xor, tw_xor, pk_mul, nI_add, mm_in_t, nI_clamp, ok0, ok1, ok2, ok3, ok4, n1_0, n0_0, n0_zz, n1_zz, bI_eq0, bI_ne0, bI_zz, nI_le_, nI_lt_, nI_eq_, nI_lt0, nI_ge0, nI_gt0, nI_le0, nI_eq0, m1_lt0, m1_ge0, if_true, if_false, not_true, not_false_eq_true, Classical.not_not, true_or, or_true, false_or, n1_1, k10, Bool.true_eq_false, Bool.false_eq_true, Nat.le_refl, and_self, and_false, false_and, or_self, or_false, hf_lt, ce_lt, wa_lt, hf_cl, ce_cl, wa_cl, ce_vv, hf_vv, wa_vv, i_irr, i_rfl, S.oc, S.g0, S.g1, S.g2, S.g3, S.g4, S.g5, S.g6, S.g7, S.a1, S.a2, S.a3, S.a4, S.a5, S.a6, S.a7, S.a8, k2, wl_div]
  refine cl_mono (c_dropWall S R5 (wl g)) ?_
  rintro r μ3 ⟨rfl, R6, F6⟩
  simp (disch := first | omega | assumption) only [wp_vret (y := zX2_makeOne) rfl dX2_makeOne_110, mm_op_some, true_and, and_true, mm_rc_some, mm_rc_none, nI_xor, tw_xor, pk_mul, nI_add, mm_in_t, nI_clamp, ok0, ok1, ok2, ok3, ok4, n1_0, n0_0, n0_zz, n1_zz, bI_eq0, bI_ne0, bI_zz, nI_le_, nI_lt_, nI_eq_, nI_lt0, nI_ge0, nI_gt0, nI_le0, nI_eq0, m1_lt0, m1_ge0, if_true, if_false, not_true, not_false_eq_true, Classical.not_not, true_or, or_true, false_or, n1_1, k10, Bool.true_eq_false, Bool.false_eq_true, Nat.le_refl, and_self, and_false, false_and, or_self, or_false, hf_lt, ce_lt, wa_lt, hf_cl, ce_cl, wa_cl, ce_vv, hf_vv, wa_vv, i_irr, i_rfl, S.oc, S.g0, S.g1, S.g2, S.g3, S.g4, S.g5, S.g6, S.g7, S.a1, S.a2, S.a3, S.a4, S.a5, S.a6, S.a7, S.a8]
  refine ⟨?_, ?_⟩
  · unfold goM
    dsimp only
    rw [e2]
    exact R6
  · exact Fr.trans (Fr.trans (Fr.trans (Fr.mu (Fr.mu (Fr.refl μ b) _ (by omega) (by omega)) _ (by omega) (by omega)) F4) F5) F6
theorem c_makeOne (S : MeshSh sh b) (R : RepC M μ b) (p q : Hf) (ok : MkOk M p q) : cl sh zX2_makeOne [.ref b, .int (nI p.val), .int (nI q.val)] μ (fun r μ' => r = none ∧ RepC (mkM M p q) μ' b ∧ Fr μ μ' b) := by
  obtain ⟨lp, lq, s1, s2, ne⟩ := ok
  have hp := p.isLt
  have hq := q.isLt
  have k2 : ¬ nI 2 = 0 := by decide
  have rp := R.2.2.1 (wl p) lp
  have rq := R.2.2.1 (wl q) lq
  have R1 := R.wLn (wl (mst p q)) (imin (ln M (wl p) + ln M (wl q)) (nI 99))
  have lg : lv M (wl (mgo p q)) = true := by unfold mgo; split <;> assumption
  have F1 : Fr μ (mu μ (b + 6) (upd (μ (b + 6)) (wl (mst p q)).val (imin (ln M (wl p) + ln M (wl q)) (nI 99)))) b := (Fr.refl μ b).mu _ (by omega) (by omega)
  show wp sh zX2_makeOne 0 [.ref b, .int (nI p.val), .int (nI q.val), .null, .null, .null] [] μ _
  by_cases h : p.val < q.val
  · have h2 : ¬ q.val ≤ p.val := by omega
    have e1 : mst p q = p := if_pos h
    have e2 : mgo p q = q := if_pos h
    simp (disch := first | omega | assumption) only [wp_il1 (y := zX2_makeOne) dX2_makeOne_0, wp_il2 (y := zX2_makeOne) dX2_makeOne_1, wp_icmp_ge (y := zX2_makeOne) 9 (by decide) dX2_makeOne_2, wp_il1 (y := zX2_makeOne) dX2_makeOne_5, wp_goto (y := zX2_makeOne) 10 (by decide) dX2_makeOne_6, wp_il2 (y := zX2_makeOne) dX2_makeOne_9, wp_is3 (y := zX2_makeOne) dX2_makeOne_10, wp_il1 (y := zX2_makeOne) dX2_makeOne_11, wp_il2 (y := zX2_makeOne) dX2_makeOne_12, wp_icmp_ge (y := zX2_makeOne) 20 (by decide) dX2_makeOne_13, wp_il2 (y := zX2_makeOne) dX2_makeOne_16, wp_goto (y := zX2_makeOne) 21 (by decide) dX2_makeOne_17, wp_il1 (y := zX2_makeOne) dX2_makeOne_20, wp_is4 (y := zX2_makeOne) dX2_makeOne_21, wp_al0 (y := zX2_makeOne) dX2_makeOne_23, wp_getf (y := zX2_makeOne) kF2_27 dX2_makeOne_24, wp_il1 (y := zX2_makeOne) dX2_makeOne_27, wp_iconst (y := zX2_makeOne) (nI 2) ki_2 dX2_makeOne_28, wp_idiv' (y := zX2_makeOne) dX2_makeOne_29, wp_iald (y := zX2_makeOne) dX2_makeOne_30, wp_al0 (y := zX2_makeOne) dX2_makeOne_31, wp_getf (y := zX2_makeOne) kF2_27 dX2_makeOne_32, wp_il2 (y := zX2_makeOne) dX2_makeOne_35, wp_iconst (y := zX2_makeOne) (nI 2) ki_2 dX2_makeOne_36, wp_idiv' (y := zX2_makeOne) dX2_makeOne_37, wp_iald (y := zX2_makeOne) dX2_makeOne_38, wp_iadd (y := zX2_makeOne) dX2_makeOne_39, wp_is5 (y := zX2_makeOne) dX2_makeOne_40, wp_al0 (y := zX2_makeOne) dX2_makeOne_42, wp_getf (y := zX2_makeOne) kF2_27 dX2_makeOne_43, wp_il3 (y := zX2_makeOne) dX2_makeOne_46, wp_iconst (y := zX2_makeOne) (nI 2) ki_2 dX2_makeOne_47, wp_idiv' (y := zX2_makeOne) dX2_makeOne_48, wp_il5 (y := zX2_makeOne) dX2_makeOne_49, wp_bipush (y := zX2_makeOne) (nI 99) kb_99 dX2_makeOne_51, wp_cs2 (y := zX2_makeOne) kM2_113 (by decide) dX2_makeOne_53, wp_iast (y := zX2_makeOne) dX2_makeOne_56, mm_op_some, true_and, and_true, mm_rc_some, mm_rc_none, nI_xor, tw_xor, pk_mul, nI_add, mm_in_t, nI_clamp, ok0, ok1, ok2, ok3, ok4, n1_0, n0_0, n0_zz, n1_zz, bI_eq0, bI_ne0, bI_zz, nI_le_, nI_lt_, nI_eq_, nI_lt0, nI_ge0, nI_gt0, nI_le0, nI_eq0, m1_lt0, m1_ge0, if_true, if_false, not_true, not_false_eq_true, Classical.not_not, true_or, or_true, false_or, n1_1, k10, Bool.true_eq_false, Bool.false_eq_true, Nat.le_refl, and_self, and_false, false_and, or_self, or_false, hf_lt, ce_lt, wa_lt, hf_cl, ce_cl, wa_cl, ce_vv, hf_vv, wa_vv, i_irr, i_rfl, S.oc, S.g0, S.g1, S.g2, S.g3, S.g4, S.g5, S.g6, S.g7, S.a1, S.a2, S.a3, S.a4, S.a5, S.a6, S.a7, S.a8, h2, k2, wl_div, rp, rq, j_min]
    unfold mkM
    rw [e1] at R1 F1 ⊢
    rw [e2] at s1 s2 ne lg ⊢
    refine wp_mono (go_makeOne S R1 q lg s1 s2 ne) ?_
    rintro r μ' ⟨h1, h3, h4⟩
    exact ⟨h1, h3, F1.trans h4⟩
  · have h2 : q.val ≤ p.val := by omega
    have e1 : mst p q = q := if_neg h
    have e2 : mgo p q = p := if_neg h
    simp (disch := first | omega | assumption) only [wp_il1 (y := zX2_makeOne) dX2_makeOne_0, wp_il2 (y := zX2_makeOne) dX2_makeOne_1, wp_icmp_ge (y := zX2_makeOne) 9 (by decide) dX2_makeOne_2, wp_il1 (y := zX2_makeOne) dX2_makeOne_5, wp_goto (y := zX2_makeOne) 10 (by decide) dX2_makeOne_6, wp_il2 (y := zX2_makeOne) dX2_makeOne_9, wp_is3 (y := zX2_makeOne) dX2_makeOne_10, wp_il1 (y := zX2_makeOne) dX2_makeOne_11, wp_il2 (y := zX2_makeOne) dX2_makeOne_12, wp_icmp_ge (y := zX2_makeOne) 20 (by decide) dX2_makeOne_13, wp_il2 (y := zX2_makeOne) dX2_makeOne_16, wp_goto (y := zX2_makeOne) 21 (by decide) dX2_makeOne_17, wp_il1 (y := zX2_makeOne) dX2_makeOne_20, wp_is4 (y := zX2_makeOne) dX2_makeOne_21, wp_al0 (y := zX2_makeOne) dX2_makeOne_23, wp_getf (y := zX2_makeOne) kF2_27 dX2_makeOne_24, wp_il1 (y := zX2_makeOne) dX2_makeOne_27, wp_iconst (y := zX2_makeOne) (nI 2) ki_2 dX2_makeOne_28, wp_idiv' (y := zX2_makeOne) dX2_makeOne_29, wp_iald (y := zX2_makeOne) dX2_makeOne_30, wp_al0 (y := zX2_makeOne) dX2_makeOne_31, wp_getf (y := zX2_makeOne) kF2_27 dX2_makeOne_32, wp_il2 (y := zX2_makeOne) dX2_makeOne_35, wp_iconst (y := zX2_makeOne) (nI 2) ki_2 dX2_makeOne_36, wp_idiv' (y := zX2_makeOne) dX2_makeOne_37, wp_iald (y := zX2_makeOne) dX2_makeOne_38, wp_iadd (y := zX2_makeOne) dX2_makeOne_39, wp_is5 (y := zX2_makeOne) dX2_makeOne_40, wp_al0 (y := zX2_makeOne) dX2_makeOne_42, wp_getf (y := zX2_makeOne) kF2_27 dX2_makeOne_43, wp_il3 (y := zX2_makeOne) dX2_makeOne_46, wp_iconst (y := zX2_makeOne) (nI 2) ki_2 dX2_makeOne_47, wp_idiv' (y := zX2_makeOne) dX2_makeOne_48, wp_il5 (y := zX2_makeOne) dX2_makeOne_49, wp_bipush (y := zX2_makeOne) (nI 99) kb_99 dX2_makeOne_51, wp_cs2 (y := zX2_makeOne) kM2_113 (by decide) dX2_makeOne_53, wp_iast (y := zX2_makeOne) dX2_makeOne_56, mm_op_some, true_and, and_true, mm_rc_some, mm_rc_none, nI_xor, tw_xor, pk_mul, nI_add, mm_in_t, nI_clamp, ok0, ok1, ok2, ok3, ok4, n1_0, n0_0, n0_zz, n1_zz, bI_eq0, bI_ne0, bI_zz, nI_le_, nI_lt_, nI_eq_, nI_lt0, nI_ge0, nI_gt0, nI_le0, nI_eq0, m1_lt0, m1_ge0, if_true, if_false, not_true, not_false_eq_true, Classical.not_not, true_or, or_true, false_or, n1_1, k10, Bool.true_eq_false, Bool.false_eq_true, Nat.le_refl, and_self, and_false, false_and, or_self, or_false, hf_lt, ce_lt, wa_lt, hf_cl, ce_cl, wa_cl, ce_vv, hf_vv, wa_vv, i_irr, i_rfl, S.oc, S.g0, S.g1, S.g2, S.g3, S.g4, S.g5, S.g6, S.g7, S.a1, S.a2, S.a3, S.a4, S.a5, S.a6, S.a7, S.a8, h2, k2, wl_div, rp, rq, j_min]
    unfold mkM
    rw [e1] at R1 F1 ⊢
    rw [e2] at s1 s2 ne lg ⊢
    refine wp_mono (go_makeOne S R1 p lg s1 s2 ne) ?_
    rintro r μ' ⟨h1, h3, h4⟩
    exact ⟨h1, h3, F1.trans h4⟩
/-- the halves of a cell that is lost come to the one that is left -/
def jS (left : Ce) (x y : Int32) (M : Ms) (h : Hf) : Ms := sOw (rdM M h (rx M h + x) (ry M h + y)) h left
def jL (left : Ce) (x y : Int32) : Nat → Ms → Hf → Ms
  | 0, M, _ => M
  | k + 1, M, h => jL left x y k (jS left x y M h) (nx M h)
theorem jS_nx (left : Ce) (x y : Int32) (M : Ms) (h : Hf) : nx (jS left x y M h) = nx M ∧ pv (jS left x y M h) = pv M ∧ lv (jS left x y M h) = lv M ∧ sd (jS left x y M h) = sd M ∧ ar (jS left x y M h) = ar M ∧ ln (jS left x y M h) = ln M := ⟨rfl, rfl, rfl, rfl, rfl, rfl⟩
theorem jL_nx (left : Ce) (x y : Int32) : ∀ (k : Nat) (M : Ms) (h : Hf), nx (jL left x y k M h) = nx M ∧ pv (jL left x y k M h) = pv M ∧ lv (jL left x y k M h) = lv M ∧ sd (jL left x y k M h) = sd M ∧ ar (jL left x y k M h) = ar M ∧ ln (jL left x y k M h) = ln M
  | 0, _, _ => ⟨rfl, rfl, rfl, rfl, rfl, rfl⟩
  | k + 1, M, h => jL_nx left x y k (jS left x y M h) (nx M h)
/-- BURST, up to the two walls at each end: a is the half of the lesser cell -/
def joM1 (M : Ms) (w : Wa) (a : Hf) : Ms :=
  let o := tw a
  let M1 := jL (ow M a) (rx M a) (ry M a) (sd M (ow M o) - 1) M (nx M o)
  let M2 := lkM (lkM M1 (pv M a) (nx M o)) (pv M o) (nx M a)
  let M3 := sAr (sSd M2 (ow M a) (sd M (ow M a) + sd M (ow M o) - 2)) (ow M a) (ar M (ow M a) + ar M (ow M o))
  sAr (sSd (sLv M3 w false) (ow M o) 0) (ow M o) (nI 0)
def joM (M : Ms) (w : Wa) (a : Hf) : Ms := mkM (mkM (joM1 M w a) (pv M a) (nx M (tw a))) (pv M (tw a)) (nx M a)
def JoOk (M : Ms) (w : Wa) (a : Hf) : Prop := lv M w = true ∧ wl a = w ∧ (ow M a).val < (ow M (tw a)).val ∧ LvN M ∧ 1 < sd M (ow M (tw a)) ∧ 0 < sd M (ow M a) ∧ MkOk (joM1 M w a) (pv M a) (nx M (tw a)) ∧ MkOk (mkM (joM1 M w a) (pv M a) (nx M (tw a))) (pv M (tw a)) (nx M a)
theorem lp_join (S : MeshSh sh b) (left lost : Ce) (x y : Int32) (v1 v2 v3 v10 v11 v12 : Value) (N : Nat) (μ0 : mm_U) (Q : Option Value → mm_U → Prop) : ∀ (d k : Nat) (M : Ms) (μ : mm_U) (h : Hf), k + d = N → RepC M μ b → LvN M → lv M (wl h) = true → sd M lost = N → N < 2 ^ 31 → Fr μ0 μ b →
    (∀ μ' h', RepC (jL left x y d M h) μ' b → Fr μ0 μ' b → wp sh zX2_join 80 [.ref b, v1, v2, v3, .int (nI left.val), .int (nI lost.val), .int x, .int y, .int (nI (h' : Hf).val), .int (nI N), v10, v11, v12] [] μ' Q) →
    wp sh zX2_join 80 [.ref b, v1, v2, v3, .int (nI left.val), .int (nI lost.val), .int x, .int y, .int (nI h.val), .int (nI k), v10, v11, v12] [] μ Q := by
  intro d
  induction d with
  | zero =>
    intro k M μ h hk R L hl hs hN F kk
    rw [show k = N by omega]
    exact kk μ h R F
  | succ d ih =>
    intro k M μ h hk R L hl hs hN F kk
    have rs := R.2.2.2.1 lost
    rw [hs] at rs
    have h9 : ¬ N ≤ k := by omega
    have r1 := (R.1 h hl).2.2.2
    rw [wp_il9 (y := zX2_join) dX2_join_80]
    simp (disch := first | omega | assumption) only [wp_al0 (y := zX2_join) dX2_join_82, wp_getf (y := zX2_join) kF2_30 dX2_join_83, wp_il5 (y := zX2_join) dX2_join_86, wp_iald (y := zX2_join) dX2_join_88, wp_icmp_ge (y := zX2_join) 142 (by decide) dX2_join_89, wp_al0 (y := zX2_join) dX2_join_92, wp_il8 (y := zX2_join) dX2_join_93, wp_al0 (y := zX2_join) dX2_join_95, wp_getf (y := zX2_join) kF2_21 dX2_join_96, wp_il8 (y := zX2_join) dX2_join_99, wp_iald (y := zX2_join) dX2_join_101, wp_il6 (y := zX2_join) dX2_join_102, wp_iadd (y := zX2_join) dX2_join_104, wp_al0 (y := zX2_join) dX2_join_105, wp_getf (y := zX2_join) kF2_24 dX2_join_106, wp_il8 (y := zX2_join) dX2_join_109, wp_iald (y := zX2_join) dX2_join_111, wp_il7 (y := zX2_join) dX2_join_112, wp_iadd (y := zX2_join) dX2_join_114, wp_cv3 (y := zX2_join) kM2_64 (by decide) dX2_join_115, (show yo zX2_setRound = 2 from rfl), mm_op_some, true_and, and_true, mm_rc_some, mm_rc_none, nI_xor, tw_xor, pk_mul, nI_add, mm_in_t, nI_clamp, ok0, ok1, ok2, ok3, ok4, n1_0, n0_0, n0_zz, n1_zz, bI_eq0, bI_ne0, bI_zz, nI_le_, nI_lt_, nI_eq_, nI_lt0, nI_ge0, nI_gt0, nI_le0, nI_eq0, m1_lt0, m1_ge0, if_true, if_false, not_true, not_false_eq_true, Classical.not_not, true_or, or_true, false_or, n1_1, k10, Bool.true_eq_false, Bool.false_eq_true, Nat.le_refl, and_self, and_false, false_and, or_self, or_false, hf_lt, ce_lt, wa_lt, hf_cl, ce_cl, wa_cl, ce_vv, hf_vv, wa_vv, i_irr, i_rfl, S.oc, S.g0, S.g1, S.g2, S.g3, S.g4, S.g5, S.g6, S.g7, S.a1, S.a2, S.a3, S.a4, S.a5, S.a6, S.a7, S.a8, rs, h9, r1]
    refine cl_mono (c_setRound S R h (rx M h + x) (ry M h + y)) ?_
    rintro r μ1 ⟨rfl, R1, F1⟩
    have R2 := R1.wOw h left hl
    have r2 : mu μ1 (b + 1) (upd (μ1 (b + 1)) h.val (nI left.val)) (b + 2) h.val = nI (nx M h).val := (R2.1 h hl).2.1
    simp (disch := first | omega | assumption) only [wp_al0 (y := zX2_join) dX2_join_118, wp_getf (y := zX2_join) kF2_9 dX2_join_119, wp_il8 (y := zX2_join) dX2_join_122, wp_il4 (y := zX2_join) dX2_join_124, wp_iast (y := zX2_join) dX2_join_126, wp_al0 (y := zX2_join) dX2_join_127, wp_getf (y := zX2_join) kF2_15 dX2_join_128, wp_il8 (y := zX2_join) dX2_join_131, wp_iald (y := zX2_join) dX2_join_133, wp_is8 (y := zX2_join) dX2_join_134, wp_inc9 (y := zX2_join) (nI 1) ki_1 dX2_join_136, wp_goto (y := zX2_join) 80 (by decide) dX2_join_139, mm_op_some, true_and, and_true, mm_rc_some, mm_rc_none, nI_xor, tw_xor, pk_mul, nI_add, mm_in_t, nI_clamp, ok0, ok1, ok2, ok3, ok4, n1_0, n0_0, n0_zz, n1_zz, bI_eq0, bI_ne0, bI_zz, nI_le_, nI_lt_, nI_eq_, nI_lt0, nI_ge0, nI_gt0, nI_le0, nI_eq0, m1_lt0, m1_ge0, if_true, if_false, not_true, not_false_eq_true, Classical.not_not, true_or, or_true, false_or, n1_1, k10, Bool.true_eq_false, Bool.false_eq_true, Nat.le_refl, and_self, and_false, false_and, or_self, or_false, hf_lt, ce_lt, wa_lt, hf_cl, ce_cl, wa_cl, ce_vv, hf_vv, wa_vv, i_irr, i_rfl, S.oc, S.g0, S.g1, S.g2, S.g3, S.g4, S.g5, S.g6, S.g7, S.a1, S.a2, S.a3, S.a4, S.a5, S.a6, S.a7, S.a8, r2]
    refine ih (k + 1) (jS left x y M h) _ (nx M h) (by omega) R2 L (L h hl) hs hN (F.trans (F1.mu _ (by omega) (by omega))) ?_
    intro μ' h' R' F'
    exact kk μ' h' R' F'
theorem c_join (S : MeshSh sh b) (R : RepC M μ b) (B : SdB M) (w : Wa) (a : Hf) (ok : JoOk M w a) : cl sh zX2_join [.ref b, .int (nI w.val)] μ (fun r μ' => r = some (.int (nI (ow M a).val)) ∧ RepC (joM M w a) μ' b ∧ Fr μ μ' b) := by
  obtain ⟨hl, hw, hlt, L, so, sa, mk1, mk2⟩ := ok
  have la : lv M (wl a) = true := by rw [hw]; exact hl
  have lo : lv M (wl (tw a)) = true := by rw [wl_tw]; exact la
  have l0 : lv M (wl (h0 w)) = true := by rw [wl_h0]; exact hl
  have l1 : lv M (wl (h1 w)) = true := by rw [wl_h1]; exact hl
  have r0 := (R.1 (h0 w) l0).1
  have r1 := (R.1 (h1 w) l1).1
  rw [h0_val] at r0
  rw [h1_val] at r1
  have wb := w.isLt
  have ha := a.isLt
  have ra := R.1 a la
  have ro := R.1 (tw a) lo
  have q1 : wp sh zX2_join 32 [.ref b, .int (nI w.val), .null, .null, .null, .null, .null, .null, .null, .null, .null, .null, .null] [.int (nI a.val)] μ (fun r μ' => r = some (.int (nI (ow M a).val)) ∧ RepC (joM M w a) μ' b ∧ Fr μ μ' b) := by
    simp (disch := first | omega | assumption) only [wp_is2 (y := zX2_join) dX2_join_32, wp_il2 (y := zX2_join) dX2_join_33, wp_iconst (y := zX2_join) (nI 1) ki_1 dX2_join_34, wp_ixor (y := zX2_join) dX2_join_35, wp_is3 (y := zX2_join) dX2_join_36, wp_al0 (y := zX2_join) dX2_join_37, wp_getf (y := zX2_join) kF2_9 dX2_join_38, wp_il2 (y := zX2_join) dX2_join_41, wp_iald (y := zX2_join) dX2_join_42, wp_is4 (y := zX2_join) dX2_join_43, wp_al0 (y := zX2_join) dX2_join_45, wp_getf (y := zX2_join) kF2_9 dX2_join_46, wp_il3 (y := zX2_join) dX2_join_49, wp_iald (y := zX2_join) dX2_join_50, wp_is5 (y := zX2_join) dX2_join_51, wp_al0 (y := zX2_join) dX2_join_53, wp_getf (y := zX2_join) kF2_21 dX2_join_54, wp_il2 (y := zX2_join) dX2_join_57, wp_iald (y := zX2_join) dX2_join_58, wp_is6 (y := zX2_join) dX2_join_59, wp_al0 (y := zX2_join) dX2_join_61, wp_getf (y := zX2_join) kF2_24 dX2_join_62, wp_il2 (y := zX2_join) dX2_join_65, wp_iald (y := zX2_join) dX2_join_66, wp_is7 (y := zX2_join) dX2_join_67, wp_al0 (y := zX2_join) dX2_join_69, wp_getf (y := zX2_join) kF2_15 dX2_join_70, wp_il3 (y := zX2_join) dX2_join_73, wp_iald (y := zX2_join) dX2_join_74, wp_is8 (y := zX2_join) dX2_join_75, wp_iconst (y := zX2_join) (nI 1) ki_1 dX2_join_77, wp_is9 (y := zX2_join) dX2_join_78, mm_op_some, true_and, and_true, mm_rc_some, mm_rc_none, nI_xor, tw_xor, pk_mul, nI_add, mm_in_t, nI_clamp, ok0, ok1, ok2, ok3, ok4, n1_0, n0_0, n0_zz, n1_zz, bI_eq0, bI_ne0, bI_zz, nI_le_, nI_lt_, nI_eq_, nI_lt0, nI_ge0, nI_gt0, nI_le0, nI_eq0, m1_lt0, m1_ge0, if_true, if_false, not_true, not_false_eq_true, Classical.not_not, true_or, or_true, false_or, n1_1, k10, Bool.true_eq_false, Bool.false_eq_true, Nat.le_refl, and_self, and_false, false_and, or_self, or_false, hf_lt, ce_lt, wa_lt, hf_cl, ce_cl, wa_cl, ce_vv, hf_vv, wa_vv, i_irr, i_rfl, S.oc, S.g0, S.g1, S.g2, S.g3, S.g4, S.g5, S.g6, S.g7, S.a1, S.a2, S.a3, S.a4, S.a5, S.a6, S.a7, S.a8, ra, ro]
    have bs := B (ow M (tw a))
    refine lp_join S (ow M a) (ow M (tw a)) (rx M a) (ry M a) _ _ _ _ _ _ (sd M (ow M (tw a))) μ _ (sd M (ow M (tw a)) - 1) 1 M μ (nx M (tw a)) (by omega) R L (L _ lo) rfl (by omega) (Fr.refl _ _) ?_
    intro μ1 h' R1 F1
    obtain ⟨j1, j2, j3, j4, j5, j6⟩ := jL_nx (ow M a) (rx M a) (ry M a) (sd M (ow M (tw a)) - 1) M (nx M (tw a))
    generalize hM1 : jL (ow M a) (rx M a) (ry M a) (sd M (ow M (tw a)) - 1) M (nx M (tw a)) = M1 at R1 j1 j2 j3 j4 j5 j6
    have la1 : lv M1 (wl a) = true := by rw [j3]; exact la
    have lo1 : lv M1 (wl (tw a)) = true := by rw [j3]; exact lo
    have a1 := (R1.1 a la1).2.1
    have a2 := (R1.1 a la1).2.2.1
    have a3 := (R1.1 (tw a) lo1).2.1
    have a4 := (R1.1 (tw a) lo1).2.2.1
    rw [j1] at a1 a3
    rw [j2] at a2 a4
    have rs := R1.2.2.2.1 (ow M (tw a))
    rw [j4] at rs
    have h9 : sd M (ow M (tw a)) ≤ sd M (ow M (tw a)) := Nat.le_refl _
    rw [wp_il9 (y := zX2_join) dX2_join_80]
    simp (disch := first | omega | assumption) only [wp_al0 (y := zX2_join) dX2_join_82, wp_getf (y := zX2_join) kF2_30 dX2_join_83, wp_il5 (y := zX2_join) dX2_join_86, wp_iald (y := zX2_join) dX2_join_88, wp_icmp_ge (y := zX2_join) 142 (by decide) dX2_join_89, wp_al0 (y := zX2_join) dX2_join_92, wp_il8 (y := zX2_join) dX2_join_93, wp_al0 (y := zX2_join) dX2_join_95, wp_getf (y := zX2_join) kF2_21 dX2_join_96, wp_il8 (y := zX2_join) dX2_join_99, wp_iald (y := zX2_join) dX2_join_101, wp_il6 (y := zX2_join) dX2_join_102, wp_iadd (y := zX2_join) dX2_join_104, wp_al0 (y := zX2_join) dX2_join_105, wp_getf (y := zX2_join) kF2_24 dX2_join_106, wp_il8 (y := zX2_join) dX2_join_109, wp_iald (y := zX2_join) dX2_join_111, wp_il7 (y := zX2_join) dX2_join_112, wp_iadd (y := zX2_join) dX2_join_114, wp_cv3 (y := zX2_join) kM2_64 (by decide) dX2_join_115, (show yo zX2_setRound = 2 from rfl), wp_al0 (y := zX2_join) dX2_join_118, wp_getf (y := zX2_join) kF2_9 dX2_join_119, wp_il8 (y := zX2_join) dX2_join_122, wp_il4 (y := zX2_join) dX2_join_124, wp_iast (y := zX2_join) dX2_join_126, wp_al0 (y := zX2_join) dX2_join_127, wp_getf (y := zX2_join) kF2_15 dX2_join_128, wp_il8 (y := zX2_join) dX2_join_131, wp_iald (y := zX2_join) dX2_join_133, wp_is8 (y := zX2_join) dX2_join_134, wp_inc9 (y := zX2_join) (nI 1) ki_1 dX2_join_136, wp_goto (y := zX2_join) 80 (by decide) dX2_join_139, wp_al0 (y := zX2_join) dX2_join_142, wp_getf (y := zX2_join) kF2_18 dX2_join_143, wp_il2 (y := zX2_join) dX2_join_146, wp_iald (y := zX2_join) dX2_join_147, wp_is9 (y := zX2_join) dX2_join_148, wp_al0 (y := zX2_join) dX2_join_150, wp_getf (y := zX2_join) kF2_15 dX2_join_151, wp_il2 (y := zX2_join) dX2_join_154, wp_iald (y := zX2_join) dX2_join_155, wp_is10 (y := zX2_join) dX2_join_156, wp_al0 (y := zX2_join) dX2_join_158, wp_getf (y := zX2_join) kF2_18 dX2_join_159, wp_il3 (y := zX2_join) dX2_join_162, wp_iald (y := zX2_join) dX2_join_163, wp_is11 (y := zX2_join) dX2_join_164, wp_al0 (y := zX2_join) dX2_join_166, wp_getf (y := zX2_join) kF2_15 dX2_join_167, wp_il3 (y := zX2_join) dX2_join_170, wp_iald (y := zX2_join) dX2_join_171, wp_is12 (y := zX2_join) dX2_join_172, wp_al0 (y := zX2_join) dX2_join_174, wp_il9 (y := zX2_join) dX2_join_175, wp_il12 (y := zX2_join) dX2_join_177, wp_cv2 (y := zX2_join) kM2_50 (by decide) dX2_join_179, (show yo zX2_link = 2 from rfl), mm_op_some, true_and, and_true, mm_rc_some, mm_rc_none, nI_xor, tw_xor, pk_mul, nI_add, mm_in_t, nI_clamp, ok0, ok1, ok2, ok3, ok4, n1_0, n0_0, n0_zz, n1_zz, bI_eq0, bI_ne0, bI_zz, nI_le_, nI_lt_, nI_eq_, nI_lt0, nI_ge0, nI_gt0, nI_le0, nI_eq0, m1_lt0, m1_ge0, if_true, if_false, not_true, not_false_eq_true, Classical.not_not, true_or, or_true, false_or, n1_1, k10, Bool.true_eq_false, Bool.false_eq_true, Nat.le_refl, and_self, and_false, false_and, or_self, or_false, hf_lt, ce_lt, wa_lt, hf_cl, ce_cl, wa_cl, ce_vv, hf_vv, wa_vv, i_irr, i_rfl, S.oc, S.g0, S.g1, S.g2, S.g3, S.g4, S.g5, S.g6, S.g7, S.a1, S.a2, S.a3, S.a4, S.a5, S.a6, S.a7, S.a8, rs, a1, a2, a3, a4]
    refine cl_mono (c_link S R1 (pv M a) (nx M (tw a))) ?_
    rintro r μ2 ⟨rfl, R2, F2⟩
    simp (disch := first | omega | assumption) only [wp_al0 (y := zX2_join) dX2_join_182, wp_il11 (y := zX2_join) dX2_join_183, wp_il10 (y := zX2_join) dX2_join_185, wp_cv2 (y := zX2_join) kM2_50 (by decide) dX2_join_187, (show yo zX2_link = 2 from rfl), mm_op_some, true_and, and_true, mm_rc_some, mm_rc_none, nI_xor, tw_xor, pk_mul, nI_add, mm_in_t, nI_clamp, ok0, ok1, ok2, ok3, ok4, n1_0, n0_0, n0_zz, n1_zz, bI_eq0, bI_ne0, bI_zz, nI_le_, nI_lt_, nI_eq_, nI_lt0, nI_ge0, nI_gt0, nI_le0, nI_eq0, m1_lt0, m1_ge0, if_true, if_false, not_true, not_false_eq_true, Classical.not_not, true_or, or_true, false_or, n1_1, k10, Bool.true_eq_false, Bool.false_eq_true, Nat.le_refl, and_self, and_false, false_and, or_self, or_false, hf_lt, ce_lt, wa_lt, hf_cl, ce_cl, wa_cl, ce_vv, hf_vv, wa_vv, i_irr, i_rfl, S.oc, S.g0, S.g1, S.g2, S.g3, S.g4, S.g5, S.g6, S.g7, S.a1, S.a2, S.a3, S.a4, S.a5, S.a6, S.a7, S.a8]
    refine cl_mono (c_link S R2 (pv M (tw a)) (nx M a)) ?_
    rintro r μ3 ⟨rfl, R3, F3⟩
    have e1 : sd (lkM (lkM M1 (pv M a) (nx M (tw a))) (pv M (tw a)) (nx M a)) = sd M := j4
    have e2 : ar (lkM (lkM M1 (pv M a) (nx M (tw a))) (pv M (tw a)) (nx M a)) = ar M := j5
    have s1 := R3.2.2.2.1 (ow M a)
    have s2 := R3.2.2.2.1 (ow M (tw a))
    rw [e1] at s1 s2
    have p1 : nI (sd M (ow M (tw a))) - nI 2 = nI (sd M (ow M (tw a)) - 2) := pk_sub (by omega)
    have p2 : nI (sd M (ow M a) + (sd M (ow M (tw a)) - 2)) = nI (sd M (ow M a) + sd M (ow M (tw a)) - 2) := by congr 1; omega
    have R4 := R3.wSd (ow M a) (sd M (ow M a) + sd M (ow M (tw a)) - 2) (fun _ => R3.2.2.2.2 _ (by rw [e1]; exact sa))
    have ne : ow M (tw a) ≠ ow M a := fun e => by rw [e] at hlt; omega
    have e3 : sd (sSd (lkM (lkM M1 (pv M a) (nx M (tw a))) (pv M (tw a)) (nx M a)) (ow M a) (sd M (ow M a) + sd M (ow M (tw a)) - 2)) (ow M (tw a)) = sd M (ow M (tw a)) := (fu_n _ _ ne).trans (by rw [e1])
    have e4 : sd (sSd (lkM (lkM M1 (pv M a) (nx M (tw a))) (pv M (tw a)) (nx M a)) (ow M a) (sd M (ow M a) + sd M (ow M (tw a)) - 2)) (ow M a) = sd M (ow M a) + sd M (ow M (tw a)) - 2 := fu_s _ _ _
    have t1 := R4.2.2.2.2 (ow M a) (by rw [e4]; omega)
    have t2 := R4.2.2.2.2 (ow M (tw a)) (by rw [e3]; omega)
    have e5 : ar (sSd (lkM (lkM M1 (pv M a) (nx M (tw a))) (pv M (tw a)) (nx M a)) (ow M a) (sd M (ow M a) + sd M (ow M (tw a)) - 2)) = ar M := e2
    rw [e5] at t1 t2
    have R5 := R4.wAr (ow M a) (ar M (ow M a) + ar M (ow M (tw a)))
    simp (disch := first | omega | assumption) only [wp_al0 (y := zX2_join) dX2_join_190, wp_getf (y := zX2_join) kF2_30 dX2_join_191, wp_il4 (y := zX2_join) dX2_join_194, wp_dup2 (y := zX2_join) dX2_join_196, wp_iald (y := zX2_join) dX2_join_197, wp_al0 (y := zX2_join) dX2_join_198, wp_getf (y := zX2_join) kF2_30 dX2_join_199, wp_il5 (y := zX2_join) dX2_join_202, wp_iald (y := zX2_join) dX2_join_204, wp_iconst (y := zX2_join) (nI 2) ki_2 dX2_join_205, wp_isub (y := zX2_join) dX2_join_206, wp_iadd (y := zX2_join) dX2_join_207, wp_iast (y := zX2_join) dX2_join_208, wp_al0 (y := zX2_join) dX2_join_209, wp_getf (y := zX2_join) kF2_33 dX2_join_210, wp_il4 (y := zX2_join) dX2_join_213, wp_dup2 (y := zX2_join) dX2_join_215, wp_iald (y := zX2_join) dX2_join_216, wp_al0 (y := zX2_join) dX2_join_217, wp_getf (y := zX2_join) kF2_33 dX2_join_218, wp_il5 (y := zX2_join) dX2_join_221, wp_iald (y := zX2_join) dX2_join_223, wp_iadd (y := zX2_join) dX2_join_224, wp_iast (y := zX2_join) dX2_join_225, wp_al0 (y := zX2_join) dX2_join_226, wp_il1 (y := zX2_join) dX2_join_227, wp_cv1 (y := zX2_join) kM2_107 (by decide) dX2_join_228, (show yo zX2_dropWall = 2 from rfl), mm_op_some, true_and, and_true, mm_rc_some, mm_rc_none, nI_xor, tw_xor, pk_mul, nI_add, mm_in_t, nI_clamp, ok0, ok1, ok2, ok3, ok4, n1_0, n0_0, n0_zz, n1_zz, bI_eq0, bI_ne0, bI_zz, nI_le_, nI_lt_, nI_eq_, nI_lt0, nI_ge0, nI_gt0, nI_le0, nI_eq0, m1_lt0, m1_ge0, if_true, if_false, not_true, not_false_eq_true, Classical.not_not, true_or, or_true, false_or, n1_1, k10, Bool.true_eq_false, Bool.false_eq_true, Nat.le_refl, and_self, and_false, false_and, or_self, or_false, hf_lt, ce_lt, wa_lt, hf_cl, ce_cl, wa_cl, ce_vv, hf_vv, wa_vv, i_irr, i_rfl, S.oc, S.g0, S.g1, S.g2, S.g3, S.g4, S.g5, S.g6, S.g7, S.a1, S.a2, S.a3, S.a4, S.a5, S.a6, S.a7, S.a8, s1, s2, p1, p2, t1, t2]
    refine cl_mono (c_dropWall S R5 w) ?_
    rintro r μ4 ⟨rfl, R6, F6⟩
    simp (disch := first | omega | assumption) only [wp_al0 (y := zX2_join) dX2_join_231, wp_il5 (y := zX2_join) dX2_join_232, wp_cv1 (y := zX2_join) kM2_110 (by decide) dX2_join_234, (show yo zX2_dropCell = 2 from rfl), mm_op_some, true_and, and_true, mm_rc_some, mm_rc_none, nI_xor, tw_xor, pk_mul, nI_add, mm_in_t, nI_clamp, ok0, ok1, ok2, ok3, ok4, n1_0, n0_0, n0_zz, n1_zz, bI_eq0, bI_ne0, bI_zz, nI_le_, nI_lt_, nI_eq_, nI_lt0, nI_ge0, nI_gt0, nI_le0, nI_eq0, m1_lt0, m1_ge0, if_true, if_false, not_true, not_false_eq_true, Classical.not_not, true_or, or_true, false_or, n1_1, k10, Bool.true_eq_false, Bool.false_eq_true, Nat.le_refl, and_self, and_false, false_and, or_self, or_false, hf_lt, ce_lt, wa_lt, hf_cl, ce_cl, wa_cl, ce_vv, hf_vv, wa_vv, i_irr, i_rfl, S.oc, S.g0, S.g1, S.g2, S.g3, S.g4, S.g5, S.g6, S.g7, S.a1, S.a2, S.a3, S.a4, S.a5, S.a6, S.a7, S.a8]
    refine cl_mono (c_dropCell S R6 (ow M (tw a))) ?_
    rintro r μ5 ⟨rfl, R7, F7⟩
    have e7 : sAr (sSd (sLv (sAr (sSd (lkM (lkM M1 (pv M a) (nx M (tw a))) (pv M (tw a)) (nx M a)) (ow M a) (sd M (ow M a) + sd M (ow M (tw a)) - 2)) (ow M a) (ar M (ow M a) + ar M (ow M (tw a)))) w false) (ow M (tw a)) 0) (ow M (tw a)) (nI 0) = joM1 M w a := by
      unfold joM1
      dsimp only
      rw [hM1]
    rw [e7] at R7
    simp (disch := first | omega | assumption) only [wp_al0 (y := zX2_join) dX2_join_237, wp_il9 (y := zX2_join) dX2_join_238, wp_il12 (y := zX2_join) dX2_join_240, wp_cv2 (y := zX2_join) kM2_140 (by decide) dX2_join_242, (show yo zX2_makeOne = 2 from rfl), mm_op_some, true_and, and_true, mm_rc_some, mm_rc_none, nI_xor, tw_xor, pk_mul, nI_add, mm_in_t, nI_clamp, ok0, ok1, ok2, ok3, ok4, n1_0, n0_0, n0_zz, n1_zz, bI_eq0, bI_ne0, bI_zz, nI_le_, nI_lt_, nI_eq_, nI_lt0, nI_ge0, nI_gt0, nI_le0, nI_eq0, m1_lt0, m1_ge0, if_true, if_false, not_true, not_false_eq_true, Classical.not_not, true_or, or_true, false_or, n1_1, k10, Bool.true_eq_false, Bool.false_eq_true, Nat.le_refl, and_self, and_false, false_and, or_self, or_false, hf_lt, ce_lt, wa_lt, hf_cl, ce_cl, wa_cl, ce_vv, hf_vv, wa_vv, i_irr, i_rfl, S.oc, S.g0, S.g1, S.g2, S.g3, S.g4, S.g5, S.g6, S.g7, S.a1, S.a2, S.a3, S.a4, S.a5, S.a6, S.a7, S.a8]
    refine cl_mono (c_makeOne S R7 (pv M a) (nx M (tw a)) mk1) ?_
    rintro r μ6 ⟨rfl, R8, F8⟩
    simp (disch := first | omega | assumption) only [wp_al0 (y := zX2_join) dX2_join_245, wp_il11 (y := zX2_join) dX2_join_246, wp_il10 (y := zX2_join) dX2_join_248, wp_cv2 (y := zX2_join) kM2_140 (by decide) dX2_join_250, (show yo zX2_makeOne = 2 from rfl), mm_op_some, true_and, and_true, mm_rc_some, mm_rc_none, nI_xor, tw_xor, pk_mul, nI_add, mm_in_t, nI_clamp, ok0, ok1, ok2, ok3, ok4, n1_0, n0_0, n0_zz, n1_zz, bI_eq0, bI_ne0, bI_zz, nI_le_, nI_lt_, nI_eq_, nI_lt0, nI_ge0, nI_gt0, nI_le0, nI_eq0, m1_lt0, m1_ge0, if_true, if_false, not_true, not_false_eq_true, Classical.not_not, true_or, or_true, false_or, n1_1, k10, Bool.true_eq_false, Bool.false_eq_true, Nat.le_refl, and_self, and_false, false_and, or_self, or_false, hf_lt, ce_lt, wa_lt, hf_cl, ce_cl, wa_cl, ce_vv, hf_vv, wa_vv, i_irr, i_rfl, S.oc, S.g0, S.g1, S.g2, S.g3, S.g4, S.g5, S.g6, S.g7, S.a1, S.a2, S.a3, S.a4, S.a5, S.a6, S.a7, S.a8]
    refine cl_mono (c_makeOne S R8 (pv M (tw a)) (nx M a) mk2) ?_
    rintro r μ7 ⟨rfl, R9, F9⟩
    simp (disch := first | omega | assumption) only [wp_il4 (y := zX2_join) dX2_join_253, wp_ireti (y := zX2_join) rfl dX2_join_255, mm_op_some, true_and, and_true, mm_rc_some, mm_rc_none, nI_xor, tw_xor, pk_mul, nI_add, mm_in_t, nI_clamp, ok0, ok1, ok2, ok3, ok4, n1_0, n0_0, n0_zz, n1_zz, bI_eq0, bI_ne0, bI_zz, nI_le_, nI_lt_, nI_eq_, nI_lt0, nI_ge0, nI_gt0, nI_le0, nI_eq0, m1_lt0, m1_ge0, if_true, if_false, not_true, not_false_eq_true, Classical.not_not, true_or, or_true, false_or, n1_1, k10, Bool.true_eq_false, Bool.false_eq_true, Nat.le_refl, and_self, and_false, false_and, or_self, or_false, hf_lt, ce_lt, wa_lt, hf_cl, ce_cl, wa_cl, ce_vv, hf_vv, wa_vv, i_irr, i_rfl, S.oc, S.g0, S.g1, S.g2, S.g3, S.g4, S.g5, S.g6, S.g7, S.a1, S.a2, S.a3, S.a4, S.a5, S.a6, S.a7, S.a8]
    refine ⟨R9, ?_⟩
    exact Fr.trans (Fr.trans (Fr.trans (Fr.trans (Fr.mu (Fr.mu ((F1.trans F2).trans F3) _ (by omega) (by omega)) _ (by omega) (by omega)) F6) F7) F8) F9
  show wp sh zX2_join 0 [.ref b, .int (nI w.val), .null, .null, .null, .null, .null, .null, .null, .null, .null, .null, .null] [] μ _
  have h4 : a = h0 w ∨ a = h1 w := by
    have : a.val / 2 = w.val := congrArg Fin.val hw
    rcases Nat.mod_two_eq_zero_or_one a.val with e | e
    · exact Or.inl (Fin.ext (by rw [h0_val]; omega))
    · exact Or.inr (Fin.ext (by rw [h1_val]; omega))
  rcases h4 with e | e
  · have h5 : ¬ (ow M (h1 w)).val ≤ (ow M (h0 w)).val := by rw [e, tw_h0] at hlt; omega
    have b5 := (ow M (h1 w)).isLt
    have b6 := (ow M (h0 w)).isLt
    simp (disch := first | omega | assumption) only [wp_al0 (y := zX2_join) dX2_join_0, wp_getf (y := zX2_join) kF2_9 dX2_join_1, wp_iconst (y := zX2_join) (nI 2) ki_2 dX2_join_4, wp_il1 (y := zX2_join) dX2_join_5, wp_imul (y := zX2_join) dX2_join_6, wp_iald (y := zX2_join) dX2_join_7, wp_al0 (y := zX2_join) dX2_join_8, wp_getf (y := zX2_join) kF2_9 dX2_join_9, wp_iconst (y := zX2_join) (nI 2) ki_2 dX2_join_12, wp_il1 (y := zX2_join) dX2_join_13, wp_imul (y := zX2_join) dX2_join_14, wp_iconst (y := zX2_join) (nI 1) ki_1 dX2_join_15, wp_iadd (y := zX2_join) dX2_join_16, wp_iald (y := zX2_join) dX2_join_17, wp_icmp_ge (y := zX2_join) 27 (by decide) dX2_join_18, wp_iconst (y := zX2_join) (nI 2) ki_2 dX2_join_21, wp_il1 (y := zX2_join) dX2_join_22, wp_imul (y := zX2_join) dX2_join_23, wp_goto (y := zX2_join) 32 (by decide) dX2_join_24, wp_iconst (y := zX2_join) (nI 2) ki_2 dX2_join_27, wp_il1 (y := zX2_join) dX2_join_28, wp_imul (y := zX2_join) dX2_join_29, wp_iconst (y := zX2_join) (nI 1) ki_1 dX2_join_30, wp_iadd (y := zX2_join) dX2_join_31, mm_op_some, true_and, and_true, mm_rc_some, mm_rc_none, nI_xor, tw_xor, pk_mul, nI_add, mm_in_t, nI_clamp, ok0, ok1, ok2, ok3, ok4, n1_0, n0_0, n0_zz, n1_zz, bI_eq0, bI_ne0, bI_zz, nI_le_, nI_lt_, nI_eq_, nI_lt0, nI_ge0, nI_gt0, nI_le0, nI_eq0, m1_lt0, m1_ge0, if_true, if_false, not_true, not_false_eq_true, Classical.not_not, true_or, or_true, false_or, n1_1, k10, Bool.true_eq_false, Bool.false_eq_true, Nat.le_refl, and_self, and_false, false_and, or_self, or_false, hf_lt, ce_lt, wa_lt, hf_cl, ce_cl, wa_cl, ce_vv, hf_vv, wa_vv, i_irr, i_rfl, S.oc, S.g0, S.g1, S.g2, S.g3, S.g4, S.g5, S.g6, S.g7, S.a1, S.a2, S.a3, S.a4, S.a5, S.a6, S.a7, S.a8, r0, r1, h5]
    rw [← h0_val, ← e]
    exact q1
  · have h5 : (ow M (h1 w)).val ≤ (ow M (h0 w)).val := by rw [e, tw_h1] at hlt; omega
    have b5 := (ow M (h1 w)).isLt
    have b6 := (ow M (h0 w)).isLt
    simp (disch := first | omega | assumption) only [wp_al0 (y := zX2_join) dX2_join_0, wp_getf (y := zX2_join) kF2_9 dX2_join_1, wp_iconst (y := zX2_join) (nI 2) ki_2 dX2_join_4, wp_il1 (y := zX2_join) dX2_join_5, wp_imul (y := zX2_join) dX2_join_6, wp_iald (y := zX2_join) dX2_join_7, wp_al0 (y := zX2_join) dX2_join_8, wp_getf (y := zX2_join) kF2_9 dX2_join_9, wp_iconst (y := zX2_join) (nI 2) ki_2 dX2_join_12, wp_il1 (y := zX2_join) dX2_join_13, wp_imul (y := zX2_join) dX2_join_14, wp_iconst (y := zX2_join) (nI 1) ki_1 dX2_join_15, wp_iadd (y := zX2_join) dX2_join_16, wp_iald (y := zX2_join) dX2_join_17, wp_icmp_ge (y := zX2_join) 27 (by decide) dX2_join_18, wp_iconst (y := zX2_join) (nI 2) ki_2 dX2_join_21, wp_il1 (y := zX2_join) dX2_join_22, wp_imul (y := zX2_join) dX2_join_23, wp_goto (y := zX2_join) 32 (by decide) dX2_join_24, wp_iconst (y := zX2_join) (nI 2) ki_2 dX2_join_27, wp_il1 (y := zX2_join) dX2_join_28, wp_imul (y := zX2_join) dX2_join_29, wp_iconst (y := zX2_join) (nI 1) ki_1 dX2_join_30, wp_iadd (y := zX2_join) dX2_join_31, mm_op_some, true_and, and_true, mm_rc_some, mm_rc_none, nI_xor, tw_xor, pk_mul, nI_add, mm_in_t, nI_clamp, ok0, ok1, ok2, ok3, ok4, n1_0, n0_0, n0_zz, n1_zz, bI_eq0, bI_ne0, bI_zz, nI_le_, nI_lt_, nI_eq_, nI_lt0, nI_ge0, nI_gt0, nI_le0, nI_eq0, m1_lt0, m1_ge0, if_true, if_false, not_true, not_false_eq_true, Classical.not_not, true_or, or_true, false_or, n1_1, k10, Bool.true_eq_false, Bool.false_eq_true, Nat.le_refl, and_self, and_false, false_and, or_self, or_false, hf_lt, ce_lt, wa_lt, hf_cl, ce_cl, wa_cl, ce_vv, hf_vv, wa_vv, i_irr, i_rfl, S.oc, S.g0, S.g1, S.g2, S.g3, S.g4, S.g5, S.g6, S.g7, S.a1, S.a2, S.a3, S.a4, S.a5, S.a6, S.a7, S.a8, r0, r1, h5]
    rw [← h1_val, ← e]
    exact q1
end CM9
