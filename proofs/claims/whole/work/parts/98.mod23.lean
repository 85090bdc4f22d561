section MCV
variable {sh : mm_Sh} {m : Nat} {M : Ms} {μ : mm_U} {s : Fo} {Q : Option Value → mm_U → Prop} {a b : Hf} {c fr : Ce} {j1 j2 j3 : Wa} {n n1 n2 : Nat}
/-- the second half, first piece: the cycle becomes two -/
theorem ct_go2 (O : MoSh sh m) (J : Inv M) (la : LvH M a) (lb : LvH M b) (oa : ow M a = c) (ob : ow M b = c) (l : ∀ h, LvH M h → wl h ≠ j1 ∧ wl h ≠ j2 ∧ wl h ≠ j3) (gX : ow M (tw a) ≠ c) (gY : ow M (tw b) ≠ c) (hz : n = 0 ↔ nx M a = b) (μ0 : mm_U)
    (A : MeX (ct5 M a b (pv M (tw a)) j1 j2 j3 (nI ((n1 + 1) / 2)) (nI (n1 / 2)) (nI ((n2 + 1) / 2)) (nI (n2 / 2))) (μ (m + 1)) (DX (fun k => X0 j1 j2 j3 k ∧ k ≠ h1 j1 ∧ k ≠ h1 j2) (fun k => X0 j1 j2 j3 k ∧ k ≠ h1 j1 ∧ k ≠ h1 j2) (fun k => X0 j1 j2 j3 k ∧ k ≠ h1 j1 ∧ k ≠ h1 j2) (X0 j1 j2 j3) (X0 j1 j2 j3) (fun _ => False))) (F : FrR μ0 μ m)
    (K : ∀ μ' v8 v9 v10, MeX (ct6 M a b (pv M (tw a)) j1 j2 j3 (nI ((n1 + 1) / 2)) (nI (n1 / 2)) (nI ((n2 + 1) / 2)) (nI (n2 / 2)) n) (μ' (m + 1)) (DX (fun _ => False) (fun _ => False) (fun k => X0 j1 j2 j3 k ∧ k ≠ h1 j1 ∧ k ≠ h1 j2) (X0 j1 j2 j3) (X0 j1 j2 j3) (fun _ => False)) → FrR μ0 μ' m → wp sh zX6_cutBy 148 [.ref m, .int (nI a.val), .int (nI b.val), .int (nI c.val), .int (nI fr.val), .int (nI (h0 j1).val), .int (nI (h0 j2).val), .int (nI (h0 j3).val), v8, v9, v10] [] μ' Q) : wp sh zX6_cutBy 56 [.ref m, .int (nI a.val), .int (nI b.val), .int (nI c.val), .int (nI fr.val), .int (nI (h0 j1).val), .int (nI (h0 j2).val), .int (nI (h0 j3).val), .null, .null, .null] [] μ Q := by
  have lta : LvH M (tw a) := LvH_tw.mpr la
  have ltb : LvH M (tw b) := LvH_tw.mpr lb
  have lt : LvH M (pv M (tw a)) := J.pl lta
  have en : nx M (pv M (tw a)) = tw a := (J.1.1 _ lta).2.2.1
  have ot : ow M (pv M (tw a)) = ow M (tw a) := J.op lta
  obtain ⟨g1, g2, g3, g4, g5, g6, g7, g8, g9⟩ := ct5_f M a b (pv M (tw a)) j1 j2 j3 (nI ((n1 + 1) / 2)) (nI (n1 / 2)) (nI ((n2 + 1) / 2)) (nI (n2 / 2))
  have nX : ∀ h, LvH M h → ¬ X0 j1 j2 j3 h := fun h lh z => z.elim (l h lh).1 (fun z => z.elim (l h lh).2.1 (l h lh).2.2)
  have lk : ∀ h, LvH M h → LvH (ct5 M a b (pv M (tw a)) j1 j2 j3 (nI ((n1 + 1) / 2)) (nI (n1 / 2)) (nI ((n2 + 1) / 2)) (nI (n2 / 2))) h := fun h lh => by unfold LvH; rw [g1, fu_n _ _ (l h lh).2.2, fu_n _ _ (l h lh).2.1, fu_n _ _ (l h lh).1]; exact lh
  have nw : ∀ h, LvH M h → h ≠ h1 j1 ∧ h ≠ h1 j2 := fun h lh => ⟨fun e => (l h lh).1 (by rw [e, wl_h1]), fun e => (l h lh).2.1 (by rw [e, wl_h1])⟩
  have E1 : ∀ Q', cl sh zX6_next [.ref m, .int (nI a.val)] μ Q' = Q' (some (.int (nI (nx M a).val))) μ := fun Q' => mr_next O a _ (by
    have q := A.nx_ (lk a la) (fun z => nX a la z.1)
    rw [g3, fu_n _ _ (nw a la).2, fu_n _ _ (fun e => gY (by rw [← e]; exact oa)), fu_n _ _ (nw a la).1, fu_n _ _ (fun e => gX (by rw [← ot, ← e]; exact oa))] at q
    exact q)
  have E2 : ∀ Q', cl sh zX6_before [.ref m, .int (nI b.val)] μ Q' = Q' (some (.int (nI (pv M b).val))) μ := fun Q' => mr_before O b _ (by
    have q := A.pv_ (lk b lb) (fun z => nX b lb z.1)
    rw [g4, en, fu_n _ _ (?_ : b ≠ _), fu_n _ _ (nw b lb).2, fu_n _ _ (fun e => gX (by rw [← e]; exact ob)), fu_n _ _ (nw b lb).1] at q
    · exact q
    · rw [fu_n _ _ (nw _ ltb).1]
      by_cases z : tw b = pv M (tw a)
      · rw [z, fu_s]; exact (nw b lb).1
      · rw [fu_n _ _ z]
        exact fun e => gY (by rw [← J.on ltb, ← e]; exact ob))
  have six : ∀ {k : Hf}, X0 j1 j2 j3 k → k ≠ h0 j1 → k ≠ h1 j1 → k ≠ h0 j2 → k ≠ h1 j2 → k ≠ h0 j3 → k ≠ h1 j3 → False := fun h y1 y2 y3 y4 y5 y6 => by
    rcases X0_six h with z | z | z | z | z | z
    · exact y1 z
    · exact y2 z
    · exact y3 z
    · exact y4 z
    · exact y5 z
    · exact y6 z
  have ez3 : (h0 j3).val + 1 = (h1 j3).val := rfl
  have l3 := (h1 j3).isLt
  -- what is left after the branch
  have fin : ∀ μ2 v8 v9 v10, MeX (if n = 0 then lkM (lkM (lkM (ct5 M a b (pv M (tw a)) j1 j2 j3 (nI ((n1 + 1) / 2)) (nI (n1 / 2)) (nI ((n2 + 1) / 2)) (nI (n2 / 2))) a (h0 j3)) (h0 j3) b) (h0 j1) (h0 j2) else lkM (lkM (lkM (lkM (ct5 M a b (pv M (tw a)) j1 j2 j3 (nI ((n1 + 1) / 2)) (nI (n1 / 2)) (nI ((n2 + 1) / 2)) (nI (n2 / 2))) a (h0 j3)) (h0 j3) b) (h0 j1) (nx M a)) (pv M b) (h0 j2)) (μ2 (m + 1)) (DX (fun k => X0 j1 j2 j3 k ∧ k ≠ h1 j1 ∧ k ≠ h1 j2 ∧ k ≠ h0 j3 ∧ k ≠ h0 j1) (fun k => X0 j1 j2 j3 k ∧ k ≠ h1 j1 ∧ k ≠ h1 j2 ∧ k ≠ h0 j3 ∧ k ≠ h0 j2) (fun k => X0 j1 j2 j3 k ∧ k ≠ h1 j1 ∧ k ≠ h1 j2) (X0 j1 j2 j3) (X0 j1 j2 j3) (fun _ => False)) → FrR μ0 μ2 m → wp sh zX6_cutBy 128 [.ref m, .int (nI a.val), .int (nI b.val), .int (nI c.val), .int (nI fr.val), .int (nI (h0 j1).val), .int (nI (h0 j2).val), .int (nI (h0 j3).val), v8, v9, v10] [] μ2 Q := by
    intro μ2 v8 v9 v10 A2 F2
    simp (disch := first | omega | assumption) only [mm_op_some, true_and, and_true, mm_rc_some, mm_rc_none, pk_mul, nI_add, mm_in_t, nI_clamp, ok0, ok1, ok2, ok3, ok4, n1_0, n0_0, nI_le_, nI_lt_, if_true, if_false, not_true, not_false_eq_true, ce_lt, ce_cl, hf_lt, hf_cl, ez3, wp_al0 (y := zX6_cutBy) dX6_cutBy_128, wp_il6 (y := zX6_cutBy) dX6_cutBy_129, wp_il7 (y := zX6_cutBy) dX6_cutBy_131, wp_iconst (y := zX6_cutBy) (nI 1) ki_1 dX6_cutBy_133, wp_iadd (y := zX6_cutBy) dX6_cutBy_134, wp_cv2 (y := zX6_cutBy) kM6_99 (by decide) dX6_cutBy_135, (show yo zX6_join = 6 from rfl), O.oc, O.g0, O.g1, O.g2, O.g3, O.g4, O.g5, O.g6, O.g7, O.g9, O.g10, O.g11, O.p0, O.p7, O.a1, O.a2, O.a3, O.a4, O.a5, O.a6, O.a7, O.a8, O.a9]
    refine cl_mono (mx_join O A2 (h0 j2) (h1 j3)) ?_
    rintro r μ3 ⟨rfl, A3, F3⟩
    simp (disch := first | omega | assumption) only [mm_op_some, true_and, and_true, mm_rc_some, mm_rc_none, pk_mul, nI_add, mm_in_t, nI_clamp, ok0, ok1, ok2, ok3, ok4, n1_0, n0_0, nI_le_, nI_lt_, if_true, if_false, not_true, not_false_eq_true, ce_lt, ce_cl, hf_lt, hf_cl, ez3, wp_al0 (y := zX6_cutBy) dX6_cutBy_138, wp_il7 (y := zX6_cutBy) dX6_cutBy_139, wp_iconst (y := zX6_cutBy) (nI 1) ki_1 dX6_cutBy_141, wp_iadd (y := zX6_cutBy) dX6_cutBy_142, wp_il5 (y := zX6_cutBy) dX6_cutBy_143, wp_cv2 (y := zX6_cutBy) kM6_99 (by decide) dX6_cutBy_145, (show yo zX6_join = 6 from rfl), O.oc, O.g0, O.g1, O.g2, O.g3, O.g4, O.g5, O.g6, O.g7, O.g9, O.g10, O.g11, O.p0, O.p7, O.a1, O.a2, O.a3, O.a4, O.a5, O.a6, O.a7, O.a8, O.a9]
    refine cl_mono (mx_join O A3 (h1 j3) (h0 j1)) ?_
    rintro r μ4 ⟨rfl, A4, F4⟩
    simp (disch := first | omega | assumption) only [mm_op_some, true_and, and_true, mm_rc_some, mm_rc_none, pk_mul, nI_add, mm_in_t, nI_clamp, ok0, ok1, ok2, ok3, ok4, n1_0, n0_0, nI_le_, nI_lt_, if_true, if_false, not_true, not_false_eq_true, ce_lt, ce_cl, hf_lt, hf_cl]
    refine K μ4 v8 v9 v10 (A4.mono (DX_mono (fun k z => ?_) (fun k z => ?_) (fun _ z => z) (fun _ z => z) (fun _ z => z) (fun _ z => z))) ((F2.trans F3).trans F4)
    · exact six z.1.1.1 z.1.1.2.2.2.2 z.1.1.2.1 z.1.2 z.1.1.2.2.1 z.1.1.2.2.2.1 z.2
    · exact six z.1.1.1 z.2 z.1.1.2.1 z.1.1.2.2.2.2 z.1.1.2.2.1 z.1.1.2.2.2.1 z.1.2
  by_cases z : n = 0
  · have eb := hz.mp z
    have q : (nI (nx M a).val = nI b.val) = True := eq_true (by rw [eb])
    simp only [if_pos z] at fin
    simp (disch := first | omega | assumption) only [mm_op_some, true_and, and_true, mm_rc_some, mm_rc_none, pk_mul, nI_add, mm_in_t, nI_clamp, ok0, ok1, ok2, ok3, ok4, n1_0, n0_0, nI_le_, nI_lt_, if_true, if_false, not_true, not_false_eq_true, ce_lt, ce_cl, hf_lt, hf_cl, wp_al0 (y := zX6_cutBy) dX6_cutBy_56, wp_il1 (y := zX6_cutBy) dX6_cutBy_57, wp_cv1 (y := zX6_cutBy) kM6_90 (by decide) dX6_cutBy_58, (show yo zX6_next = 6 from rfl), wp_is8 (y := zX6_cutBy) dX6_cutBy_61, wp_al0 (y := zX6_cutBy) dX6_cutBy_63, wp_il2 (y := zX6_cutBy) dX6_cutBy_64, wp_cv1 (y := zX6_cutBy) kM6_96 (by decide) dX6_cutBy_65, (show yo zX6_before = 6 from rfl), wp_is9 (y := zX6_cutBy) dX6_cutBy_68, wp_il8 (y := zX6_cutBy) dX6_cutBy_70, wp_il2 (y := zX6_cutBy) dX6_cutBy_72, wp_icmp_ne (y := zX6_cutBy) 80 (by decide) dX6_cutBy_73, wp_iconst (y := zX6_cutBy) (nI 1) ki_1 dX6_cutBy_76, wp_goto (y := zX6_cutBy) 81 (by decide) dX6_cutBy_77, wp_is10 (y := zX6_cutBy) dX6_cutBy_81, wp_al0 (y := zX6_cutBy) dX6_cutBy_83, wp_il1 (y := zX6_cutBy) dX6_cutBy_84, wp_il7 (y := zX6_cutBy) dX6_cutBy_85, wp_cv2 (y := zX6_cutBy) kM6_99 (by decide) dX6_cutBy_87, (show yo zX6_join = 6 from rfl), O.oc, O.g0, O.g1, O.g2, O.g3, O.g4, O.g5, O.g6, O.g7, O.g9, O.g10, O.g11, O.p0, O.p7, O.a1, O.a2, O.a3, O.a4, O.a5, O.a6, O.a7, O.a8, O.a9, E1, E2, q]
    refine cl_mono (mx_join O A a (h0 j3)) ?_
    rintro r μ1 ⟨rfl, A1, F1⟩
    simp (disch := first | omega | assumption) only [mm_op_some, true_and, and_true, mm_rc_some, mm_rc_none, pk_mul, nI_add, mm_in_t, nI_clamp, ok0, ok1, ok2, ok3, ok4, n1_0, n0_0, nI_le_, nI_lt_, if_true, if_false, not_true, not_false_eq_true, ce_lt, ce_cl, hf_lt, hf_cl, wp_al0 (y := zX6_cutBy) dX6_cutBy_90, wp_il7 (y := zX6_cutBy) dX6_cutBy_91, wp_il2 (y := zX6_cutBy) dX6_cutBy_93, wp_cv2 (y := zX6_cutBy) kM6_99 (by decide) dX6_cutBy_94, (show yo zX6_join = 6 from rfl), O.oc, O.g0, O.g1, O.g2, O.g3, O.g4, O.g5, O.g6, O.g7, O.g9, O.g10, O.g11, O.p0, O.p7, O.a1, O.a2, O.a3, O.a4, O.a5, O.a6, O.a7, O.a8, O.a9]
    refine cl_mono (mx_join O A1 (h0 j3) b) ?_
    rintro r μ2 ⟨rfl, A2, F2⟩
    simp (disch := first | omega | assumption) only [mm_op_some, true_and, and_true, mm_rc_some, mm_rc_none, pk_mul, nI_add, mm_in_t, nI_clamp, ok0, ok1, ok2, ok3, ok4, n1_0, n0_0, nI_le_, nI_lt_, if_true, if_false, not_true, not_false_eq_true, ce_lt, ce_cl, hf_lt, hf_cl, n1_zz, wp_al0 (y := zX6_cutBy) dX6_cutBy_97, wp_il5 (y := zX6_cutBy) dX6_cutBy_98, wp_il10 (y := zX6_cutBy) dX6_cutBy_100, wp_if_eq (y := zX6_cutBy) 110 (by decide) dX6_cutBy_102, wp_il6 (y := zX6_cutBy) dX6_cutBy_105, wp_goto (y := zX6_cutBy) 112 (by decide) dX6_cutBy_107, wp_cv2 (y := zX6_cutBy) kM6_99 (by decide) dX6_cutBy_112, (show yo zX6_join = 6 from rfl), O.oc, O.g0, O.g1, O.g2, O.g3, O.g4, O.g5, O.g6, O.g7, O.g9, O.g10, O.g11, O.p0, O.p7, O.a1, O.a2, O.a3, O.a4, O.a5, O.a6, O.a7, O.a8, O.a9]
    refine cl_mono (mx_join O A2 (h0 j1) (h0 j2)) ?_
    rintro r μ3 ⟨rfl, A3, F3⟩
    simp (disch := first | omega | assumption) only [mm_op_some, true_and, and_true, mm_rc_some, mm_rc_none, pk_mul, nI_add, mm_in_t, nI_clamp, ok0, ok1, ok2, ok3, ok4, n1_0, n0_0, nI_le_, nI_lt_, if_true, if_false, not_true, not_false_eq_true, ce_lt, ce_cl, hf_lt, hf_cl, n1_zz, wp_il10 (y := zX6_cutBy) dX6_cutBy_115, wp_if_ne (y := zX6_cutBy) 128 (by decide) dX6_cutBy_117, O.oc, O.g0, O.g1, O.g2, O.g3, O.g4, O.g5, O.g6, O.g7, O.g9, O.g10, O.g11, O.p0, O.p7, O.a1, O.a2, O.a3, O.a4, O.a5, O.a6, O.a7, O.a8, O.a9]
    refine fin μ3 _ _ _ (A3.mono (DX_mono (fun k z => ?_) (fun k z => ?_) (fun _ z => z) (fun _ z => z) (fun _ z => z) (fun _ z => z))) (((F.trans F1).trans F2).trans F3)
    · exact ⟨z.1.1.1.1, z.1.1.1.2.1, z.1.1.1.2.2, z.1.2, z.2⟩
    · exact ⟨z.1.1.1.1, z.1.1.1.2.1, z.1.1.1.2.2, z.1.1.2, z.2⟩
  · have q : (nI (nx M a).val = nI b.val) = False := eq_false (by rw [hf_eq]; exact fun e => z (hz.mpr e))
    simp only [if_neg z] at fin
    simp (disch := first | omega | assumption) only [mm_op_some, true_and, and_true, mm_rc_some, mm_rc_none, pk_mul, nI_add, mm_in_t, nI_clamp, ok0, ok1, ok2, ok3, ok4, n1_0, n0_0, nI_le_, nI_lt_, if_true, if_false, not_true, not_false_eq_true, ce_lt, ce_cl, hf_lt, hf_cl, wp_al0 (y := zX6_cutBy) dX6_cutBy_56, wp_il1 (y := zX6_cutBy) dX6_cutBy_57, wp_cv1 (y := zX6_cutBy) kM6_90 (by decide) dX6_cutBy_58, (show yo zX6_next = 6 from rfl), wp_is8 (y := zX6_cutBy) dX6_cutBy_61, wp_al0 (y := zX6_cutBy) dX6_cutBy_63, wp_il2 (y := zX6_cutBy) dX6_cutBy_64, wp_cv1 (y := zX6_cutBy) kM6_96 (by decide) dX6_cutBy_65, (show yo zX6_before = 6 from rfl), wp_is9 (y := zX6_cutBy) dX6_cutBy_68, wp_il8 (y := zX6_cutBy) dX6_cutBy_70, wp_il2 (y := zX6_cutBy) dX6_cutBy_72, wp_icmp_ne (y := zX6_cutBy) 80 (by decide) dX6_cutBy_73, wp_iconst (y := zX6_cutBy) (nI 0) ki_0 dX6_cutBy_80, wp_is10 (y := zX6_cutBy) dX6_cutBy_81, wp_al0 (y := zX6_cutBy) dX6_cutBy_83, wp_il1 (y := zX6_cutBy) dX6_cutBy_84, wp_il7 (y := zX6_cutBy) dX6_cutBy_85, wp_cv2 (y := zX6_cutBy) kM6_99 (by decide) dX6_cutBy_87, (show yo zX6_join = 6 from rfl), O.oc, O.g0, O.g1, O.g2, O.g3, O.g4, O.g5, O.g6, O.g7, O.g9, O.g10, O.g11, O.p0, O.p7, O.a1, O.a2, O.a3, O.a4, O.a5, O.a6, O.a7, O.a8, O.a9, E1, E2, q]
    refine cl_mono (mx_join O A a (h0 j3)) ?_
    rintro r μ1 ⟨rfl, A1, F1⟩
    simp (disch := first | omega | assumption) only [mm_op_some, true_and, and_true, mm_rc_some, mm_rc_none, pk_mul, nI_add, mm_in_t, nI_clamp, ok0, ok1, ok2, ok3, ok4, n1_0, n0_0, nI_le_, nI_lt_, if_true, if_false, not_true, not_false_eq_true, ce_lt, ce_cl, hf_lt, hf_cl, wp_al0 (y := zX6_cutBy) dX6_cutBy_90, wp_il7 (y := zX6_cutBy) dX6_cutBy_91, wp_il2 (y := zX6_cutBy) dX6_cutBy_93, wp_cv2 (y := zX6_cutBy) kM6_99 (by decide) dX6_cutBy_94, (show yo zX6_join = 6 from rfl), O.oc, O.g0, O.g1, O.g2, O.g3, O.g4, O.g5, O.g6, O.g7, O.g9, O.g10, O.g11, O.p0, O.p7, O.a1, O.a2, O.a3, O.a4, O.a5, O.a6, O.a7, O.a8, O.a9]
    refine cl_mono (mx_join O A1 (h0 j3) b) ?_
    rintro r μ2 ⟨rfl, A2, F2⟩
    simp (disch := first | omega | assumption) only [mm_op_some, true_and, and_true, mm_rc_some, mm_rc_none, pk_mul, nI_add, mm_in_t, nI_clamp, ok0, ok1, ok2, ok3, ok4, n1_0, n0_0, nI_le_, nI_lt_, if_true, if_false, not_true, not_false_eq_true, ce_lt, ce_cl, hf_lt, hf_cl, n0_zz, wp_al0 (y := zX6_cutBy) dX6_cutBy_97, wp_il5 (y := zX6_cutBy) dX6_cutBy_98, wp_il10 (y := zX6_cutBy) dX6_cutBy_100, wp_if_eq (y := zX6_cutBy) 110 (by decide) dX6_cutBy_102, wp_il8 (y := zX6_cutBy) dX6_cutBy_110, wp_cv2 (y := zX6_cutBy) kM6_99 (by decide) dX6_cutBy_112, (show yo zX6_join = 6 from rfl), O.oc, O.g0, O.g1, O.g2, O.g3, O.g4, O.g5, O.g6, O.g7, O.g9, O.g10, O.g11, O.p0, O.p7, O.a1, O.a2, O.a3, O.a4, O.a5, O.a6, O.a7, O.a8, O.a9]
    refine cl_mono (mx_join O A2 (h0 j1) (nx M a)) ?_
    rintro r μ3 ⟨rfl, A3, F3⟩
    simp (disch := first | omega | assumption) only [mm_op_some, true_and, and_true, mm_rc_some, mm_rc_none, pk_mul, nI_add, mm_in_t, nI_clamp, ok0, ok1, ok2, ok3, ok4, n1_0, n0_0, nI_le_, nI_lt_, if_true, if_false, not_true, not_false_eq_true, ce_lt, ce_cl, hf_lt, hf_cl, n0_zz, wp_il10 (y := zX6_cutBy) dX6_cutBy_115, wp_if_ne (y := zX6_cutBy) 128 (by decide) dX6_cutBy_117, wp_al0 (y := zX6_cutBy) dX6_cutBy_120, wp_il9 (y := zX6_cutBy) dX6_cutBy_121, wp_il6 (y := zX6_cutBy) dX6_cutBy_123, wp_cv2 (y := zX6_cutBy) kM6_99 (by decide) dX6_cutBy_125, (show yo zX6_join = 6 from rfl), O.oc, O.g0, O.g1, O.g2, O.g3, O.g4, O.g5, O.g6, O.g7, O.g9, O.g10, O.g11, O.p0, O.p7, O.a1, O.a2, O.a3, O.a4, O.a5, O.a6, O.a7, O.a8, O.a9]
    refine cl_mono (mx_join O A3 (pv M b) (h0 j2)) ?_
    rintro r μ4 ⟨rfl, A4, F4⟩
    simp (disch := first | omega | assumption) only [mm_op_some, true_and, and_true, mm_rc_some, mm_rc_none, pk_mul, nI_add, mm_in_t, nI_clamp, ok0, ok1, ok2, ok3, ok4, n1_0, n0_0, nI_le_, nI_lt_, if_true, if_false, not_true, not_false_eq_true, ce_lt, ce_cl, hf_lt, hf_cl]
    refine fin μ4 _ _ _ (A4.mono (DX_mono (fun k z => ?_) (fun k z => ?_) (fun _ z => z) (fun _ z => z) (fun _ z => z) (fun _ z => z))) ((((F.trans F1).trans F2).trans F3).trans F4)
    · exact ⟨z.1.1.1.1.1, z.1.1.1.1.2.1, z.1.1.1.1.2.2, z.1.1.2, z.1.2⟩
    · exact ⟨z.1.1.1.1.1, z.1.1.1.1.2.1, z.1.1.1.1.2.2, z.1.1.1.2, z.2⟩
end MCV
