section MCT
variable {sh : mm_Sh} {m : Nat} {M : Ms} {μ : mm_U} {s : Fo} {Q : Option Value → mm_U → Prop} {XN XP XO XR XQ : Hf → Prop} {XA : Ce → Prop} {a b : Hf} {c fr : Ce} {j1 j2 j3 : Wa} {n : Nat}
theorem DX_mono {XN' XP' XO' XR' XQ' : Hf → Prop} {XA' : Ce → Prop} (a1 : ∀ k, XN k → XN' k) (a2 : ∀ k, XP k → XP' k) (a3 : ∀ k, XO k → XO' k) (a4 : ∀ k, XR k → XR' k) (a5 : ∀ k, XQ k → XQ' k) (a6 : ∀ k, XA k → XA' k) (x : Nat) (d : DX XN XP XO XR XQ XA x) : DX XN' XP' XO' XR' XQ' XA' x := by
  rcases d with ⟨k, z, e⟩ | ⟨k, z, e⟩ | ⟨k, z, e⟩ | ⟨k, z, e⟩ | ⟨k, z, e⟩ | ⟨k, z, e⟩
  · exact Or.inl ⟨k, a1 k z, e⟩
  · exact Or.inr (Or.inl ⟨k, a2 k z, e⟩)
  · exact Or.inr (Or.inr (Or.inl ⟨k, a3 k z, e⟩))
  · exact Or.inr (Or.inr (Or.inr (Or.inl ⟨k, a4 k z, e⟩)))
  · exact Or.inr (Or.inr (Or.inr (Or.inr (Or.inl ⟨k, a5 k z, e⟩))))
  · exact Or.inr (Or.inr (Or.inr (Or.inr (Or.inr ⟨k, a6 k z, e⟩))))
/-- the halves of the three walls -/
def X0 (j1 j2 j3 : Wa) (k : Hf) : Prop := wl k = j1 ∨ wl k = j2 ∨ wl k = j3
theorem X0_six {k : Hf} (h : X0 j1 j2 j3 k) : k = h0 j1 ∨ k = h1 j1 ∨ k = h0 j2 ∨ k = h1 j2 ∨ k = h0 j3 ∨ k = h1 j3 := by
  rcases h with h | h | h
  · rcases wl2 k _ h with z | z
    · exact Or.inl z
    · exact Or.inr (Or.inl z)
  · rcases wl2 k _ h with z | z
    · exact Or.inr (Or.inr (Or.inl z))
    · exact Or.inr (Or.inr (Or.inr (Or.inl z)))
  · rcases wl2 k _ h with z | z
    · exact Or.inr (Or.inr (Or.inr (Or.inr (Or.inl z))))
    · exact Or.inr (Or.inr (Or.inr (Or.inr (Or.inr z))))
theorem LnB_sLn (B : LnB M) (w : Wa) (k : Nat) (hk : k ≤ 99) : LnB (sLn M w (nI k)) := by
  intro v hv
  by_cases z : v = w
  · exact ⟨k, hk, by rw [z]; exact fu_s _ _ _⟩
  · obtain ⟨q, h1, h2⟩ := B v hv
    exact ⟨q, h1, (fu_n _ _ z).trans h2⟩
theorem LnB_new (B : LnB M) (w : Wa) (k : Nat) (hk : k ≤ 99) : LnB (sLn (sLv M w true) w (nI k)) := by
  intro v hv
  by_cases z : v = w
  · exact ⟨k, hk, by rw [z]; exact fu_s _ _ _⟩
  · have hv : fu (lv M) w true v = true := hv
    rw [fu_n _ _ z] at hv
    obtain ⟨q, h1, h2⟩ := B v hv
    exact ⟨q, h1, (fu_n _ _ z).trans h2⟩
/-- the first half: three walls come, two enter the cells beside -/
theorem ct_go1 (O : MoSh sh m) (A : MeR M (μ (m + 1))) (J : Inv M) (la : LvH M a) (lb : LvH M b) (oa : ow M a = c) (ob : ow M b = c) (l : ∀ h, LvH M h → wl h ≠ j1 ∧ wl h ≠ j2 ∧ wl h ≠ j3) (j12 : j1 ≠ j2) (j13 : j1 ≠ j3) (j23 : j2 ≠ j3) (wab : wl a ≠ wl b) (gX : ow M (tw a) ≠ c) (gY : ow M (tw b) ≠ c) (w1 : frW M = some j1.val) (w2 : frW (sLv M j1 true) = some j2.val) (w3 : frW (sLv (sLv M j1 true) j2 true) = some j3.val) (n1 n2 : Nat) (h1n : n1 ≤ 99) (h2n : n2 ≤ 99) (e1 : ln M (wl a) = nI n1) (e2 : ln M (wl b) = nI n2)
    (K : ∀ μ', MeX (ct5 M a b (pv M (tw a)) j1 j2 j3 (nI ((n1 + 1) / 2)) (nI (n1 / 2)) (nI ((n2 + 1) / 2)) (nI (n2 / 2))) (μ' (m + 1)) (DX (fun k => X0 j1 j2 j3 k ∧ k ≠ h1 j1 ∧ k ≠ h1 j2) (fun k => X0 j1 j2 j3 k ∧ k ≠ h1 j1 ∧ k ≠ h1 j2) (fun k => X0 j1 j2 j3 k ∧ k ≠ h1 j1 ∧ k ≠ h1 j2) (X0 j1 j2 j3) (X0 j1 j2 j3) (fun _ => False)) → FrR μ μ' m → wp sh zX6_cutBy 56 [.ref m, .int (nI a.val), .int (nI b.val), .int (nI c.val), .int (nI fr.val), .int (nI (h0 j1).val), .int (nI (h0 j2).val), .int (nI (h0 j3).val), .null, .null, .null] [] μ' Q) : cl sh zX6_cutBy [.ref m, .int (nI a.val), .int (nI b.val), .int (nI c.val), .int (nI fr.val)] μ Q := by
  have lta : LvH M (tw a) := LvH_tw.mpr la
  have ltb : LvH M (tw b) := LvH_tw.mpr lb
  have lt : LvH M (pv M (tw a)) := J.pl lta
  have A0 : MeX M (μ (m + 1)) (DX (fun _ => False) (fun _ => False) (fun _ => False) (fun _ => False) (fun _ => False) (fun _ => False)) := A.mex.mono (fun _ z => z.elim)
  show wp sh zX6_cutBy 0 [.ref m, .int (nI a.val), .int (nI b.val), .int (nI c.val), .int (nI fr.val), .null, .null, .null, .null, .null, .null] [] μ Q
  simp (disch := first | omega | assumption) only [mm_op_some, true_and, and_true, mm_rc_some, mm_rc_none, pk_mul, nI_add, mm_in_t, nI_clamp, ok0, ok1, ok2, ok3, ok4, n1_0, n0_0, nI_le_, nI_lt_, if_true, if_false, not_true, not_false_eq_true, ce_lt, ce_cl, hf_lt, hf_cl, wp_al0 (y := zX6_cutBy) dX6_cutBy_0, wp_al0 (y := zX6_cutBy) dX6_cutBy_1, wp_il1 (y := zX6_cutBy) dX6_cutBy_2, wp_cv1 (y := zX6_cutBy) kM6_181 (by decide) dX6_cutBy_3, (show yo zX6_halves = 6 from rfl), O.oc, O.g0, O.g1, O.g2, O.g3, O.g4, O.g5, O.g6, O.g7, O.g9, O.g10, O.g11, O.p0, O.p7, O.a1, O.a2, O.a3, O.a4, O.a5, O.a6, O.a7, O.a8, O.a9]
  refine cl_mono (mx_halves O A0 a la n1 h1n e1) ?_
  rintro r μ1 ⟨rfl, A1, F1⟩
  simp (disch := first | omega | assumption) only [mm_op_some, true_and, and_true, mm_rc_some, mm_rc_none, pk_mul, nI_add, mm_in_t, nI_clamp, ok0, ok1, ok2, ok3, ok4, n1_0, n0_0, nI_le_, nI_lt_, if_true, if_false, not_true, not_false_eq_true, ce_lt, ce_cl, hf_lt, hf_cl, wp_cv1 (y := zX6_cutBy) kM6_184 (by decide) dX6_cutBy_6, (show yo zX6_newWall = 6 from rfl), O.oc, O.g0, O.g1, O.g2, O.g3, O.g4, O.g5, O.g6, O.g7, O.g9, O.g10, O.g11, O.p0, O.p7, O.a1, O.a2, O.a3, O.a4, O.a5, O.a6, O.a7, O.a8, O.a9]
  refine cl_mono (mx_newWall O A1 (LnB_sLn J.lnb _ _ (by omega)) j1 ((frW_lv (M := M) rfl).trans w1) (nI (n1 / 2))) ?_
  rintro r μ2 ⟨rfl, A2, F2⟩
  simp (disch := first | omega | assumption) only [mm_op_some, true_and, and_true, mm_rc_some, mm_rc_none, pk_mul, nI_add, mm_in_t, nI_clamp, ok0, ok1, ok2, ok3, ok4, n1_0, n0_0, nI_le_, nI_lt_, if_true, if_false, not_true, not_false_eq_true, ce_lt, ce_cl, hf_lt, hf_cl, wp_is5 (y := zX6_cutBy) dX6_cutBy_9, wp_al0 (y := zX6_cutBy) dX6_cutBy_11, wp_al0 (y := zX6_cutBy) dX6_cutBy_12, wp_il2 (y := zX6_cutBy) dX6_cutBy_13, wp_cv1 (y := zX6_cutBy) kM6_181 (by decide) dX6_cutBy_14, (show yo zX6_halves = 6 from rfl), O.oc, O.g0, O.g1, O.g2, O.g3, O.g4, O.g5, O.g6, O.g7, O.g9, O.g10, O.g11, O.p0, O.p7, O.a1, O.a2, O.a3, O.a4, O.a5, O.a6, O.a7, O.a8, O.a9]
  have LB : LnB (sLn (sLv (sLn M (wl a) (nI ((n1 + 1) / 2))) j1 true) j1 (nI (n1 / 2))) := LnB_new (LnB_sLn J.lnb _ _ (by omega)) _ _ (by omega)
  have lb2 : LvH (sLn (sLv (sLn M (wl a) (nI ((n1 + 1) / 2))) j1 true) j1 (nI (n1 / 2))) b := by
    show fu (lv M) j1 true (wl b) = true
    rw [fu_n _ _ (l b lb).1]; exact lb
  refine cl_mono (mx_halves O A2 b lb2 n2 h2n (by
    show fu (fu (ln M) (wl a) (nI ((n1 + 1) / 2))) j1 (nI (n1 / 2)) (wl b) = nI n2
    rw [fu_n _ _ (l b lb).1, fu_n _ _ (fun e => wab e.symm)]; exact e2)) ?_
  rintro r μ3 ⟨rfl, A3, F3⟩
  simp (disch := first | omega | assumption) only [mm_op_some, true_and, and_true, mm_rc_some, mm_rc_none, pk_mul, nI_add, mm_in_t, nI_clamp, ok0, ok1, ok2, ok3, ok4, n1_0, n0_0, nI_le_, nI_lt_, if_true, if_false, not_true, not_false_eq_true, ce_lt, ce_cl, hf_lt, hf_cl, wp_cv1 (y := zX6_cutBy) kM6_184 (by decide) dX6_cutBy_17, (show yo zX6_newWall = 6 from rfl), O.oc, O.g0, O.g1, O.g2, O.g3, O.g4, O.g5, O.g6, O.g7, O.g9, O.g10, O.g11, O.p0, O.p7, O.a1, O.a2, O.a3, O.a4, O.a5, O.a6, O.a7, O.a8, O.a9]
  refine cl_mono (mx_newWall O A3 (LnB_sLn LB _ _ (by omega)) j2 ((frW_lv (M := sLv M j1 true) rfl).trans w2) (nI (n2 / 2))) ?_
  rintro r μ4 ⟨rfl, A4, F4⟩
  simp (disch := first | omega | assumption) only [mm_op_some, true_and, and_true, mm_rc_some, mm_rc_none, pk_mul, nI_add, mm_in_t, nI_clamp, ok0, ok1, ok2, ok3, ok4, n1_0, n0_0, nI_le_, nI_lt_, if_true, if_false, not_true, not_false_eq_true, ce_lt, ce_cl, hf_lt, hf_cl, wp_is6 (y := zX6_cutBy) dX6_cutBy_20, wp_al0 (y := zX6_cutBy) dX6_cutBy_22, wp_bipush (y := zX6_cutBy) (nI 10) kb_10 dX6_cutBy_23, wp_cv1 (y := zX6_cutBy) kM6_184 (by decide) dX6_cutBy_25, (show yo zX6_newWall = 6 from rfl), O.oc, O.g0, O.g1, O.g2, O.g3, O.g4, O.g5, O.g6, O.g7, O.g9, O.g10, O.g11, O.p0, O.p7, O.a1, O.a2, O.a3, O.a4, O.a5, O.a6, O.a7, O.a8, O.a9]
  refine cl_mono (mx_newWall O A4 (LnB_new (LnB_sLn LB _ _ (by omega)) _ _ (by omega)) j3 ((frW_lv (M := sLv (sLv M j1 true) j2 true) rfl).trans w3) (nI 10)) ?_
  rintro r μ5 ⟨rfl, A5, F5⟩
  have A6 : MeX (ct3 M a b j1 j2 j3 (nI ((n1 + 1) / 2)) (nI (n1 / 2)) (nI ((n2 + 1) / 2)) (nI (n2 / 2))) (μ5 (m + 1)) (DX (X0 j1 j2 j3) (X0 j1 j2 j3) (X0 j1 j2 j3) (X0 j1 j2 j3) (X0 j1 j2 j3) (fun _ => False)) := A5.mono (DX_mono (fun k z => z.elim (fun z => z.elim (fun z => z.elim (fun z => z.elim) Or.inl) (fun z => Or.inr (Or.inl z))) (fun z => Or.inr (Or.inr z))) (fun k z => z.elim (fun z => z.elim (fun z => z.elim (fun z => z.elim) Or.inl) (fun z => Or.inr (Or.inl z))) (fun z => Or.inr (Or.inr z))) (fun k z => z.elim (fun z => z.elim (fun z => z.elim (fun z => z.elim) Or.inl) (fun z => Or.inr (Or.inl z))) (fun z => Or.inr (Or.inr z))) (fun k z => z.elim (fun z => z.elim (fun z => z.elim (fun z => z.elim) Or.inl) (fun z => Or.inr (Or.inl z))) (fun z => Or.inr (Or.inr z))) (fun k z => z.elim (fun z => z.elim (fun z => z.elim (fun z => z.elim) Or.inl) (fun z => Or.inr (Or.inl z))) (fun z => Or.inr (Or.inr z))) (fun _ z => z))
  obtain ⟨f1, f2, f3, f4, f5, f6, f7, f8, f9⟩ := ct3_f M a b j1 j2 j3 (nI ((n1 + 1) / 2)) (nI (n1 / 2)) (nI ((n2 + 1) / 2)) (nI (n2 / 2))
  obtain ⟨g1, g2, g3, g4, g5, g6, g7, g8, g9⟩ := ct4_f M a b (pv M (tw a)) j1 j2 j3 (nI ((n1 + 1) / 2)) (nI (n1 / 2)) (nI ((n2 + 1) / 2)) (nI (n2 / 2))
  have nX : ∀ h, LvH M h → ¬ X0 j1 j2 j3 h := fun h lh z => z.elim (l h lh).1 (fun z => z.elim (l h lh).2.1 (l h lh).2.2)
  have lvO : ∀ h, LvH M h → fu (fu (fu (lv M) j1 true) j2 true) j3 true (wl h) = true := fun h lh => by rw [fu_n _ _ (l h lh).2.2, fu_n _ _ (l h lh).2.1, fu_n _ _ (l h lh).1]; exact lh
  have lv1 : fu (fu (fu (lv M) j1 true) j2 true) j3 true (wl (h1 j1)) = true := by rw [wl_h1, fu_n _ _ j13, fu_n _ _ j12, fu_s]
  have lv2 : fu (fu (fu (lv M) j1 true) j2 true) j3 true (wl (h1 j2)) = true := by rw [wl_h1, fu_n _ _ j23, fu_s]
  have ez1 : (h0 j1).val + 1 = (h1 j1).val := rfl
  have ez2 : (h0 j2).val + 1 = (h1 j2).val := rfl
  have lk : ∀ h, LvH M h → LvH (ct3 M a b j1 j2 j3 (nI ((n1 + 1) / 2)) (nI (n1 / 2)) (nI ((n2 + 1) / 2)) (nI (n2 / 2))) h := fun h lh => by unfold LvH; rw [f1]; exact lvO h lh
  have lk4 : ∀ h, LvH M h → LvH (ct4 M a b (pv M (tw a)) j1 j2 j3 (nI ((n1 + 1) / 2)) (nI (n1 / 2)) (nI ((n2 + 1) / 2)) (nI (n2 / 2))) h := fun h lh => by unfold LvH; rw [g1]; exact lvO h lh
  have E1 : ∀ Q', cl sh zX6_before [.ref m, .int (nI (tw a).val)] μ5 Q' = Q' (some (.int (nI (pv M (tw a)).val))) μ5 := fun Q' => mr_before O (tw a) _ (by
    have := A6.pv_ (lk _ lta) (nX _ lta)
    rw [f4] at this
    exact this)
  have l1 := (h1 j1).isLt
  have l2 := (h1 j2).isLt
  simp (disch := first | omega | assumption) only [mm_op_some, true_and, and_true, mm_rc_some, mm_rc_none, pk_mul, nI_add, mm_in_t, nI_clamp, ok0, ok1, ok2, ok3, ok4, n1_0, n0_0, nI_le_, nI_lt_, if_true, if_false, not_true, not_false_eq_true, ce_lt, ce_cl, hf_lt, hf_cl, nI_xor, tw_xor, ez1, wp_is7 (y := zX6_cutBy) dX6_cutBy_28, wp_al0 (y := zX6_cutBy) dX6_cutBy_30, wp_il5 (y := zX6_cutBy) dX6_cutBy_31, wp_iconst (y := zX6_cutBy) (nI 1) ki_1 dX6_cutBy_33, wp_iadd (y := zX6_cutBy) dX6_cutBy_34, wp_al0 (y := zX6_cutBy) dX6_cutBy_35, wp_il1 (y := zX6_cutBy) dX6_cutBy_36, wp_iconst (y := zX6_cutBy) (nI 1) ki_1 dX6_cutBy_37, wp_ixor (y := zX6_cutBy) dX6_cutBy_38, wp_cv1 (y := zX6_cutBy) kM6_96 (by decide) dX6_cutBy_39, (show yo zX6_before = 6 from rfl), wp_cv2 (y := zX6_cutBy) kM6_128 (by decide) dX6_cutBy_42, (show yo zX6_enter = 6 from rfl), O.oc, O.g0, O.g1, O.g2, O.g3, O.g4, O.g5, O.g6, O.g7, O.g9, O.g10, O.g11, O.p0, O.p7, O.a1, O.a2, O.a3, O.a4, O.a5, O.a6, O.a7, O.a8, O.a9, E1]
  have sb := J.sdb (ow M (pv M (tw a)))
  have sp := J.pos lt
  have sb2 := J.sdb (ow M (tw b))
  have sp2 := J.pos ltb
  refine cl_mono (mx_enter O A6 (h1 j1) (pv M (tw a)) (by unfold LvH; rw [f1]; exact lv1) (lk _ lt) (nX _ lt) (nX _ lt) (fun e => (l _ lt).1 (by rw [← e, wl_h1])) (by rw [f2, f7]; omega) (by rw [f2, f7]; omega)) ?_
  rw [f3]
  rintro r μ6 ⟨rfl, A7, F7⟩
  have A7 : MeX (ct4 M a b (pv M (tw a)) j1 j2 j3 (nI ((n1 + 1) / 2)) (nI (n1 / 2)) (nI ((n2 + 1) / 2)) (nI (n2 / 2))) (μ6 (m + 1)) _ := A7
  simp (disch := first | omega | assumption) only [mm_op_some, true_and, and_true, mm_rc_some, mm_rc_none, pk_mul, nI_add, mm_in_t, nI_clamp, ok0, ok1, ok2, ok3, ok4, n1_0, n0_0, nI_le_, nI_lt_, if_true, if_false, not_true, not_false_eq_true, ce_lt, ce_cl, hf_lt, hf_cl, nI_xor, tw_xor, ez2, wp_al0 (y := zX6_cutBy) dX6_cutBy_45, wp_il6 (y := zX6_cutBy) dX6_cutBy_46, wp_iconst (y := zX6_cutBy) (nI 1) ki_1 dX6_cutBy_48, wp_iadd (y := zX6_cutBy) dX6_cutBy_49, wp_il2 (y := zX6_cutBy) dX6_cutBy_50, wp_iconst (y := zX6_cutBy) (nI 1) ki_1 dX6_cutBy_51, wp_ixor (y := zX6_cutBy) dX6_cutBy_52, wp_cv2 (y := zX6_cutBy) kM6_128 (by decide) dX6_cutBy_53, (show yo zX6_enter = 6 from rfl), O.oc, O.g0, O.g1, O.g2, O.g3, O.g4, O.g5, O.g6, O.g7, O.g9, O.g10, O.g11, O.p0, O.p7, O.a1, O.a2, O.a3, O.a4, O.a5, O.a6, O.a7, O.a8, O.a9]
  have tb11 : tw b ≠ h1 j1 := fun e => (l _ ltb).1 (by rw [e, wl_h1])
  have o4 : ow (ct4 M a b (pv M (tw a)) j1 j2 j3 (nI ((n1 + 1) / 2)) (nI (n1 / 2)) (nI ((n2 + 1) / 2)) (nI (n2 / 2))) (tw b) = ow M (tw b) := by rw [g2, fu_n _ _ tb11]
  have s4 : sd M (ow M (tw b)) ≤ sd (ct4 M a b (pv M (tw a)) j1 j2 j3 (nI ((n1 + 1) / 2)) (nI (n1 / 2)) (nI ((n2 + 1) / 2)) (nI (n2 / 2))) (ow M (tw b)) ∧ sd (ct4 M a b (pv M (tw a)) j1 j2 j3 (nI ((n1 + 1) / 2)) (nI (n1 / 2)) (nI ((n2 + 1) / 2)) (nI (n2 / 2))) (ow M (tw b)) ≤ sd M (ow M (tw b)) + 1 := by
    rw [g7]
    by_cases z : ow M (tw b) = ow M (pv M (tw a))
    · rw [← z, fu_s]; omega
    · rw [fu_n _ _ z]; omega
  refine cl_mono (mx_enter O A7 (h1 j2) (tw b) (by unfold LvH; rw [g1]; exact lv2) (lk4 _ ltb) (fun z => nX _ ltb z.1.1) (fun z => nX _ ltb z.1) (fun e => (l _ ltb).2.1 (by rw [← e, wl_h1])) (by rw [o4]; omega) (by rw [o4]; omega)) ?_
  rintro r μ7 ⟨rfl, A8, F8⟩
  simp (disch := first | omega | assumption) only [mm_op_some, true_and, and_true, mm_rc_some, mm_rc_none, pk_mul, nI_add, mm_in_t, nI_clamp, ok0, ok1, ok2, ok3, ok4, n1_0, n0_0, nI_le_, nI_lt_, if_true, if_false, not_true, not_false_eq_true, ce_lt, ce_cl, hf_lt, hf_cl]
  refine K μ7 (A8.mono (DX_mono (fun k z => ⟨z.1.1.1.1, z.1.1.2, z.2⟩) (fun k z => ⟨z.1.1.1.1, z.1.1.1.2, z.1.2⟩) (fun k z => ⟨z.1.1, z.1.2, z.2⟩) (fun _ z => z) (fun _ z => z) (fun _ z => z))) ((((((F1.trans F2).trans F3).trans F4).trans F5).trans F7).trans F8)
end MCT
