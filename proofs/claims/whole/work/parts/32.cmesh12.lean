section CM12
variable {sh : mm_Sh} {b : Nat} {M : Ms} {μ : mm_U} {XN XP XR : Hf → Prop} {Q : Option Value → mm_U → Prop}
theorem hoL_ow (c : Ce) : ∀ (n : Nat) (M : Ms) (h k : Hf), (∀ i, i < n → nxi M i h ≠ k) → ow (hoL c n M h) k = ow M k
  | 0, _, _, _, _ => rfl
  | n + 1, M, h, k, hk => by
    show ow (hoL c n (sOw M h c) (nx M h)) k = ow M k
    rw [hoL_ow c n (sOw M h c) (nx M h) k (fun i hi => by rw [nxi_sOw]; exact hk (i + 1) (by omega))]
    exact fu_n _ _ (Ne.symm (hk 0 (by omega)))
theorem wl2 (k : Hf) (j : Wa) (h : wl k = j) : k = h0 j ∨ k = h1 j := by
  have : k.val / 2 = j.val := congrArg Fin.val h
  rcases Nat.mod_two_eq_zero_or_one k.val with e | e
  · exact Or.inl (Fin.ext (by rw [h0_val]; omega))
  · exact Or.inr (Fin.ext (by rw [h1_val]; omega))
theorem RepC.arAny (R : RepC M μ b) (c0 : Ce) (v : Int32) (h : sd M c0 = 0) : RepC (sAr M c0 v) μ b :=
  ⟨R.1, R.2.1, R.2.2.1, R.2.2.2.1, fun c hc => by
    have hc : 0 < sd M c := hc
    have e : c ≠ c0 := fun e => by rw [e, h] at hc; omega
    show _ = fu (ar M) c0 v c
    rw [fu_n _ _ e]
    exact R.2.2.2.2 c hc⟩
theorem sAr_ov (M : Ms) (c : Ce) (v w : Int32) (k : Nat) : sAr (sSd (sAr M c v) c k) c w = sAr (sSd M c k) c w := by
  unfold sAr sSd
  congr 8
  funext j
  show fu (fu (ar M) c v) c w j = fu (ar M) c w j
  unfold fu
  split <;> rfl
theorem sp_lkS (M : Ms) (a c : Hf) : sd (lkM M a c) = sd M := rfl
theorem sp_lkA (M : Ms) (a c : Hf) : ar (lkM M a c) = ar M := rfl
theorem sp_rdS (M : Ms) (a : Hf) (x y : Int32) : sd (rdM M a x y) = sd M := rfl
theorem sp_rdA (M : Ms) (a : Hf) (x y : Int32) : ar (rdM M a x y) = ar M := rfl
theorem sp_awS (M : Ms) (j : Wa) (c d : Ce) (x : Int32) : sd (awM M j c d x) = sd M := rfl
theorem sp_awA (M : Ms) (j : Wa) (c d : Ce) (x : Int32) : ar (awM M j c d x) = ar M := rfl
theorem sp_BS (M : Ms) (f t : Hf) (j1 j2 : Wa) : sd (spB M f t j1 j2) = sd M := by
  unfold spB; simp only [sp_lkS]
theorem sp_BA (M : Ms) (f t : Hf) (j1 j2 : Wa) : ar (spB M f t j1 j2) = ar M := by
  unfold spB; simp only [sp_lkA]
theorem sp_CS (M : Ms) (f t : Hf) (c fr : Ce) (j1 j2 j3 : Wa) : sd (spC M f t c fr j1 j2 j3) = sd M := by
  unfold spC; simp only [sp_lkS, sp_rdS, sp_awS]
theorem sp_CA (M : Ms) (f t : Hf) (c fr : Ce) (j1 j2 j3 : Wa) : ar (spC M f t c fr j1 j2 j3) = ar M := by
  unfold spC; simp only [sp_lkA, sp_rdA, sp_awA]
theorem sp_DS (M' M : Ms) (f t : Hf) (j1 j2 : Wa) (n : Nat) : sd (spD M' M f t j1 j2 n) = sd M' := by
  unfold spD; split <;> simp only [sp_lkS]
theorem sp_DA (M' M : Ms) (f t : Hf) (j1 j2 : Wa) (n : Nat) : ar (spD M' M f t j1 j2 n) = ar M' := by
  unfold spD; split <;> simp only [sp_lkA]
theorem c_split_fin (S : MeshSh sh b) {M14 : Ms} {μ μ14 : mm_U} (R14 : RepC M14 μ14 b) (F14 : Fr μ μ14 b) (c fr : Ce) (n m : Nat) (v5 v6 v8 v9 va vf vt : Value) (hn : n + 2 ≤ m) (bs : m ≤ 288) (sc : sd M14 c = m) (sf0 : sd M14 fr = 0) (cne : c ≠ fr) : wp sh zX2_split 213 [.ref b, .int (nI c.val), vf, vt, .int (nI fr.val), v5, v6, .int (nI n), v8, v9, va] [] μ14 (fun r μ' => r = some (.int (nI fr.val)) ∧ RepC (spE M14 c fr n) μ' b ∧ Fr μ μ' b) := by
  have frb := fr.isLt
  have cb := c.isLt
  have t1 := R14.2.2.2.1 c
  rw [sc] at t1
  have p1 : nI m + (nI 1 - nI n) = nI (m + 1 - n) := by
    rw [← pk_sub (a := m + 1) (b := n) (by omega), ← nI_add m 1, Int32.sub_eq_add_neg, Int32.sub_eq_add_neg, Int32.add_assoc]
  have R15 := R14.wSd c (m + 1 - n) (fun _ => R14.2.2.2.2 _ (by rw [sc]; omega))
  generalize hμ15 : mu μ14 (b + 7) (upd (μ14 (b + 7)) c.val (nI (m + 1 - n))) = μ15 at R15
  have F15 : Fr μ μ15 b := by rw [← hμ15]; exact F14.mu _ (by omega) (by omega)
  have z15 : sd (sSd M14 c (m + 1 - n)) fr = 0 := (fu_n _ _ (Ne.symm cne)).trans sf0
  have R16 := (R15.arAny fr (μ15 (b + 8) fr.val) z15).wSd fr (3 + n) (fun _ => (fu_s _ _ _).symm)
  generalize hμ16 : mu μ15 (b + 7) (upd (μ15 (b + 7)) fr.val (nI (3 + n))) = μ16 at R16
  have F16 : Fr μ μ16 b := by rw [← hμ16]; exact F15.mu _ (by omega) (by omega)
  have t2 : μ16 (b + 8) c.val = ar M14 c := (R16.2.2.2.2 c (by
    show 0 < fu (fu (sd M14) c (m + 1 - n)) fr (3 + n) c
    rw [fu_n _ _ cne, fu_s]; omega)).trans (fu_n _ _ cne)
  have R17 := R16.wAr fr (flo (ar M14 c))
  rw [sAr_ov] at R17
  generalize hμ17 : mu μ16 (b + 8) (upd (μ16 (b + 8)) fr.val (flo (ar M14 c))) = μ17 at R17
  have F17 : Fr μ μ17 b := by rw [← hμ17]; exact F16.mu _ (by omega) (by omega)
  have t3 : μ17 (b + 8) c.val = ar M14 c := (R17.2.2.2.2 c (by
    show 0 < fu (fu (sd M14) c (m + 1 - n)) fr (3 + n) c
    rw [fu_n _ _ cne, fu_s]; omega)).trans (fu_n _ _ cne)
  have t4 : μ17 (b + 8) fr.val = flo (ar M14 c) := (R17.2.2.2.2 fr (by
    show 0 < fu (fu (sd M14) c (m + 1 - n)) fr (3 + n) fr
    rw [fu_s]; omega)).trans (fu_s _ _ _)
  simp (disch := first | omega | assumption) only [wp_al0 (y := zX2_split) dX2_split_213, wp_getf (y := zX2_split) kF2_30 dX2_split_214, wp_il1 (y := zX2_split) dX2_split_217, wp_dup2 (y := zX2_split) dX2_split_218, wp_iald (y := zX2_split) dX2_split_219, wp_iconst (y := zX2_split) (nI 1) ki_1 dX2_split_220, wp_il7 (y := zX2_split) dX2_split_221, wp_isub (y := zX2_split) dX2_split_223, wp_iadd (y := zX2_split) dX2_split_224, wp_iast (y := zX2_split) dX2_split_225, wp_al0 (y := zX2_split) dX2_split_226, wp_getf (y := zX2_split) kF2_30 dX2_split_227, wp_il4 (y := zX2_split) dX2_split_230, wp_iconst (y := zX2_split) (nI 3) ki_3 dX2_split_232, wp_il7 (y := zX2_split) dX2_split_233, wp_iadd (y := zX2_split) dX2_split_235, wp_iast (y := zX2_split) dX2_split_236, wp_al0 (y := zX2_split) dX2_split_237, wp_getf (y := zX2_split) kF2_33 dX2_split_238, wp_il4 (y := zX2_split) dX2_split_241, wp_al0 (y := zX2_split) dX2_split_243, wp_getf (y := zX2_split) kF2_33 dX2_split_244, wp_il1 (y := zX2_split) dX2_split_247, wp_iald (y := zX2_split) dX2_split_248, wp_iconst (y := zX2_split) (nI 2) ki_2 dX2_split_249, wp_cs2 (y := zX2_split) kM2_134 (by decide) dX2_split_250, wp_iast (y := zX2_split) dX2_split_253, wp_al0 (y := zX2_split) dX2_split_254, wp_getf (y := zX2_split) kF2_33 dX2_split_255, wp_il1 (y := zX2_split) dX2_split_258, wp_dup2 (y := zX2_split) dX2_split_259, wp_iald (y := zX2_split) dX2_split_260, wp_al0 (y := zX2_split) dX2_split_261, wp_getf (y := zX2_split) kF2_33 dX2_split_262, wp_il4 (y := zX2_split) dX2_split_265, wp_iald (y := zX2_split) dX2_split_267, wp_isub (y := zX2_split) dX2_split_268, wp_iast (y := zX2_split) dX2_split_269, wp_il4 (y := zX2_split) dX2_split_270, wp_ireti (y := zX2_split) rfl dX2_split_272, mm_op_some, true_and, and_true, mm_rc_some, mm_rc_none, nI_xor, tw_xor, pk_mul, nI_add, mm_in_t, nI_clamp, ok0, ok1, ok2, ok3, ok4, n1_0, n0_0, n0_zz, n1_zz, bI_eq0, bI_ne0, bI_zz, nI_le_, nI_lt_, nI_eq_, nI_lt0, nI_ge0, nI_gt0, nI_le0, nI_eq0, m1_lt0, m1_ge0, if_true, if_false, not_true, not_false_eq_true, Classical.not_not, true_or, or_true, false_or, n1_1, k10, Bool.true_eq_false, Bool.false_eq_true, Nat.le_refl, and_self, and_false, false_and, or_self, or_false, hf_lt, ce_lt, wa_lt, hf_cl, ce_cl, wa_cl, ce_vv, hf_vv, wa_vv, i_irr, i_rfl, S.oc, S.g0, S.g1, S.g2, S.g3, S.g4, S.g5, S.g6, S.g7, S.a1, S.a2, S.a3, S.a4, S.a5, S.a6, S.a7, S.a8, t1, p1, hμ15, hμ16, t2, j_floorDiv, hμ17, t3, t4]
  refine ⟨?_, F17.mu _ (by omega) (by omega)⟩
  have R18 := R17.wAr c (ar M14 c - flo (ar M14 c))
  unfold spE
  rw [sc]
  exact R18
set_option maxHeartbeats 2000000 in
theorem c_split_mid (S : MeshSh sh b) {M3 : Ms} {μ μ3 : mm_U} {c fr : Ce} {from_ to_ hF hT : Hf} {j1 j2 j3 : Wa} (R3 : RepX M3 μ3 b (fun k => (False ∨ wl k = j1) ∨ wl k = j2) (fun k => (False ∨ wl k = j1) ∨ wl k = j2) (fun _ => False)) (F3 : Fr μ μ3 b) (n m : Nat) (hn : n + 2 ≤ m) (bs : m ≤ 288) (sd3c : sd M3 c = m) (sd3f : sd M3 fr = 0) (cne : c ≠ fr) (lf3 : lv M3 (wl (tw from_)) = true) (lt3 : lv M3 (wl (tw to_)) = true) (f3 : frW (spB M3 from_ to_ j1 j2) = some j3.val) (nf1 : wl from_ ≠ j1) (nf2 : wl from_ ≠ j2) (nt1 : wl to_ ≠ j1) (nt2 : wl to_ ≠ j2) : wp sh zX2_split 72 [.ref b, .int (nI c.val), .int (nI from_.val), .int (nI to_.val), .int (nI fr.val), .int (nI hF.val), .int (nI hT.val), .int (nI n), .int (nI (h0 j1).val), .null, .null] [.int (nI (h0 j2).val)] μ3 (fun r μ' => r = some (.int (nI fr.val)) ∧ RepC (spE (if n = 0 then lkM (spC (spB M3 from_ to_ j1 j2) from_ to_ c fr j1 j2 j3) (h0 j1) (h0 j2) else lkM (lkM (spC (spB M3 from_ to_ j1 j2) from_ to_ c fr j1 j2 j3) (h0 j1) hF) hT (h0 j2)) c fr n) μ' b ∧ Fr μ μ' b) := by
  have frb := fr.isLt
  have fb := from_.isLt
  have tb := to_.isLt
  have cb := c.isLt
  have tf := h0_val j1
  have r3 := R3.2.2.1 (tw from_) lf3 (fun q => by
    rcases q with (q | q) | q
    · exact q
    · rw [wl_tw] at q; exact nf1 q
    · rw [wl_tw] at q; exact nf2 q)
  simp (disch := first | omega | assumption) only [wp_is9 (y := zX2_split) dX2_split_72, wp_al0 (y := zX2_split) dX2_split_74, wp_al0 (y := zX2_split) dX2_split_75, wp_getf (y := zX2_split) kF2_18 dX2_split_76, wp_il2 (y := zX2_split) dX2_split_79, wp_iconst (y := zX2_split) (nI 1) ki_1 dX2_split_80, wp_ixor (y := zX2_split) dX2_split_81, wp_iald (y := zX2_split) dX2_split_82, wp_il8 (y := zX2_split) dX2_split_83, wp_iconst (y := zX2_split) (nI 1) ki_1 dX2_split_85, wp_ixor (y := zX2_split) dX2_split_86, wp_cv2 (y := zX2_split) kM2_50 (by decide) dX2_split_87, (show yo zX2_link = 2 from rfl), mm_op_some, true_and, and_true, mm_rc_some, mm_rc_none, nI_xor, tw_xor, pk_mul, nI_add, mm_in_t, nI_clamp, ok0, ok1, ok2, ok3, ok4, n1_0, n0_0, n0_zz, n1_zz, bI_eq0, bI_ne0, bI_zz, nI_le_, nI_lt_, nI_eq_, nI_lt0, nI_ge0, nI_gt0, nI_le0, nI_eq0, m1_lt0, m1_ge0, if_true, if_false, not_true, not_false_eq_true, Classical.not_not, true_or, or_true, false_or, n1_1, k10, Bool.true_eq_false, Bool.false_eq_true, Nat.le_refl, and_self, and_false, false_and, or_self, or_false, hf_lt, ce_lt, wa_lt, hf_cl, ce_cl, wa_cl, ce_vv, hf_vv, wa_vv, i_irr, i_rfl, S.oc, S.g0, S.g1, S.g2, S.g3, S.g4, S.g5, S.g6, S.g7, S.a1, S.a2, S.a3, S.a4, S.a5, S.a6, S.a7, S.a8, tw_h0, r3]
  refine cl_mono (x_link S R3 (pv M3 (tw from_)) (h1 j1)) ?_
  rintro r μ4 ⟨rfl, R4, F4⟩
  simp (disch := first | omega | assumption) only [wp_al0 (y := zX2_split) dX2_split_90, wp_il8 (y := zX2_split) dX2_split_91, wp_iconst (y := zX2_split) (nI 1) ki_1 dX2_split_93, wp_ixor (y := zX2_split) dX2_split_94, wp_il2 (y := zX2_split) dX2_split_95, wp_iconst (y := zX2_split) (nI 1) ki_1 dX2_split_96, wp_ixor (y := zX2_split) dX2_split_97, wp_cv2 (y := zX2_split) kM2_50 (by decide) dX2_split_98, (show yo zX2_link = 2 from rfl), mm_op_some, true_and, and_true, mm_rc_some, mm_rc_none, nI_xor, tw_xor, pk_mul, nI_add, mm_in_t, nI_clamp, ok0, ok1, ok2, ok3, ok4, n1_0, n0_0, n0_zz, n1_zz, bI_eq0, bI_ne0, bI_zz, nI_le_, nI_lt_, nI_eq_, nI_lt0, nI_ge0, nI_gt0, nI_le0, nI_eq0, m1_lt0, m1_ge0, if_true, if_false, not_true, not_false_eq_true, Classical.not_not, true_or, or_true, false_or, n1_1, k10, Bool.true_eq_false, Bool.false_eq_true, Nat.le_refl, and_self, and_false, false_and, or_self, or_false, hf_lt, ce_lt, wa_lt, hf_cl, ce_cl, wa_cl, ce_vv, hf_vv, wa_vv, i_irr, i_rfl, S.oc, S.g0, S.g1, S.g2, S.g3, S.g4, S.g5, S.g6, S.g7, S.a1, S.a2, S.a3, S.a4, S.a5, S.a6, S.a7, S.a8, tw_h0]
  refine cl_mono (x_link S R4 (h1 j1) (tw from_)) ?_
  rintro r μ5 ⟨rfl, R5, F5⟩
  have r5 := R5.2.1 (tw to_) lt3 (fun q => by
    obtain ⟨⟨(q | q) | q, -⟩, -⟩ := q
    · exact q
    · rw [wl_tw] at q; exact nt1 q
    · rw [wl_tw] at q; exact nt2 q)
  simp (disch := first | omega | assumption) only [wp_al0 (y := zX2_split) dX2_split_101, wp_il9 (y := zX2_split) dX2_split_102, wp_iconst (y := zX2_split) (nI 1) ki_1 dX2_split_104, wp_ixor (y := zX2_split) dX2_split_105, wp_al0 (y := zX2_split) dX2_split_106, wp_getf (y := zX2_split) kF2_15 dX2_split_107, wp_il3 (y := zX2_split) dX2_split_110, wp_iconst (y := zX2_split) (nI 1) ki_1 dX2_split_111, wp_ixor (y := zX2_split) dX2_split_112, wp_iald (y := zX2_split) dX2_split_113, wp_cv2 (y := zX2_split) kM2_50 (by decide) dX2_split_114, (show yo zX2_link = 2 from rfl), mm_op_some, true_and, and_true, mm_rc_some, mm_rc_none, nI_xor, tw_xor, pk_mul, nI_add, mm_in_t, nI_clamp, ok0, ok1, ok2, ok3, ok4, n1_0, n0_0, n0_zz, n1_zz, bI_eq0, bI_ne0, bI_zz, nI_le_, nI_lt_, nI_eq_, nI_lt0, nI_ge0, nI_gt0, nI_le0, nI_eq0, m1_lt0, m1_ge0, if_true, if_false, not_true, not_false_eq_true, Classical.not_not, true_or, or_true, false_or, n1_1, k10, Bool.true_eq_false, Bool.false_eq_true, Nat.le_refl, and_self, and_false, false_and, or_self, or_false, hf_lt, ce_lt, wa_lt, hf_cl, ce_cl, wa_cl, ce_vv, hf_vv, wa_vv, i_irr, i_rfl, S.oc, S.g0, S.g1, S.g2, S.g3, S.g4, S.g5, S.g6, S.g7, S.a1, S.a2, S.a3, S.a4, S.a5, S.a6, S.a7, S.a8, tw_h0, r5]
  refine cl_mono (x_link S R5 (h1 j2) _) ?_
  rintro r μ6 ⟨rfl, R6, F6⟩
  simp (disch := first | omega | assumption) only [wp_al0 (y := zX2_split) dX2_split_117, wp_il3 (y := zX2_split) dX2_split_118, wp_iconst (y := zX2_split) (nI 1) ki_1 dX2_split_119, wp_ixor (y := zX2_split) dX2_split_120, wp_il9 (y := zX2_split) dX2_split_121, wp_iconst (y := zX2_split) (nI 1) ki_1 dX2_split_123, wp_ixor (y := zX2_split) dX2_split_124, wp_cv2 (y := zX2_split) kM2_50 (by decide) dX2_split_125, (show yo zX2_link = 2 from rfl), mm_op_some, true_and, and_true, mm_rc_some, mm_rc_none, nI_xor, tw_xor, pk_mul, nI_add, mm_in_t, nI_clamp, ok0, ok1, ok2, ok3, ok4, n1_0, n0_0, n0_zz, n1_zz, bI_eq0, bI_ne0, bI_zz, nI_le_, nI_lt_, nI_eq_, nI_lt0, nI_ge0, nI_gt0, nI_le0, nI_eq0, m1_lt0, m1_ge0, if_true, if_false, not_true, not_false_eq_true, Classical.not_not, true_or, or_true, false_or, n1_1, k10, Bool.true_eq_false, Bool.false_eq_true, Nat.le_refl, and_self, and_false, false_and, or_self, or_false, hf_lt, ce_lt, wa_lt, hf_cl, ce_cl, wa_cl, ce_vv, hf_vv, wa_vv, i_irr, i_rfl, S.oc, S.g0, S.g1, S.g2, S.g3, S.g4, S.g5, S.g6, S.g7, S.a1, S.a2, S.a3, S.a4, S.a5, S.a6, S.a7, S.a8, tw_h0]
  refine cl_mono (x_link S R6 (tw to_) (h1 j2)) ?_
  rintro r μ7 ⟨rfl, R7, F7⟩
  simp (disch := first | omega | assumption) only [wp_al0 (y := zX2_split) dX2_split_128, wp_il1 (y := zX2_split) dX2_split_129, wp_il4 (y := zX2_split) dX2_split_130, wp_bipush (y := zX2_split) (nI 10) kb_10 dX2_split_132, wp_cv3 (y := zX2_split) kM2_130 (by decide) dX2_split_134, (show yo zX2_addWall = 2 from rfl), mm_op_some, true_and, and_true, mm_rc_some, mm_rc_none, nI_xor, tw_xor, pk_mul, nI_add, mm_in_t, nI_clamp, ok0, ok1, ok2, ok3, ok4, n1_0, n0_0, n0_zz, n1_zz, bI_eq0, bI_ne0, bI_zz, nI_le_, nI_lt_, nI_eq_, nI_lt0, nI_ge0, nI_gt0, nI_le0, nI_eq0, m1_lt0, m1_ge0, if_true, if_false, not_true, not_false_eq_true, Classical.not_not, true_or, or_true, false_or, n1_1, k10, Bool.true_eq_false, Bool.false_eq_true, Nat.le_refl, and_self, and_false, false_and, or_self, or_false, hf_lt, ce_lt, wa_lt, hf_cl, ce_cl, wa_cl, ce_vv, hf_vv, wa_vv, i_irr, i_rfl, S.oc, S.g0, S.g1, S.g2, S.g3, S.g4, S.g5, S.g6, S.g7, S.a1, S.a2, S.a3, S.a4, S.a5, S.a6, S.a7, S.a8, tw_h0]
  refine cl_mono (x_addWall S R7 c fr (nI 10) j3 f3) ?_
  rintro r μ8 ⟨rfl, R8, F8⟩
  simp (disch := first | omega | assumption) only [wp_is10 (y := zX2_split) dX2_split_137, wp_al0 (y := zX2_split) dX2_split_139, wp_il10 (y := zX2_split) dX2_split_140, wp_iconst (y := zX2_split) (nI 0) ki_0 dX2_split_142, wp_iconst (y := zX2_split) (nI 0) ki_0 dX2_split_143, wp_cv3 (y := zX2_split) kM2_64 (by decide) dX2_split_144, (show yo zX2_setRound = 2 from rfl), mm_op_some, true_and, and_true, mm_rc_some, mm_rc_none, nI_xor, tw_xor, pk_mul, nI_add, mm_in_t, nI_clamp, ok0, ok1, ok2, ok3, ok4, n1_0, n0_0, n0_zz, n1_zz, bI_eq0, bI_ne0, bI_zz, nI_le_, nI_lt_, nI_eq_, nI_lt0, nI_ge0, nI_gt0, nI_le0, nI_eq0, m1_lt0, m1_ge0, if_true, if_false, not_true, not_false_eq_true, Classical.not_not, true_or, or_true, false_or, n1_1, k10, Bool.true_eq_false, Bool.false_eq_true, Nat.le_refl, and_self, and_false, false_and, or_self, or_false, hf_lt, ce_lt, wa_lt, hf_cl, ce_cl, wa_cl, ce_vv, hf_vv, wa_vv, i_irr, i_rfl, S.oc, S.g0, S.g1, S.g2, S.g3, S.g4, S.g5, S.g6, S.g7, S.a1, S.a2, S.a3, S.a4, S.a5, S.a6, S.a7, S.a8, tw_h0]
  refine cl_mono (x_setRound S R8 (h0 j3) (nI 0) (nI 0)) ?_
  rintro r μ9 ⟨rfl, R9, F9⟩
  simp (disch := first | omega | assumption) only [wp_al0 (y := zX2_split) dX2_split_147, wp_il2 (y := zX2_split) dX2_split_148, wp_il10 (y := zX2_split) dX2_split_149, wp_cv2 (y := zX2_split) kM2_50 (by decide) dX2_split_151, (show yo zX2_link = 2 from rfl), mm_op_some, true_and, and_true, mm_rc_some, mm_rc_none, nI_xor, tw_xor, pk_mul, nI_add, mm_in_t, nI_clamp, ok0, ok1, ok2, ok3, ok4, n1_0, n0_0, n0_zz, n1_zz, bI_eq0, bI_ne0, bI_zz, nI_le_, nI_lt_, nI_eq_, nI_lt0, nI_ge0, nI_gt0, nI_le0, nI_eq0, m1_lt0, m1_ge0, if_true, if_false, not_true, not_false_eq_true, Classical.not_not, true_or, or_true, false_or, n1_1, k10, Bool.true_eq_false, Bool.false_eq_true, Nat.le_refl, and_self, and_false, false_and, or_self, or_false, hf_lt, ce_lt, wa_lt, hf_cl, ce_cl, wa_cl, ce_vv, hf_vv, wa_vv, i_irr, i_rfl, S.oc, S.g0, S.g1, S.g2, S.g3, S.g4, S.g5, S.g6, S.g7, S.a1, S.a2, S.a3, S.a4, S.a5, S.a6, S.a7, S.a8, tw_h0]
  refine cl_mono (x_link S R9 from_ (h0 j3)) ?_
  rintro r μ10 ⟨rfl, R10, F10⟩
  simp (disch := first | omega | assumption) only [wp_al0 (y := zX2_split) dX2_split_154, wp_il10 (y := zX2_split) dX2_split_155, wp_il3 (y := zX2_split) dX2_split_157, wp_cv2 (y := zX2_split) kM2_50 (by decide) dX2_split_158, (show yo zX2_link = 2 from rfl), mm_op_some, true_and, and_true, mm_rc_some, mm_rc_none, nI_xor, tw_xor, pk_mul, nI_add, mm_in_t, nI_clamp, ok0, ok1, ok2, ok3, ok4, n1_0, n0_0, n0_zz, n1_zz, bI_eq0, bI_ne0, bI_zz, nI_le_, nI_lt_, nI_eq_, nI_lt0, nI_ge0, nI_gt0, nI_le0, nI_eq0, m1_lt0, m1_ge0, if_true, if_false, not_true, not_false_eq_true, Classical.not_not, true_or, or_true, false_or, n1_1, k10, Bool.true_eq_false, Bool.false_eq_true, Nat.le_refl, and_self, and_false, false_and, or_self, or_false, hf_lt, ce_lt, wa_lt, hf_cl, ce_cl, wa_cl, ce_vv, hf_vv, wa_vv, i_irr, i_rfl, S.oc, S.g0, S.g1, S.g2, S.g3, S.g4, S.g5, S.g6, S.g7, S.a1, S.a2, S.a3, S.a4, S.a5, S.a6, S.a7, S.a8, tw_h0]
  refine cl_mono (x_link S R10 (h0 j3) to_) ?_
  rintro r μ11 ⟨rfl, R11, F11⟩
  simp (disch := first | omega | assumption) only [wp_al0 (y := zX2_split) dX2_split_161, wp_il9 (y := zX2_split) dX2_split_162, wp_il10 (y := zX2_split) dX2_split_164, wp_iconst (y := zX2_split) (nI 1) ki_1 dX2_split_166, wp_ixor (y := zX2_split) dX2_split_167, wp_cv2 (y := zX2_split) kM2_50 (by decide) dX2_split_168, (show yo zX2_link = 2 from rfl), mm_op_some, true_and, and_true, mm_rc_some, mm_rc_none, nI_xor, tw_xor, pk_mul, nI_add, mm_in_t, nI_clamp, ok0, ok1, ok2, ok3, ok4, n1_0, n0_0, n0_zz, n1_zz, bI_eq0, bI_ne0, bI_zz, nI_le_, nI_lt_, nI_eq_, nI_lt0, nI_ge0, nI_gt0, nI_le0, nI_eq0, m1_lt0, m1_ge0, if_true, if_false, not_true, not_false_eq_true, Classical.not_not, true_or, or_true, false_or, n1_1, k10, Bool.true_eq_false, Bool.false_eq_true, Nat.le_refl, and_self, and_false, false_and, or_self, or_false, hf_lt, ce_lt, wa_lt, hf_cl, ce_cl, wa_cl, ce_vv, hf_vv, wa_vv, i_irr, i_rfl, S.oc, S.g0, S.g1, S.g2, S.g3, S.g4, S.g5, S.g6, S.g7, S.a1, S.a2, S.a3, S.a4, S.a5, S.a6, S.a7, S.a8, tw_h0]
  refine cl_mono (x_link S R11 (h0 j2) (h1 j3)) ?_
  rintro r μ12 ⟨rfl, R12, F12⟩
  simp (disch := first | omega | assumption) only [wp_al0 (y := zX2_split) dX2_split_171, wp_il10 (y := zX2_split) dX2_split_172, wp_iconst (y := zX2_split) (nI 1) ki_1 dX2_split_174, wp_ixor (y := zX2_split) dX2_split_175, wp_il8 (y := zX2_split) dX2_split_176, wp_cv2 (y := zX2_split) kM2_50 (by decide) dX2_split_178, (show yo zX2_link = 2 from rfl), mm_op_some, true_and, and_true, mm_rc_some, mm_rc_none, nI_xor, tw_xor, pk_mul, nI_add, mm_in_t, nI_clamp, ok0, ok1, ok2, ok3, ok4, n1_0, n0_0, n0_zz, n1_zz, bI_eq0, bI_ne0, bI_zz, nI_le_, nI_lt_, nI_eq_, nI_lt0, nI_ge0, nI_gt0, nI_le0, nI_eq0, m1_lt0, m1_ge0, if_true, if_false, not_true, not_false_eq_true, Classical.not_not, true_or, or_true, false_or, n1_1, k10, Bool.true_eq_false, Bool.false_eq_true, Nat.le_refl, and_self, and_false, false_and, or_self, or_false, hf_lt, ce_lt, wa_lt, hf_cl, ce_cl, wa_cl, ce_vv, hf_vv, wa_vv, i_irr, i_rfl, S.oc, S.g0, S.g1, S.g2, S.g3, S.g4, S.g5, S.g6, S.g7, S.a1, S.a2, S.a3, S.a4, S.a5, S.a6, S.a7, S.a8, tw_h0]
  refine cl_mono (x_link S R12 (h1 j3) (h0 j1)) ?_
  rintro r μ13 ⟨rfl, R13, F13⟩
  have FF : Fr μ μ13 b := F3.trans (F4.trans (F5.trans (F6.trans (F7.trans (F8.trans (F9.trans (F10.trans (F11.trans (F12.trans F13)))))))))
  have sC : sd (spC (spB M3 from_ to_ j1 j2) from_ to_ c fr j1 j2 j3) c = m := by rw [sp_CS, sp_BS]; exact sd3c
  have sF : sd (spC (spB M3 from_ to_ j1 j2) from_ to_ c fr j1 j2 j3) fr = 0 := by rw [sp_CS, sp_BS]; exact sd3f
  change RepX (spC (spB M3 from_ to_ j1 j2) from_ to_ c fr j1 j2 j3) _ _ _ _ _ at R13
  generalize spC (spB M3 from_ to_ j1 j2) from_ to_ c fr j1 j2 j3 = M13 at R13 sC sF ⊢
  by_cases hn0 : n = 0
  · subst hn0
    rw [if_pos rfl]
    simp (disch := first | omega | assumption) only [wp_il7 (y := zX2_split) dX2_split_181, wp_if_ne (y := zX2_split) 197 (by decide) dX2_split_183, wp_al0 (y := zX2_split) dX2_split_186, wp_il8 (y := zX2_split) dX2_split_187, wp_il9 (y := zX2_split) dX2_split_189, wp_cv2 (y := zX2_split) kM2_50 (by decide) dX2_split_191, (show yo zX2_link = 2 from rfl), mm_op_some, true_and, and_true, mm_rc_some, mm_rc_none, nI_xor, tw_xor, pk_mul, nI_add, mm_in_t, nI_clamp, ok0, ok1, ok2, ok3, ok4, n1_0, n0_0, n0_zz, n1_zz, bI_eq0, bI_ne0, bI_zz, nI_le_, nI_lt_, nI_eq_, nI_lt0, nI_ge0, nI_gt0, nI_le0, nI_eq0, m1_lt0, m1_ge0, if_true, if_false, not_true, not_false_eq_true, Classical.not_not, true_or, or_true, false_or, n1_1, k10, Bool.true_eq_false, Bool.false_eq_true, Nat.le_refl, and_self, and_false, false_and, or_self, or_false, hf_lt, ce_lt, wa_lt, hf_cl, ce_cl, wa_cl, ce_vv, hf_vv, wa_vv, i_irr, i_rfl, S.oc, S.g0, S.g1, S.g2, S.g3, S.g4, S.g5, S.g6, S.g7, S.a1, S.a2, S.a3, S.a4, S.a5, S.a6, S.a7, S.a8, tw_h0]
    refine cl_mono (x_link S R13 (h0 j1) (h0 j2)) ?_
    rintro r μ14 ⟨rfl, R14, F14⟩
    simp (disch := first | omega | assumption) only [wp_goto (y := zX2_split) 213 (by decide) dX2_split_194, mm_op_some, true_and, and_true, mm_rc_some, mm_rc_none, nI_xor, tw_xor, pk_mul, nI_add, mm_in_t, nI_clamp, ok0, ok1, ok2, ok3, ok4, n1_0, n0_0, n0_zz, n1_zz, bI_eq0, bI_ne0, bI_zz, nI_le_, nI_lt_, nI_eq_, nI_lt0, nI_ge0, nI_gt0, nI_le0, nI_eq0, m1_lt0, m1_ge0, if_true, if_false, not_true, not_false_eq_true, Classical.not_not, true_or, or_true, false_or, n1_1, k10, Bool.true_eq_false, Bool.false_eq_true, Nat.le_refl, and_self, and_false, false_and, or_self, or_false, hf_lt, ce_lt, wa_lt, hf_cl, ce_cl, wa_cl, ce_vv, hf_vv, wa_vv, i_irr, i_rfl, S.oc, S.g0, S.g1, S.g2, S.g3, S.g4, S.g5, S.g6, S.g7, S.a1, S.a2, S.a3, S.a4, S.a5, S.a6, S.a7, S.a8]
    refine c_split_fin S (R14.c (fun h hx => ?_) (fun h hx => ?_) (fun h hx => ?_)) (FF.trans F14) c fr 0 m _ _ _ _ _ _ _ hn bs sC sF cne
    · obtain ⟨⟨⟨⟨⟨q, u5⟩, u6⟩, u7⟩, u8⟩, u9⟩ := hx
      rcases q with ⟨⟨⟨⟨(q | q) | q, u1⟩, u2⟩, u3⟩, u4⟩ | q
      · exact q
      · exact (wl2 h j1 q).elim u9 u2
      · exact (wl2 h j2 q).elim u7 u3
      · exact (wl2 h j3 q).elim u6 u8
    · obtain ⟨⟨⟨⟨⟨q, u5⟩, u6⟩, u7⟩, u8⟩, u9⟩ := hx
      rcases q with ⟨⟨⟨⟨(q | q) | q, u1⟩, u2⟩, u3⟩, u4⟩ | q
      · exact q
      · exact (wl2 h j1 q).elim u8 u1
      · exact (wl2 h j2 q).elim u9 u4
      · exact (wl2 h j3 q).elim u5 u7
    · obtain ⟨⟨q | q, u1⟩, u2⟩ := hx
      · exact q
      · rw [tw_h0] at u2
        exact (wl2 h j3 q).elim u1 u2
  · rw [if_neg hn0]
    have k0 : (n = 0) = False := eq_false hn0
    simp (disch := first | omega | assumption) only [wp_il7 (y := zX2_split) dX2_split_181, wp_if_ne (y := zX2_split) 197 (by decide) dX2_split_183, mm_op_some, true_and, and_true, mm_rc_some, mm_rc_none, nI_xor, tw_xor, pk_mul, nI_add, mm_in_t, nI_clamp, ok0, ok1, ok2, ok3, ok4, n1_0, n0_0, n0_zz, n1_zz, bI_eq0, bI_ne0, bI_zz, nI_le_, nI_lt_, nI_eq_, nI_lt0, nI_ge0, nI_gt0, nI_le0, nI_eq0, m1_lt0, m1_ge0, if_true, if_false, not_true, not_false_eq_true, Classical.not_not, true_or, or_true, false_or, n1_1, k10, Bool.true_eq_false, Bool.false_eq_true, Nat.le_refl, and_self, and_false, false_and, or_self, or_false, hf_lt, ce_lt, wa_lt, hf_cl, ce_cl, wa_cl, ce_vv, hf_vv, wa_vv, i_irr, i_rfl, S.oc, S.g0, S.g1, S.g2, S.g3, S.g4, S.g5, S.g6, S.g7, S.a1, S.a2, S.a3, S.a4, S.a5, S.a6, S.a7, S.a8, tw_h0, k0]
    simp (disch := first | omega | assumption) only [wp_al0 (y := zX2_split) dX2_split_197, wp_il8 (y := zX2_split) dX2_split_198, wp_il5 (y := zX2_split) dX2_split_200, wp_cv2 (y := zX2_split) kM2_50 (by decide) dX2_split_202, (show yo zX2_link = 2 from rfl), mm_op_some, true_and, and_true, mm_rc_some, mm_rc_none, nI_xor, tw_xor, pk_mul, nI_add, mm_in_t, nI_clamp, ok0, ok1, ok2, ok3, ok4, n1_0, n0_0, n0_zz, n1_zz, bI_eq0, bI_ne0, bI_zz, nI_le_, nI_lt_, nI_eq_, nI_lt0, nI_ge0, nI_gt0, nI_le0, nI_eq0, m1_lt0, m1_ge0, if_true, if_false, not_true, not_false_eq_true, Classical.not_not, true_or, or_true, false_or, n1_1, k10, Bool.true_eq_false, Bool.false_eq_true, Nat.le_refl, and_self, and_false, false_and, or_self, or_false, hf_lt, ce_lt, wa_lt, hf_cl, ce_cl, wa_cl, ce_vv, hf_vv, wa_vv, i_irr, i_rfl, S.oc, S.g0, S.g1, S.g2, S.g3, S.g4, S.g5, S.g6, S.g7, S.a1, S.a2, S.a3, S.a4, S.a5, S.a6, S.a7, S.a8, tw_h0]
    refine cl_mono (x_link S R13 (h0 j1) hF) ?_
    rintro r μ14 ⟨rfl, R14, F14⟩
    simp (disch := first | omega | assumption) only [wp_al0 (y := zX2_split) dX2_split_205, wp_il6 (y := zX2_split) dX2_split_206, wp_il9 (y := zX2_split) dX2_split_208, wp_cv2 (y := zX2_split) kM2_50 (by decide) dX2_split_210, (show yo zX2_link = 2 from rfl), mm_op_some, true_and, and_true, mm_rc_some, mm_rc_none, nI_xor, tw_xor, pk_mul, nI_add, mm_in_t, nI_clamp, ok0, ok1, ok2, ok3, ok4, n1_0, n0_0, n0_zz, n1_zz, bI_eq0, bI_ne0, bI_zz, nI_le_, nI_lt_, nI_eq_, nI_lt0, nI_ge0, nI_gt0, nI_le0, nI_eq0, m1_lt0, m1_ge0, if_true, if_false, not_true, not_false_eq_true, Classical.not_not, true_or, or_true, false_or, n1_1, k10, Bool.true_eq_false, Bool.false_eq_true, Nat.le_refl, and_self, and_false, false_and, or_self, or_false, hf_lt, ce_lt, wa_lt, hf_cl, ce_cl, wa_cl, ce_vv, hf_vv, wa_vv, i_irr, i_rfl, S.oc, S.g0, S.g1, S.g2, S.g3, S.g4, S.g5, S.g6, S.g7, S.a1, S.a2, S.a3, S.a4, S.a5, S.a6, S.a7, S.a8, tw_h0]
    refine cl_mono (x_link S R14 hT (h0 j2)) ?_
    rintro r μ15 ⟨rfl, R15, F15⟩
    simp only [mm_rc_none]
    refine c_split_fin S (R15.c (fun h hx => ?_) (fun h hx => ?_) (fun h hx => ?_)) ((FF.trans F14).trans F15) c fr n m _ _ _ _ _ _ _ hn bs sC sF cne
    · obtain ⟨⟨⟨⟨⟨⟨q, u5⟩, u6⟩, u7⟩, u8⟩, u9⟩, u10⟩ := hx
      rcases q with ⟨⟨⟨⟨(q | q) | q, u1⟩, u2⟩, u3⟩, u4⟩ | q
      · exact q
      · exact (wl2 h j1 q).elim u9 u2
      · exact (wl2 h j2 q).elim u7 u3
      · exact (wl2 h j3 q).elim u6 u8
    · obtain ⟨⟨⟨⟨⟨⟨q, u5⟩, u6⟩, u7⟩, u8⟩, u9⟩, u10⟩ := hx
      rcases q with ⟨⟨⟨⟨(q | q) | q, u1⟩, u2⟩, u3⟩, u4⟩ | q
      · exact q
      · exact (wl2 h j1 q).elim u8 u1
      · exact (wl2 h j2 q).elim u10 u4
      · exact (wl2 h j3 q).elim u5 u7
    · obtain ⟨⟨q | q, u1⟩, u2⟩ := hx
      · exact q
      · rw [tw_h0] at u2
        exact (wl2 h j3 q).elim u1 u2
set_option maxHeartbeats 1000000 in
theorem c_split (S : MeshSh sh b) (R : RepC M μ b) (B : SdB M) (from_ to_ : Hf) (c fr : Ce) (j1 j2 j3 : Wa) (n : Nat) (ok : SpOk M from_ to_ c fr j1 j2 j3 n) (hW : sW M (fun _ => nI 1) ≤ nI 141) : cl sh zX2_split [.ref b, .int (nI c.val), .int (nI from_.val), .int (nI to_.val)] μ (fun r μ' => r = some (.int (nI fr.val)) ∧ RepC (spM M from_ to_ c fr j1 j2 j3 n) μ' b ∧ Fr μ μ' b) := by
  obtain ⟨lf, lt, L, hfr, hn, e1, e2, f1, f2, f3, nf, nt, sf, st, dj, wne, cne, fne⟩ := ok
  have E1 : ∀ Q', cl sh zX2_freeCell [.ref b] μ Q' = Q' (some (.int (nI fr.val))) μ := fun Q' => by rw [c_freeCell S R B, hfr]; rfl
  have E2 : ∀ Q', cl sh zX2_howManyWalls [.ref b] μ Q' = Q' (some (.int (sW M (fun _ => nI 1)))) μ := fun Q' => c_howManyWalls S R
  have hW2 := eq_true hW
  have frb := fr.isLt
  have fb := from_.isLt
  have tb := to_.isLt
  have cb := c.isLt
  have bs := B c
  have r1 := (R.1 from_ lf).2.1
  have r2 := (R.1 to_ lt).2.2.1
  have rs := R.2.2.2.1 c
  have sfr : sd M fr = 0 := by
    obtain ⟨g1, -, -, -⟩ := fd_some hfr
    rw [cI_val] at g1
    exact of_decide_eq_true g1
  show wp sh zX2_split 0 [.ref b, .int (nI c.val), .int (nI from_.val), .int (nI to_.val), .null, .null, .null, .null, .null, .null, .null] [] μ _
  simp (disch := first | omega | assumption) only [wp_al0 (y := zX2_split) dX2_split_0, wp_cv0 (y := zX2_split) kM2_116 (by decide) dX2_split_1, (show yo zX2_freeCell = 2 from rfl), wp_is4 (y := zX2_split) dX2_split_4, wp_il4 (y := zX2_split) dX2_split_6, wp_if_lt (y := zX2_split) 21 (by decide) dX2_split_8, wp_al0 (y := zX2_split) dX2_split_11, wp_cv0 (y := zX2_split) kM2_120 (by decide) dX2_split_12, (show yo zX2_howManyWalls = 2 from rfl), wp_sipush (y := zX2_split) (nI 141) ks_141 dX2_split_15, wp_icmp_le (y := zX2_split) 23 (by decide) dX2_split_18, wp_iconst (y := zX2_split) ((-1)) ki_m1 dX2_split_21, wp_ireti (y := zX2_split) rfl dX2_split_22, wp_al0 (y := zX2_split) dX2_split_23, wp_getf (y := zX2_split) kF2_15 dX2_split_24, wp_il2 (y := zX2_split) dX2_split_27, wp_iald (y := zX2_split) dX2_split_28, wp_is5 (y := zX2_split) dX2_split_29, wp_al0 (y := zX2_split) dX2_split_31, wp_getf (y := zX2_split) kF2_18 dX2_split_32, wp_il3 (y := zX2_split) dX2_split_35, wp_iald (y := zX2_split) dX2_split_36, wp_is6 (y := zX2_split) dX2_split_37, wp_al0 (y := zX2_split) dX2_split_39, wp_il4 (y := zX2_split) dX2_split_40, wp_il5 (y := zX2_split) dX2_split_42, wp_il3 (y := zX2_split) dX2_split_44, wp_al0 (y := zX2_split) dX2_split_45, wp_getf (y := zX2_split) kF2_30 dX2_split_46, wp_il1 (y := zX2_split) dX2_split_49, wp_iald (y := zX2_split) dX2_split_50, wp_cv4 (y := zX2_split) kM2_123 (by decide) dX2_split_51, (show yo zX2_handOver = 2 from rfl), mm_op_some, true_and, and_true, mm_rc_some, mm_rc_none, nI_xor, tw_xor, pk_mul, nI_add, mm_in_t, nI_clamp, ok0, ok1, ok2, ok3, ok4, n1_0, n0_0, n0_zz, n1_zz, bI_eq0, bI_ne0, bI_zz, nI_le_, nI_lt_, nI_eq_, nI_lt0, nI_ge0, nI_gt0, nI_le0, nI_eq0, m1_lt0, m1_ge0, if_true, if_false, not_true, not_false_eq_true, Classical.not_not, true_or, or_true, false_or, n1_1, k10, Bool.true_eq_false, Bool.false_eq_true, Nat.le_refl, and_self, and_false, false_and, or_self, or_false, hf_lt, ce_lt, wa_lt, hf_cl, ce_cl, wa_cl, ce_vv, hf_vv, wa_vv, i_irr, i_rfl, S.oc, S.g0, S.g1, S.g2, S.g3, S.g4, S.g5, S.g6, S.g7, S.a1, S.a2, S.a3, S.a4, S.a5, S.a6, S.a7, S.a8, E1, E2, hW2, r1, r2, rs]
  refine cl_mono (c_handOver S R L fr (nx M from_) to_ (sd M c) n (by omega) (by omega) (L _ lf) e1 e2) ?_
  rintro r μ1 ⟨rfl, R1, F1⟩
  obtain ⟨q1, q2, q3, q4, q5, q6, q7, q8⟩ := hoL_nx fr n M (nx M from_)
  have o1 : ow (hoL fr n M (nx M from_)) (tw from_) = ow M (tw from_) := hoL_ow fr n M _ _ (fun i hi => (dj i (by omega)).1)
  have o2 : ow (hoL fr n M (nx M from_)) (tw to_) = ow M (tw to_) := hoL_ow fr n M _ _ (fun i hi => (dj i (by omega)).2)
  simp (disch := first | omega | assumption) only [wp_is7 (y := zX2_split) dX2_split_54, wp_al0 (y := zX2_split) dX2_split_56, wp_il2 (y := zX2_split) dX2_split_57, wp_il4 (y := zX2_split) dX2_split_58, wp_cv2 (y := zX2_split) kM2_127 (by decide) dX2_split_60, (show yo zX2_halve = 2 from rfl), mm_op_some, true_and, and_true, mm_rc_some, mm_rc_none, nI_xor, tw_xor, pk_mul, nI_add, mm_in_t, nI_clamp, ok0, ok1, ok2, ok3, ok4, n1_0, n0_0, n0_zz, n1_zz, bI_eq0, bI_ne0, bI_zz, nI_le_, nI_lt_, nI_eq_, nI_lt0, nI_ge0, nI_gt0, nI_le0, nI_eq0, m1_lt0, m1_ge0, if_true, if_false, not_true, not_false_eq_true, Classical.not_not, true_or, or_true, false_or, n1_1, k10, Bool.true_eq_false, Bool.false_eq_true, Nat.le_refl, and_self, and_false, false_and, or_self, or_false, hf_lt, ce_lt, wa_lt, hf_cl, ce_cl, wa_cl, ce_vv, hf_vv, wa_vv, i_irr, i_rfl, S.oc, S.g0, S.g1, S.g2, S.g3, S.g4, S.g5, S.g6, S.g7, S.a1, S.a2, S.a3, S.a4, S.a5, S.a6, S.a7, S.a8]
  refine cl_mono (x_halve S R1.x from_ fr j1 (by rw [q3]; exact lf) (fun z => z) f1 (by rw [o1, q4]; exact sf)) ?_
  rintro r μ2 ⟨rfl, R2, F2⟩
  simp (disch := first | omega | assumption) only [wp_is8 (y := zX2_split) dX2_split_63, wp_al0 (y := zX2_split) dX2_split_65, wp_il3 (y := zX2_split) dX2_split_66, wp_il4 (y := zX2_split) dX2_split_67, wp_cv2 (y := zX2_split) kM2_127 (by decide) dX2_split_69, (show yo zX2_halve = 2 from rfl), mm_op_some, true_and, and_true, mm_rc_some, mm_rc_none, nI_xor, tw_xor, pk_mul, nI_add, mm_in_t, nI_clamp, ok0, ok1, ok2, ok3, ok4, n1_0, n0_0, n0_zz, n1_zz, bI_eq0, bI_ne0, bI_zz, nI_le_, nI_lt_, nI_eq_, nI_lt0, nI_ge0, nI_gt0, nI_le0, nI_eq0, m1_lt0, m1_ge0, if_true, if_false, not_true, not_false_eq_true, Classical.not_not, true_or, or_true, false_or, n1_1, k10, Bool.true_eq_false, Bool.false_eq_true, Nat.le_refl, and_self, and_false, false_and, or_self, or_false, hf_lt, ce_lt, wa_lt, hf_cl, ce_cl, wa_cl, ce_vv, hf_vv, wa_vv, i_irr, i_rfl, S.oc, S.g0, S.g1, S.g2, S.g3, S.g4, S.g5, S.g6, S.g7, S.a1, S.a2, S.a3, S.a4, S.a5, S.a6, S.a7, S.a8]
  -- the mesh behind the first half
  have d1 : lv M j1 = false := by
    obtain ⟨g1, -, -, -⟩ := fd_some f1
    rw [wI_val, q3] at g1
    simpa using g1
  have nj1 : ∀ k, lv M (wl k) = true → wl k ≠ j1 := fun k hk e => by rw [e, d1] at hk; cases hk
  have lv2 : ∀ w, w ≠ j1 → lv (hvM (hoL fr n M (nx M from_)) j1 from_ fr) w = lv M w := fun w hw => (fu_n _ _ hw).trans (show lv (hoL fr n M (nx M from_)) w = lv M w by rw [q3])
  have lv2j : lv (hvM (hoL fr n M (nx M from_)) j1 from_ fr) j1 = true := fu_s _ _ _
  have ow2 : ∀ k, wl k ≠ j1 → ow (hvM (hoL fr n M (nx M from_)) j1 from_ fr) k = ow (hoL fr n M (nx M from_)) k := fun k hk => (fu_n _ _ (fun e => hk (by rw [e, wl_h1]))).trans (fu_n _ _ (fun e => hk (by rw [e, wl_h0])))
  have sd2 : ∀ d, sd M d ≤ sd (hvM (hoL fr n M (nx M from_)) j1 from_ fr) d := by
    intro d
    show _ ≤ fu (sd (hoL fr n M (nx M from_))) _ _ d
    unfold fu
    split
    · rename_i e
      rw [q4, e]
      exact Nat.le_succ _
    · rw [q4]; exact Nat.le_refl _
  have lt2 : lv (hvM (hoL fr n M (nx M from_)) j1 from_ fr) (wl to_) = true := by rw [lv2 _ (nj1 _ lt)]; exact lt
  have ot2 : ow (hvM (hoL fr n M (nx M from_)) j1 from_ fr) (tw to_) = ow M (tw to_) := by rw [ow2 _ (by rw [wl_tw]; exact nj1 _ lt), o2]
  refine cl_mono (x_halve S R2 to_ fr j2 lt2 (fun z => z) f2 (by rw [ot2]; exact Nat.lt_of_lt_of_le st (sd2 _))) ?_
  rintro r μ3 ⟨rfl, R3, F3⟩
  have d2 : lv (hvM (hoL fr n M (nx M from_)) j1 from_ fr) j2 = false := by
    obtain ⟨g1, -, -, -⟩ := fd_some f2
    rw [wI_val] at g1
    simpa using g1
  have j12 : j1 ≠ j2 := fun e => by rw [← e, lv2j] at d2; cases d2
  have d2M : lv M j2 = false := by rw [lv2 _ (Ne.symm j12)] at d2; exact d2
  have nj2 : ∀ k, lv M (wl k) = true → wl k ≠ j2 := fun k hk e => by rw [e, d2M] at hk; cases hk
  have e3 : hvM (hvM (hoL fr n M (nx M from_)) j1 from_ fr) j2 to_ fr = spA M from_ to_ c fr j1 j2 n := rfl
  rw [e3] at R3
  have lv3 : ∀ w, w ≠ j1 → w ≠ j2 → lv (spA M from_ to_ c fr j1 j2 n) w = lv M w := fun w h1 h2 => (fu_n _ _ h2).trans (lv2 w h1)
  have lf3 : lv (spA M from_ to_ c fr j1 j2 n) (wl (tw from_)) = true := by rw [wl_tw, lv3 _ (nj1 _ lf) (nj2 _ lf)]; exact lf
  have lt3 : lv (spA M from_ to_ c fr j1 j2 n) (wl (tw to_)) = true := by rw [wl_tw, lv3 _ (nj1 _ lt) (nj2 _ lt)]; exact lt
  have sd3c : sd (spA M from_ to_ c fr j1 j2 n) c = sd M c := by
    refine (fu_n _ _ ?_).trans ((fu_n _ _ ?_).trans (show sd (hoL fr n M (nx M from_)) c = sd M c by rw [q4]))
    · rw [ot2]; exact Ne.symm nt
    · rw [o1]; exact Ne.symm nf
  have sd3f : sd (spA M from_ to_ c fr j1 j2 n) fr = 0 := by
    refine (fu_n _ _ ?_).trans ((fu_n _ _ ?_).trans (show sd (hoL fr n M (nx M from_)) fr = 0 by rw [q4]; exact sfr))
    · rw [ot2]; intro e; rw [← e, sfr] at st; omega
    · rw [o1]; intro e; rw [← e, sfr] at sf; omega
  have eM : spM M from_ to_ c fr j1 j2 j3 n = spE (if n = 0 then lkM (spC (spB (spA M from_ to_ c fr j1 j2 n) from_ to_ j1 j2) from_ to_ c fr j1 j2 j3) (h0 j1) (h0 j2) else lkM (lkM (spC (spB (spA M from_ to_ c fr j1 j2 n) from_ to_ j1 j2) from_ to_ c fr j1 j2 j3) (h0 j1) (nx M from_)) (pv M to_) (h0 j2)) c fr n := by
    unfold spM spD
    rfl
  rw [eM]
  generalize spA M from_ to_ c fr j1 j2 n = M3 at R3 lf3 lt3 sd3c sd3f f3 ⊢
  simp only [mm_rc_some]
  exact c_split_mid S R3 (F1.trans (F2.trans F3)) n (sd M c) hn (B c) sd3c sd3f cne lf3 lt3 f3 (nj1 _ lf) (nj2 _ lf) (nj1 _ lt) (nj2 _ lt)
end CM12
