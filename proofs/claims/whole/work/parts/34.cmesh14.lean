theorem it_last {α : Type} (g : Nat → α → α) : ∀ (d i : Nat) (a : α), it g (d + 1) i a = g (i + d) (it g d i a)
  | 0, _, _ => rfl
  | d + 1, i, a => by
    show it g (d + 1) (i + 1) (g i a) = g (i + (d + 1)) (it g d (i + 1) (g i a))
    rw [it_last g d (i + 1) (g i a), show i + 1 + d = i + (d + 1) by omega]
theorem it_last0 {α : Type} (g : Nat → α → α) (d : Nat) (a : α) : it g (d + 1) 0 a = g d (it g d 0 a) := by
  rw [it_last, Nat.zero_add]
/-- one side of a cell is laid -/
def lyS (w h x y i : Nat) (A : Ra) : Ra :=
  (upd A.1 (hr w h x y i) (nI (x + w * y)), upd A.2.1 (hr w h x y ((i + 5) % 6)) (nI (hr w h x y i)), upd A.2.2.1 (hr w h x y i) (nI (hr w h x y ((i + 5) % 6))),
    if i < 3 then upd (upd A.2.2.2.1 (hr w h x y i) (ovx w x i)) (hr w h x y i + 1) (-(ovx w x i)) else A.2.2.2.1,
    if i < 3 then upd (upd A.2.2.2.2.1 (hr w h x y i) (ovy h y i)) (hr w h x y i + 1) (-(ovy h y i)) else A.2.2.2.2.1,
    if i < 3 then upd A.2.2.2.2.2.1 (hr w h x y i / 2) (nI 10) else A.2.2.2.2.2.1, A.2.2.2.2.2.2)
def lyA (c : Nat) (A : Ra) : Ra := (A.1, A.2.1, A.2.2.1, A.2.2.2.1, A.2.2.2.2.1, A.2.2.2.2.2.1, upd A.2.2.2.2.2.2.1 c (nI 6), upd A.2.2.2.2.2.2.2 c (nI 100))
def lyC (w h x y : Nat) (A : Ra) : Ra := it (fun i A => lyS w h x y i A) 6 0 (lyA (x + w * y) A)
def lyW (A : Ra) : Ra := it (fun i A => (upd A.1 i (-1), A.2)) 288 0 A
def lyV (A : Ra) : Ra := it (fun i A => (A.1, A.2.1, A.2.2.1, A.2.2.2.1, A.2.2.2.2.1, A.2.2.2.2.2.1, upd A.2.2.2.2.2.2.1 i (nI 0), upd A.2.2.2.2.2.2.2 i (nI 0))) 48 0 A
def lyR (w h : Nat) (A : Ra) : Ra := it (fun y A => it (fun x A => lyC w h x y A) w 0 A) h 0 A
section CM14
variable {sh : mm_Sh} {b : Nat} {μ : mm_U} {A : Ra}
theorem hr_even {w h x y i : Nat} (hi : i < 3) : hr w h x y i % 2 = 0 := by
  unfold hr
  rw [if_pos hi]
  omega
theorem c_layCell (S : MeshSh sh b) (R : Hd μ b A) {w h x y : Nat} (hw : 3 ≤ w) (hw6 : w ≤ 6) (hh : 3 ≤ h) (hh6 : h ≤ 6) (hx : x < w) (hy : y < h) : cl sh zX2_layCell [.ref b, .int (nI x), .int (nI y), .int (nI w), .int (nI h)] μ (fun r μ' => r = none ∧ Hd μ' b (lyC w h x y A) ∧ Fr μ μ' b) := by
  have e1 := xy_lt hx hy hw6 hh6
  have E0 : ∀ i, i < 6 → ∀ μ' Q', cl sh zX2_halfOnRing [.int (nI x), .int (nI y), .int (nI i), .int (nI w), .int (nI h)] μ' Q' = Q' (some (.int (nI (hr w h x y i)))) μ' := fun i hi μ' Q' => c_halfOnRing hw hw6 hh hh6 hx hy hi
  have E5 := E0 5 (by omega)
  have R1 := R.w7 (upd A.2.2.2.2.2.2.1 (x + w * y) (nI 6))
  have R2 := R1.w8 (upd A.2.2.2.2.2.2.2 (x + w * y) (nI 100))
  have F2 : Fr μ (mu (mu μ (b + 7) (upd A.2.2.2.2.2.2.1 (x + w * y) (nI 6))) (b + 8) (upd A.2.2.2.2.2.2.2 (x + w * y) (nI 100))) b := ((Fr.refl μ b).mu _ (by omega) (by omega)).mu _ (by omega) (by omega)
  have r7 := R.2.2.2.2.2.2.1
  have r8 := R1.2.2.2.2.2.2.2
  show wp sh zX2_layCell 0 [.ref b, .int (nI x), .int (nI y), .int (nI w), .int (nI h), .null, .null, .null, .null] [] μ _
  simp (disch := first | omega | assumption) only [wp_il1 (y := zX2_layCell) dX2_layCell_0, wp_il3 (y := zX2_layCell) dX2_layCell_1, wp_il2 (y := zX2_layCell) dX2_layCell_2, wp_imul (y := zX2_layCell) dX2_layCell_3, wp_iadd (y := zX2_layCell) dX2_layCell_4, wp_is5 (y := zX2_layCell) dX2_layCell_5, wp_al0 (y := zX2_layCell) dX2_layCell_7, wp_getf (y := zX2_layCell) kF2_30 dX2_layCell_8, wp_il5 (y := zX2_layCell) dX2_layCell_11, wp_bipush (y := zX2_layCell) (nI 6) kb_6 dX2_layCell_13, wp_iast (y := zX2_layCell) dX2_layCell_15, wp_al0 (y := zX2_layCell) dX2_layCell_16, wp_getf (y := zX2_layCell) kF2_33 dX2_layCell_17, wp_il5 (y := zX2_layCell) dX2_layCell_20, wp_bipush (y := zX2_layCell) (nI 100) kb_100 dX2_layCell_22, wp_iast (y := zX2_layCell) dX2_layCell_24, wp_il1 (y := zX2_layCell) dX2_layCell_25, wp_il2 (y := zX2_layCell) dX2_layCell_26, wp_iconst (y := zX2_layCell) (nI 5) ki_5 dX2_layCell_27, wp_il3 (y := zX2_layCell) dX2_layCell_28, wp_il4 (y := zX2_layCell) dX2_layCell_29, wp_cs5 (y := zX2_layCell) kM2_46 (by decide) dX2_layCell_31, wp_is6 (y := zX2_layCell) dX2_layCell_34, wp_iconst (y := zX2_layCell) (nI 0) ki_0 dX2_layCell_36, wp_is7 (y := zX2_layCell) dX2_layCell_37, mm_op_some, true_and, and_true, mm_rc_some, mm_rc_none, nI_xor, tw_xor, pk_mul, nI_add, mm_in_t, nI_clamp, ok0, ok1, ok2, ok3, ok4, n1_0, n0_0, n0_zz, n1_zz, bI_eq0, bI_ne0, bI_zz, nI_le_, nI_lt_, nI_eq_, nI_lt0, nI_ge0, nI_gt0, nI_le0, nI_eq0, m1_lt0, m1_ge0, if_true, if_false, not_true, not_false_eq_true, Classical.not_not, true_or, or_true, false_or, n1_1, k10, Bool.true_eq_false, Bool.false_eq_true, Nat.le_refl, and_self, and_false, false_and, or_self, or_false, hf_lt, ce_lt, wa_lt, hf_cl, ce_cl, wa_cl, ce_vv, hf_vv, wa_vv, i_irr, i_rfl, S.oc, S.g0, S.g1, S.g2, S.g3, S.g4, S.g5, S.g6, S.g7, S.a1, S.a2, S.a3, S.a4, S.a5, S.a6, S.a7, S.a8, E5, r7, r8]
  generalize mu (mu μ (b + 7) (upd A.2.2.2.2.2.2.1 (x + w * y) (nI 6))) (b + 8) (upd A.2.2.2.2.2.2.2 (x + w * y) (nI 100)) = μ2 at R2 F2 ⊢
  refine lpI 6 (fun i (a : mm_U × Value) => wp sh zX2_layCell 39 [.ref b, .int (nI x), .int (nI y), .int (nI w), .int (nI h), .int (nI (x + w * y)), .int (nI (hr w h x y ((i + 5) % 6))), .int (nI i), a.2] [] a.1 (fun r μ' => r = none ∧ Hd μ' b (lyC w h x y A) ∧ Fr μ μ' b)) (fun i a => Hd a.1 b (it (fun i A => lyS w h x y i A) i 0 (lyA (x + w * y) A)) ∧ Fr μ a.1 b) ?_ ?_ (μ2, .null) ⟨R2, F2⟩
  · rintro i ⟨μ3, v8⟩ hi ⟨R3, F3⟩ kk
    replace kk := fun (μ' : mm_U) (v : Value) q => kk (μ', v) q
    dsimp only at R3 F3 kk ⊢
    rw [it_last0] at kk
    generalize it (fun i A => lyS w h x y i A) i 0 (lyA (x + w * y) A) = A3 at R3 kk
    have h9 : ¬ 6 ≤ i := by omega
    have Ei := E0 i hi
    have lH := hr_lt hw hw6 hh hh6 hx hy hi
    have lB := hr_lt hw hw6 hh hh6 hx hy (show (i + 5) % 6 < 6 by omega)
    have e6 : (i + 1 + 5) % 6 = i := by omega
    rw [e6] at kk
    have R4 := R3.w1 (upd A3.1 (hr w h x y i) (nI (x + w * y)))
    have F4 : Fr μ (mu μ3 (b + 1) (upd A3.1 (hr w h x y i) (nI (x + w * y)))) b := F3.mu _ (by omega) (by omega)
    have r1 := R3.1
    rw [wp_il7 (y := zX2_layCell) dX2_layCell_39]
    simp (disch := first | omega | assumption) only [wp_bipush (y := zX2_layCell) (nI 6) kb_6 dX2_layCell_41, wp_icmp_ge (y := zX2_layCell) 133 (by decide) dX2_layCell_43, wp_il1 (y := zX2_layCell) dX2_layCell_46, wp_il2 (y := zX2_layCell) dX2_layCell_47, wp_il7 (y := zX2_layCell) dX2_layCell_48, wp_il3 (y := zX2_layCell) dX2_layCell_50, wp_il4 (y := zX2_layCell) dX2_layCell_51, wp_cs5 (y := zX2_layCell) kM2_46 (by decide) dX2_layCell_53, wp_is8 (y := zX2_layCell) dX2_layCell_56, wp_al0 (y := zX2_layCell) dX2_layCell_58, wp_getf (y := zX2_layCell) kF2_9 dX2_layCell_59, wp_il8 (y := zX2_layCell) dX2_layCell_62, wp_il5 (y := zX2_layCell) dX2_layCell_64, wp_iast (y := zX2_layCell) dX2_layCell_66, wp_al0 (y := zX2_layCell) dX2_layCell_67, wp_il6 (y := zX2_layCell) dX2_layCell_68, wp_il8 (y := zX2_layCell) dX2_layCell_70, wp_cv2 (y := zX2_layCell) kM2_50 (by decide) dX2_layCell_72, (show yo zX2_link = 2 from rfl), mm_op_some, true_and, and_true, mm_rc_some, mm_rc_none, nI_xor, tw_xor, pk_mul, nI_add, mm_in_t, nI_clamp, ok0, ok1, ok2, ok3, ok4, n1_0, n0_0, n0_zz, n1_zz, bI_eq0, bI_ne0, bI_zz, nI_le_, nI_lt_, nI_eq_, nI_lt0, nI_ge0, nI_gt0, nI_le0, nI_eq0, m1_lt0, m1_ge0, if_true, if_false, not_true, not_false_eq_true, Classical.not_not, true_or, or_true, false_or, n1_1, k10, Bool.true_eq_false, Bool.false_eq_true, Nat.le_refl, and_self, and_false, false_and, or_self, or_false, hf_lt, ce_lt, wa_lt, hf_cl, ce_cl, wa_cl, ce_vv, hf_vv, wa_vv, i_irr, i_rfl, S.oc, S.g0, S.g1, S.g2, S.g3, S.g4, S.g5, S.g6, S.g7, S.a1, S.a2, S.a3, S.a4, S.a5, S.a6, S.a7, S.a8, Ei, r1, h9]
    refine cl_mono (r_link S R4 ⟨hr w h x y ((i + 5) % 6), lB⟩ ⟨hr w h x y i, lH⟩) ?_
    rintro r μ5 ⟨rfl, R5, F5⟩
    have F5' := F4.trans F5
    by_cases h3 : i < 3
    · have h4 : (3 ≤ i) = False := eq_false (by omega)
      have O1 : ∀ μ' Q', cl sh zX2_over [.int (nI x + mm_toX i), .int (nI w)] μ' Q' = Q' (some (.int (ovx w x i))) μ' := fun μ' Q' => c_over _ _
      have O2 : ∀ μ' Q', cl sh zX2_over [.int (nI y + mm_toY i), .int (nI h)] μ' Q' = Q' (some (.int (ovy h y i))) μ' := fun μ' Q' => c_over _ _
      simp (disch := first | omega | assumption) only [wp_il8 (y := zX2_layCell) dX2_layCell_75, wp_is6 (y := zX2_layCell) dX2_layCell_77, wp_il7 (y := zX2_layCell) dX2_layCell_79, wp_iconst (y := zX2_layCell) (nI 3) ki_3 dX2_layCell_81, wp_icmp_ge (y := zX2_layCell) 127 (by decide) dX2_layCell_82, wp_al0 (y := zX2_layCell) dX2_layCell_85, wp_il8 (y := zX2_layCell) dX2_layCell_86, wp_il1 (y := zX2_layCell) dX2_layCell_88, wp_gets (y := zX2_layCell) kS2_54 (by decide) dX2_layCell_89, wp_il7 (y := zX2_layCell) dX2_layCell_92, wp_iald (y := zX2_layCell) dX2_layCell_94, wp_ialdS0 (y := zX2_layCell) dX2_layCell_94, wp_ialdS1 (y := zX2_layCell) dX2_layCell_94, wp_iadd (y := zX2_layCell) dX2_layCell_95, wp_il3 (y := zX2_layCell) dX2_layCell_96, wp_cs2 (y := zX2_layCell) kM2_57 (by decide) dX2_layCell_97, wp_il2 (y := zX2_layCell) dX2_layCell_100, wp_gets (y := zX2_layCell) kS2_61 (by decide) dX2_layCell_101, wp_il7 (y := zX2_layCell) dX2_layCell_104, wp_iald (y := zX2_layCell) dX2_layCell_106, wp_ialdS0 (y := zX2_layCell) dX2_layCell_106, wp_ialdS1 (y := zX2_layCell) dX2_layCell_106, wp_iadd (y := zX2_layCell) dX2_layCell_107, wp_il4 (y := zX2_layCell) dX2_layCell_108, wp_cs2 (y := zX2_layCell) kM2_57 (by decide) dX2_layCell_110, wp_cv3 (y := zX2_layCell) kM2_64 (by decide) dX2_layCell_113, (show yo zX2_setRound = 2 from rfl), mm_op_some, true_and, and_true, mm_rc_some, mm_rc_none, nI_xor, tw_xor, pk_mul, nI_add, mm_in_t, nI_clamp, ok0, ok1, ok2, ok3, ok4, n1_0, n0_0, n0_zz, n1_zz, bI_eq0, bI_ne0, bI_zz, nI_le_, nI_lt_, nI_eq_, nI_lt0, nI_ge0, nI_gt0, nI_le0, nI_eq0, m1_lt0, m1_ge0, if_true, if_false, not_true, not_false_eq_true, Classical.not_not, true_or, or_true, false_or, n1_1, k10, Bool.true_eq_false, Bool.false_eq_true, Nat.le_refl, and_self, and_false, false_and, or_self, or_false, hf_lt, ce_lt, wa_lt, hf_cl, ce_cl, wa_cl, ce_vv, hf_vv, wa_vv, i_irr, i_rfl, S.oc, S.g0, S.g1, S.g2, S.g3, S.g4, S.g5, S.g6, S.g7, S.a1, S.a2, S.a3, S.a4, S.a5, S.a6, S.a7, S.a8, h4, O1, O2]
      refine cl_mono (r_setRound S R5 ⟨hr w h x y i, lH⟩ (ovx w x i) (ovy h y i)) ?_
      rintro r μ6 ⟨rfl, R6, F6⟩
      have te : (tw ⟨hr w h x y i, lH⟩).val = hr w h x y i + 1 := by rw [tw_val]; exact if_pos (hr_even h3)
      rw [te] at R6
      have wd : nI (hr w h x y i) / nI 2 = nI (hr w h x y i / 2) := wl_div ⟨hr w h x y i, lH⟩
      have k2 : ¬ nI 2 = 0 := by decide
      have r6 := R6.2.2.2.2.2.1
      have R7 := R6.w6 (upd A3.2.2.2.2.2.1 (hr w h x y i / 2) (nI 10))
      simp (disch := first | omega | assumption) only [wp_al0 (y := zX2_layCell) dX2_layCell_116, wp_getf (y := zX2_layCell) kF2_27 dX2_layCell_117, wp_il8 (y := zX2_layCell) dX2_layCell_120, wp_iconst (y := zX2_layCell) (nI 2) ki_2 dX2_layCell_122, wp_idiv' (y := zX2_layCell) dX2_layCell_123, wp_bipush (y := zX2_layCell) (nI 10) kb_10 dX2_layCell_124, wp_iast (y := zX2_layCell) dX2_layCell_126, wp_inc7 (y := zX2_layCell) (nI 1) ki_1 dX2_layCell_127, wp_goto (y := zX2_layCell) 39 (by decide) dX2_layCell_130, mm_op_some, true_and, and_true, mm_rc_some, mm_rc_none, nI_xor, tw_xor, pk_mul, nI_add, mm_in_t, nI_clamp, ok0, ok1, ok2, ok3, ok4, n1_0, n0_0, n0_zz, n1_zz, bI_eq0, bI_ne0, bI_zz, nI_le_, nI_lt_, nI_eq_, nI_lt0, nI_ge0, nI_gt0, nI_le0, nI_eq0, m1_lt0, m1_ge0, if_true, if_false, not_true, not_false_eq_true, Classical.not_not, true_or, or_true, false_or, n1_1, k10, Bool.true_eq_false, Bool.false_eq_true, Nat.le_refl, and_self, and_false, false_and, or_self, or_false, hf_lt, ce_lt, wa_lt, hf_cl, ce_cl, wa_cl, ce_vv, hf_vv, wa_vv, i_irr, i_rfl, S.oc, S.g0, S.g1, S.g2, S.g3, S.g4, S.g5, S.g6, S.g7, S.a1, S.a2, S.a3, S.a4, S.a5, S.a6, S.a7, S.a8, wd, k2, r6]
      refine kk _ _ ⟨?_, (F5'.trans F6).mu _ (by omega) (by omega)⟩
      unfold lyS
      rw [if_pos h3, if_pos h3, if_pos h3]
      exact R7
    · have h4 : (3 ≤ i) = True := eq_true (by omega)
      simp (disch := first | omega | assumption) only [wp_il8 (y := zX2_layCell) dX2_layCell_75, wp_is6 (y := zX2_layCell) dX2_layCell_77, wp_il7 (y := zX2_layCell) dX2_layCell_79, wp_iconst (y := zX2_layCell) (nI 3) ki_3 dX2_layCell_81, wp_icmp_ge (y := zX2_layCell) 127 (by decide) dX2_layCell_82, wp_inc7 (y := zX2_layCell) (nI 1) ki_1 dX2_layCell_127, wp_goto (y := zX2_layCell) 39 (by decide) dX2_layCell_130, mm_op_some, true_and, and_true, mm_rc_some, mm_rc_none, nI_xor, tw_xor, pk_mul, nI_add, mm_in_t, nI_clamp, ok0, ok1, ok2, ok3, ok4, n1_0, n0_0, n0_zz, n1_zz, bI_eq0, bI_ne0, bI_zz, nI_le_, nI_lt_, nI_eq_, nI_lt0, nI_ge0, nI_gt0, nI_le0, nI_eq0, m1_lt0, m1_ge0, if_true, if_false, not_true, not_false_eq_true, Classical.not_not, true_or, or_true, false_or, n1_1, k10, Bool.true_eq_false, Bool.false_eq_true, Nat.le_refl, and_self, and_false, false_and, or_self, or_false, hf_lt, ce_lt, wa_lt, hf_cl, ce_cl, wa_cl, ce_vv, hf_vv, wa_vv, i_irr, i_rfl, S.oc, S.g0, S.g1, S.g2, S.g3, S.g4, S.g5, S.g6, S.g7, S.a1, S.a2, S.a3, S.a4, S.a5, S.a6, S.a7, S.a8, h4]
      refine kk _ _ ⟨?_, F5'⟩
      unfold lyS
      rw [if_neg h3, if_neg h3, if_neg h3]
      exact R5
  · rintro ⟨μ3, v8⟩ ⟨R3, F3⟩
    dsimp only at R3 F3 ⊢
    rw [wp_il7 (y := zX2_layCell) dX2_layCell_39]
    simp (disch := first | omega | assumption) only [wp_bipush (y := zX2_layCell) (nI 6) kb_6 dX2_layCell_41, wp_icmp_ge (y := zX2_layCell) 133 (by decide) dX2_layCell_43, wp_vret (y := zX2_layCell) rfl dX2_layCell_133, mm_op_some, true_and, and_true, mm_rc_some, mm_rc_none, nI_xor, tw_xor, pk_mul, nI_add, mm_in_t, nI_clamp, ok0, ok1, ok2, ok3, ok4, n1_0, n0_0, n0_zz, n1_zz, bI_eq0, bI_ne0, bI_zz, nI_le_, nI_lt_, nI_eq_, nI_lt0, nI_ge0, nI_gt0, nI_le0, nI_eq0, m1_lt0, m1_ge0, if_true, if_false, not_true, not_false_eq_true, Classical.not_not, true_or, or_true, false_or, n1_1, k10, Bool.true_eq_false, Bool.false_eq_true, Nat.le_refl, and_self, and_false, false_and, or_self, or_false, hf_lt, ce_lt, wa_lt, hf_cl, ce_cl, wa_cl, ce_vv, hf_vv, wa_vv, i_irr, i_rfl, S.oc, S.g0, S.g1, S.g2, S.g3, S.g4, S.g5, S.g6, S.g7, S.a1, S.a2, S.a3, S.a4, S.a5, S.a6, S.a7, S.a8]
    exact ⟨R3, F3⟩
theorem c_layRing (S : MeshSh sh b) (R : Hd μ b A) {w h : Nat} (hw : 3 ≤ w) (hw6 : w ≤ 6) (hh : 3 ≤ h) (hh6 : h ≤ 6) : cl sh zX2_layRing [.ref b, .int (nI w), .int (nI h)] μ (fun r μ' => r = none ∧ Hd μ' b (lyR w h (lyV (lyW A))) ∧ Fr μ μ' b) := by
  show wp sh zX2_layRing 0 [.ref b, .int (nI w), .int (nI h), .null, .null] [] μ _
  simp (disch := first | omega | assumption) only [wp_iconst (y := zX2_layRing) (nI 0) ki_0 dX2_layRing_0, wp_is3 (y := zX2_layRing) dX2_layRing_1]
  refine lpI 288 (fun i μ1 => wp sh zX2_layRing 2 [.ref b, .int (nI w), .int (nI h), .int (nI i), .null] [] μ1 (fun r μ' => r = none ∧ Hd μ' b (lyR w h (lyV (lyW A))) ∧ Fr μ μ' b)) (fun i μ1 => Hd μ1 b (it (fun i A => (upd A.1 i (-1), A.2)) i 0 A) ∧ Fr μ μ1 b) ?_ ?_ μ ⟨R, Fr.refl _ _⟩
  · rintro i μ1 hi ⟨R1, F1⟩ kk
    rw [it_last0] at kk
    generalize it (fun i (A : Ra) => (upd A.1 i (-1), A.2)) i 0 A = A1 at R1 kk
    have h9 : ¬ 288 ≤ i := by omega
    have r1 := R1.1
    rw [wp_il3 (y := zX2_layRing) dX2_layRing_2]
    simp (disch := first | omega | assumption) only [wp_sipush (y := zX2_layRing) (nI 288) ks_288 dX2_layRing_3, wp_icmp_ge (y := zX2_layRing) 22 (by decide) dX2_layRing_6, wp_al0 (y := zX2_layRing) dX2_layRing_9, wp_getf (y := zX2_layRing) kF2_9 dX2_layRing_10, wp_il3 (y := zX2_layRing) dX2_layRing_13, wp_iconst (y := zX2_layRing) ((-1)) ki_m1 dX2_layRing_14, wp_iast (y := zX2_layRing) dX2_layRing_15, wp_inc3 (y := zX2_layRing) (nI 1) ki_1 dX2_layRing_16, wp_goto (y := zX2_layRing) 2 (by decide) dX2_layRing_19, mm_op_some, true_and, and_true, mm_rc_some, mm_rc_none, nI_xor, tw_xor, pk_mul, nI_add, mm_in_t, nI_clamp, ok0, ok1, ok2, ok3, ok4, n1_0, n0_0, n0_zz, n1_zz, bI_eq0, bI_ne0, bI_zz, nI_le_, nI_lt_, nI_eq_, nI_lt0, nI_ge0, nI_gt0, nI_le0, nI_eq0, m1_lt0, m1_ge0, if_true, if_false, not_true, not_false_eq_true, Classical.not_not, true_or, or_true, false_or, n1_1, k10, Bool.true_eq_false, Bool.false_eq_true, Nat.le_refl, and_self, and_false, false_and, or_self, or_false, hf_lt, ce_lt, wa_lt, hf_cl, ce_cl, wa_cl, ce_vv, hf_vv, wa_vv, i_irr, i_rfl, S.oc, S.g0, S.g1, S.g2, S.g3, S.g4, S.g5, S.g6, S.g7, S.a1, S.a2, S.a3, S.a4, S.a5, S.a6, S.a7, S.a8, r1, h9]
    exact kk _ ⟨R1.w1 _, F1.mu _ (by omega) (by omega)⟩
  rintro μ1 ⟨R1, F1⟩
  rw [wp_il3 (y := zX2_layRing) dX2_layRing_2]
  simp (disch := first | omega | assumption) only [wp_sipush (y := zX2_layRing) (nI 288) ks_288 dX2_layRing_3, wp_icmp_ge (y := zX2_layRing) 22 (by decide) dX2_layRing_6, wp_iconst (y := zX2_layRing) (nI 0) ki_0 dX2_layRing_22, wp_is3 (y := zX2_layRing) dX2_layRing_23, mm_op_some, true_and, and_true, mm_rc_some, mm_rc_none, nI_xor, tw_xor, pk_mul, nI_add, mm_in_t, nI_clamp, ok0, ok1, ok2, ok3, ok4, n1_0, n0_0, n0_zz, n1_zz, bI_eq0, bI_ne0, bI_zz, nI_le_, nI_lt_, nI_eq_, nI_lt0, nI_ge0, nI_gt0, nI_le0, nI_eq0, m1_lt0, m1_ge0, if_true, if_false, not_true, not_false_eq_true, Classical.not_not, true_or, or_true, false_or, n1_1, k10, Bool.true_eq_false, Bool.false_eq_true, Nat.le_refl, and_self, and_false, false_and, or_self, or_false, hf_lt, ce_lt, wa_lt, hf_cl, ce_cl, wa_cl, ce_vv, hf_vv, wa_vv, i_irr, i_rfl, S.oc, S.g0, S.g1, S.g2, S.g3, S.g4, S.g5, S.g6, S.g7, S.a1, S.a2, S.a3, S.a4, S.a5, S.a6, S.a7, S.a8]
  have e0 : it (fun i (A : Ra) => (upd A.1 i (-1), A.2)) 288 0 A = lyW A := rfl
  rw [e0] at R1
  generalize lyW A = A1 at R1 ⊢
  refine lpI 48 (fun i μ1 => wp sh zX2_layRing 24 [.ref b, .int (nI w), .int (nI h), .int (nI i), .null] [] μ1 (fun r μ' => r = none ∧ Hd μ' b (lyR w h (lyV A1)) ∧ Fr μ μ' b)) (fun i μ2 => Hd μ2 b (it (fun i A => (A.1, A.2.1, A.2.2.1, A.2.2.2.1, A.2.2.2.2.1, A.2.2.2.2.2.1, upd A.2.2.2.2.2.2.1 i (nI 0), upd A.2.2.2.2.2.2.2 i (nI 0))) i 0 A1) ∧ Fr μ μ2 b) ?_ ?_ μ1 ⟨R1, F1⟩
  · rintro i μ2 hi ⟨R2, F2⟩ kk
    rw [it_last0] at kk
    generalize it (fun i (A : Ra) => (A.1, A.2.1, A.2.2.1, A.2.2.2.1, A.2.2.2.2.1, A.2.2.2.2.2.1, upd A.2.2.2.2.2.2.1 i (nI 0), upd A.2.2.2.2.2.2.2 i (nI 0))) i 0 A1 = A2 at R2 kk
    have h9 : ¬ 48 ≤ i := by omega
    have r7 := R2.2.2.2.2.2.2.1
    have R3 := R2.w7 (upd A2.2.2.2.2.2.2.1 i (nI 0))
    have r8 := R3.2.2.2.2.2.2.2
    rw [wp_il3 (y := zX2_layRing) dX2_layRing_24]
    simp (disch := first | omega | assumption) only [wp_bipush (y := zX2_layRing) (nI 48) kb_48 dX2_layRing_25, wp_icmp_ge (y := zX2_layRing) 50 (by decide) dX2_layRing_27, wp_al0 (y := zX2_layRing) dX2_layRing_30, wp_getf (y := zX2_layRing) kF2_30 dX2_layRing_31, wp_il3 (y := zX2_layRing) dX2_layRing_34, wp_iconst (y := zX2_layRing) (nI 0) ki_0 dX2_layRing_35, wp_iast (y := zX2_layRing) dX2_layRing_36, wp_al0 (y := zX2_layRing) dX2_layRing_37, wp_getf (y := zX2_layRing) kF2_33 dX2_layRing_38, wp_il3 (y := zX2_layRing) dX2_layRing_41, wp_iconst (y := zX2_layRing) (nI 0) ki_0 dX2_layRing_42, wp_iast (y := zX2_layRing) dX2_layRing_43, wp_inc3 (y := zX2_layRing) (nI 1) ki_1 dX2_layRing_44, wp_goto (y := zX2_layRing) 24 (by decide) dX2_layRing_47, mm_op_some, true_and, and_true, mm_rc_some, mm_rc_none, nI_xor, tw_xor, pk_mul, nI_add, mm_in_t, nI_clamp, ok0, ok1, ok2, ok3, ok4, n1_0, n0_0, n0_zz, n1_zz, bI_eq0, bI_ne0, bI_zz, nI_le_, nI_lt_, nI_eq_, nI_lt0, nI_ge0, nI_gt0, nI_le0, nI_eq0, m1_lt0, m1_ge0, if_true, if_false, not_true, not_false_eq_true, Classical.not_not, true_or, or_true, false_or, n1_1, k10, Bool.true_eq_false, Bool.false_eq_true, Nat.le_refl, and_self, and_false, false_and, or_self, or_false, hf_lt, ce_lt, wa_lt, hf_cl, ce_cl, wa_cl, ce_vv, hf_vv, wa_vv, i_irr, i_rfl, S.oc, S.g0, S.g1, S.g2, S.g3, S.g4, S.g5, S.g6, S.g7, S.a1, S.a2, S.a3, S.a4, S.a5, S.a6, S.a7, S.a8, r7, r8, h9]
    exact kk _ ⟨R3.w8 _, (F2.mu _ (by omega) (by omega)).mu _ (by omega) (by omega)⟩
  rintro μ2 ⟨R2, F2⟩
  rw [wp_il3 (y := zX2_layRing) dX2_layRing_24]
  simp (disch := first | omega | assumption) only [wp_bipush (y := zX2_layRing) (nI 48) kb_48 dX2_layRing_25, wp_icmp_ge (y := zX2_layRing) 50 (by decide) dX2_layRing_27, wp_iconst (y := zX2_layRing) (nI 0) ki_0 dX2_layRing_50, wp_is3 (y := zX2_layRing) dX2_layRing_51, mm_op_some, true_and, and_true, mm_rc_some, mm_rc_none, nI_xor, tw_xor, pk_mul, nI_add, mm_in_t, nI_clamp, ok0, ok1, ok2, ok3, ok4, n1_0, n0_0, n0_zz, n1_zz, bI_eq0, bI_ne0, bI_zz, nI_le_, nI_lt_, nI_eq_, nI_lt0, nI_ge0, nI_gt0, nI_le0, nI_eq0, m1_lt0, m1_ge0, if_true, if_false, not_true, not_false_eq_true, Classical.not_not, true_or, or_true, false_or, n1_1, k10, Bool.true_eq_false, Bool.false_eq_true, Nat.le_refl, and_self, and_false, false_and, or_self, or_false, hf_lt, ce_lt, wa_lt, hf_cl, ce_cl, wa_cl, ce_vv, hf_vv, wa_vv, i_irr, i_rfl, S.oc, S.g0, S.g1, S.g2, S.g3, S.g4, S.g5, S.g6, S.g7, S.a1, S.a2, S.a3, S.a4, S.a5, S.a6, S.a7, S.a8]
  have e0 : it (fun i (A : Ra) => (A.1, A.2.1, A.2.2.1, A.2.2.2.1, A.2.2.2.2.1, A.2.2.2.2.2.1, upd A.2.2.2.2.2.2.1 i (nI 0), upd A.2.2.2.2.2.2.2 i (nI 0))) 48 0 A1 = lyV A1 := rfl
  rw [e0] at R2
  generalize lyV A1 = A2 at R2 ⊢
  refine lpI h (fun i (a : mm_U × Value) => wp sh zX2_layRing 52 [.ref b, .int (nI w), .int (nI h), .int (nI i), a.2] [] a.1 (fun r μ' => r = none ∧ Hd μ' b (lyR w h A2) ∧ Fr μ μ' b)) (fun i a => Hd a.1 b (it (fun y A => it (fun x A => lyC w h x y A) w 0 A) i 0 A2) ∧ Fr μ a.1 b) ?_ ?_ (μ2, .null) ⟨R2, F2⟩
  · rintro y ⟨μ3, v4⟩ hy ⟨R3, F3⟩ kk
    replace kk := fun (μ' : mm_U) (v : Value) q => kk (μ', v) q
    dsimp only at R3 F3 kk ⊢
    rw [it_last0] at kk
    generalize it (fun y A => it (fun x A => lyC w h x y A) w 0 A) y 0 A2 = A3 at R3 kk
    have h9 : ¬ h ≤ y := by omega
    rw [wp_il3 (y := zX2_layRing) dX2_layRing_52]
    simp (disch := first | omega | assumption) only [wp_il2 (y := zX2_layRing) dX2_layRing_53, wp_icmp_ge (y := zX2_layRing) 87 (by decide) dX2_layRing_54, wp_iconst (y := zX2_layRing) (nI 0) ki_0 dX2_layRing_57, wp_is4 (y := zX2_layRing) dX2_layRing_58, mm_op_some, true_and, and_true, mm_rc_some, mm_rc_none, nI_xor, tw_xor, pk_mul, nI_add, mm_in_t, nI_clamp, ok0, ok1, ok2, ok3, ok4, n1_0, n0_0, n0_zz, n1_zz, bI_eq0, bI_ne0, bI_zz, nI_le_, nI_lt_, nI_eq_, nI_lt0, nI_ge0, nI_gt0, nI_le0, nI_eq0, m1_lt0, m1_ge0, if_true, if_false, not_true, not_false_eq_true, Classical.not_not, true_or, or_true, false_or, n1_1, k10, Bool.true_eq_false, Bool.false_eq_true, Nat.le_refl, and_self, and_false, false_and, or_self, or_false, hf_lt, ce_lt, wa_lt, hf_cl, ce_cl, wa_cl, ce_vv, hf_vv, wa_vv, i_irr, i_rfl, S.oc, S.g0, S.g1, S.g2, S.g3, S.g4, S.g5, S.g6, S.g7, S.a1, S.a2, S.a3, S.a4, S.a5, S.a6, S.a7, S.a8, h9]
    refine lpI w (fun x μ4 => wp sh zX2_layRing 60 [.ref b, .int (nI w), .int (nI h), .int (nI y), .int (nI x)] [] μ4 (fun r μ' => r = none ∧ Hd μ' b (lyR w h A2) ∧ Fr μ μ' b)) (fun x μ4 => Hd μ4 b (it (fun x A => lyC w h x y A) x 0 A3) ∧ Fr μ μ4 b) ?_ ?_ μ3 ⟨R3, F3⟩
    · rintro x μ4 hx ⟨R4, F4⟩ kx
      rw [it_last0] at kx
      have h8 : ¬ w ≤ x := by omega
      rw [wp_il4 (y := zX2_layRing) dX2_layRing_60]
      simp (disch := first | omega | assumption) only [wp_il1 (y := zX2_layRing) dX2_layRing_62, wp_icmp_ge (y := zX2_layRing) 81 (by decide) dX2_layRing_63, wp_al0 (y := zX2_layRing) dX2_layRing_66, wp_il4 (y := zX2_layRing) dX2_layRing_67, wp_il3 (y := zX2_layRing) dX2_layRing_69, wp_il1 (y := zX2_layRing) dX2_layRing_70, wp_il2 (y := zX2_layRing) dX2_layRing_71, wp_cv4 (y := zX2_layRing) kM2_42 (by decide) dX2_layRing_72, (show yo zX2_layCell = 2 from rfl), mm_op_some, true_and, and_true, mm_rc_some, mm_rc_none, nI_xor, tw_xor, pk_mul, nI_add, mm_in_t, nI_clamp, ok0, ok1, ok2, ok3, ok4, n1_0, n0_0, n0_zz, n1_zz, bI_eq0, bI_ne0, bI_zz, nI_le_, nI_lt_, nI_eq_, nI_lt0, nI_ge0, nI_gt0, nI_le0, nI_eq0, m1_lt0, m1_ge0, if_true, if_false, not_true, not_false_eq_true, Classical.not_not, true_or, or_true, false_or, n1_1, k10, Bool.true_eq_false, Bool.false_eq_true, Nat.le_refl, and_self, and_false, false_and, or_self, or_false, hf_lt, ce_lt, wa_lt, hf_cl, ce_cl, wa_cl, ce_vv, hf_vv, wa_vv, i_irr, i_rfl, S.oc, S.g0, S.g1, S.g2, S.g3, S.g4, S.g5, S.g6, S.g7, S.a1, S.a2, S.a3, S.a4, S.a5, S.a6, S.a7, S.a8, h8]
      refine cl_mono (c_layCell S R4 hw hw6 hh hh6 hx hy) ?_
      rintro r μ5 ⟨rfl, R5, F5⟩
      simp (disch := first | omega | assumption) only [wp_inc4 (y := zX2_layRing) (nI 1) ki_1 dX2_layRing_75, wp_goto (y := zX2_layRing) 60 (by decide) dX2_layRing_78, mm_op_some, true_and, and_true, mm_rc_some, mm_rc_none, nI_xor, tw_xor, pk_mul, nI_add, mm_in_t, nI_clamp, ok0, ok1, ok2, ok3, ok4, n1_0, n0_0, n0_zz, n1_zz, bI_eq0, bI_ne0, bI_zz, nI_le_, nI_lt_, nI_eq_, nI_lt0, nI_ge0, nI_gt0, nI_le0, nI_eq0, m1_lt0, m1_ge0, if_true, if_false, not_true, not_false_eq_true, Classical.not_not, true_or, or_true, false_or, n1_1, k10, Bool.true_eq_false, Bool.false_eq_true, Nat.le_refl, and_self, and_false, false_and, or_self, or_false, hf_lt, ce_lt, wa_lt, hf_cl, ce_cl, wa_cl, ce_vv, hf_vv, wa_vv, i_irr, i_rfl, S.oc, S.g0, S.g1, S.g2, S.g3, S.g4, S.g5, S.g6, S.g7, S.a1, S.a2, S.a3, S.a4, S.a5, S.a6, S.a7, S.a8]
      exact kx _ ⟨R5, F4.trans F5⟩
    · rintro μ4 ⟨R4, F4⟩
      rw [wp_il4 (y := zX2_layRing) dX2_layRing_60]
      simp (disch := first | omega | assumption) only [wp_il1 (y := zX2_layRing) dX2_layRing_62, wp_icmp_ge (y := zX2_layRing) 81 (by decide) dX2_layRing_63, wp_inc3 (y := zX2_layRing) (nI 1) ki_1 dX2_layRing_81, wp_goto (y := zX2_layRing) 52 (by decide) dX2_layRing_84, mm_op_some, true_and, and_true, mm_rc_some, mm_rc_none, nI_xor, tw_xor, pk_mul, nI_add, mm_in_t, nI_clamp, ok0, ok1, ok2, ok3, ok4, n1_0, n0_0, n0_zz, n1_zz, bI_eq0, bI_ne0, bI_zz, nI_le_, nI_lt_, nI_eq_, nI_lt0, nI_ge0, nI_gt0, nI_le0, nI_eq0, m1_lt0, m1_ge0, if_true, if_false, not_true, not_false_eq_true, Classical.not_not, true_or, or_true, false_or, n1_1, k10, Bool.true_eq_false, Bool.false_eq_true, Nat.le_refl, and_self, and_false, false_and, or_self, or_false, hf_lt, ce_lt, wa_lt, hf_cl, ce_cl, wa_cl, ce_vv, hf_vv, wa_vv, i_irr, i_rfl, S.oc, S.g0, S.g1, S.g2, S.g3, S.g4, S.g5, S.g6, S.g7, S.a1, S.a2, S.a3, S.a4, S.a5, S.a6, S.a7, S.a8]
      exact kk _ _ ⟨R4, F4⟩
  · rintro ⟨μ3, v4⟩ ⟨R3, F3⟩
    dsimp only at R3 F3 ⊢
    rw [wp_il3 (y := zX2_layRing) dX2_layRing_52]
    simp (disch := first | omega | assumption) only [wp_il2 (y := zX2_layRing) dX2_layRing_53, wp_icmp_ge (y := zX2_layRing) 87 (by decide) dX2_layRing_54, wp_vret (y := zX2_layRing) rfl dX2_layRing_87, mm_op_some, true_and, and_true, mm_rc_some, mm_rc_none, nI_xor, tw_xor, pk_mul, nI_add, mm_in_t, nI_clamp, ok0, ok1, ok2, ok3, ok4, n1_0, n0_0, n0_zz, n1_zz, bI_eq0, bI_ne0, bI_zz, nI_le_, nI_lt_, nI_eq_, nI_lt0, nI_ge0, nI_gt0, nI_le0, nI_eq0, m1_lt0, m1_ge0, if_true, if_false, not_true, not_false_eq_true, Classical.not_not, true_or, or_true, false_or, n1_1, k10, Bool.true_eq_false, Bool.false_eq_true, Nat.le_refl, and_self, and_false, false_and, or_self, or_false, hf_lt, ce_lt, wa_lt, hf_cl, ce_cl, wa_cl, ce_vv, hf_vv, wa_vv, i_irr, i_rfl, S.oc, S.g0, S.g1, S.g2, S.g3, S.g4, S.g5, S.g6, S.g7, S.a1, S.a2, S.a3, S.a4, S.a5, S.a6, S.a7, S.a8]
    exact ⟨R3, F3⟩
end CM14
