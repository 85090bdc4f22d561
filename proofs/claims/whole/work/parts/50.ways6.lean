/-- pieces so far: how far, how many, the largest's size, its least cell -/
abbrev Pc : Type := (Ce → Option Nat) × Int32 × Int32 × Int32
def gpN (M : Ms) (least : Int32) (i : Nat) (a : Pc) : Pc := ((spF M least (cI i) a.1).1, a.2.1 + nI 1, if a.2.2.1 < nI (spF M least (cI i) a.1).2.length then nI (spF M least (cI i) a.1).2.length else a.2.2.1, if a.2.2.1 < nI (spF M least (cI i) a.1).2.length then nI i else a.2.2.2)
def gpS (M : Ms) (least : Int32) (i : Nat) (a : Pc) : Pc := if 0 < sd M (cI i) then (if nI (sd M (cI i)) < least then a else (if a.1 (cI i) = none then gpN M least i a else a)) else a
def RepP (M : Ms) (a : Pc) (μ : mm_U) (w : Nat) : Prop := RepV M a.1 μ w ∧ μ w 5 = a.2.1 ∧ μ w 6 = a.2.2.1 ∧ μ w 7 = a.2.2.2
theorem RepW.cg {M : Ms} {d : Ce → Option Nat} {μ μ1 : mm_U} {w : Nat} (R : RepW M d μ w) (h1 : μ1 (w + 1) = μ (w + 1)) (h4 : μ1 (w + 4) = μ (w + 4)) : RepW M d μ1 w := ⟨fun c => by rw [h1]; exact R.1 c, fun c => by rw [h4]; exact R.2 c⟩
section WY6
variable {sh : mm_Sh} {w b : Nat} {μ : mm_U} {M : Ms} {d : Ce → Option Nat} {Q : Option Value → mm_U → Prop}
theorem c_gatherPieces (W : WaSh sh w) (S : MeshSh sh b) (R : RepC M μ b) (B : SdB M) (L : LvN M) (H : HasF M) (O : OwL M) (hd : w + 4 < b ∨ b + 8 < w) (least : Int32) : cl sh zX4_gatherPieces [.ref w, .ref b, .int least] μ (fun r μ' => r = none ∧ RepP M (it (gpS M least) 48 0 (fun _ => none, nI 0, nI 0, -1)) μ' w ∧ FrW μ μ' w) := by
  have Soc := S.oc
  show wp sh zX4_gatherPieces 0 [.ref w, .ref b, .int least, .null, .null] [] μ _
  simp (disch := first | omega | assumption) only [mm_op_some, true_and, and_true, mm_rc_some, mm_rc_none, nI_xor, tw_xor, pk_mul, nI_add, mm_in_t, nI_clamp, ok0, ok1, ok2, ok3, ok4, n1_0, n0_0, n0_zz, n1_zz, bI_eq0, bI_ne0, bI_zz, nI_le_, nI_lt_, nI_eq_, nI_lt0, nI_ge0, nI_gt0, nI_le0, nI_eq0, m1_lt0, m1_ge0, if_true, if_false, not_true, not_false_eq_true, Classical.not_not, true_or, or_true, false_or, n1_1, k10, Bool.true_eq_false, Bool.false_eq_true, Nat.le_refl, and_self, and_false, false_and, or_self, or_false, hf_lt, ce_lt, hf_cl, ce_cl, i_irr, i_rfl, wp_al0 (y := zX4_gatherPieces) dX4_gatherPieces_0, wp_al1 (y := zX4_gatherPieces) dX4_gatherPieces_1, wp_cv_r (y := zX4_gatherPieces) kM4_34 (by decide) dX4_gatherPieces_2, (show yo zX4_clearDistances = 4 from rfl), W.oc, W.g0, W.g1, W.g2, W.g3, W.g4, W.p4, W.a1, W.a2, W.a3, W.a4, Soc]
  refine cl_mono (c_clearDistances W S R B hd) ?_
  rintro r μ0 ⟨rfl, R0, F0⟩
  have key : ∀ μ9 v9, RepP M (fun _ => none, nI 0, nI 0, -1) μ9 w → FrW μ μ9 w → wp sh zX4_gatherPieces 22 [.ref w, .ref b, .int least, .int (nI 0), v9] [] μ9 (fun r μ' => r = none ∧ RepP M (it (gpS M least) 48 0 (fun _ => none, nI 0, nI 0, -1)) μ' w ∧ FrW μ μ' w) := by
    intro μ9 v9 R9 F9
    refine lpI 48 (fun i (a : mm_U × Value) => wp sh zX4_gatherPieces 22 [.ref w, .ref b, .int least, .int (nI i), a.2] [] a.1 (fun r μ' => r = none ∧ RepP M (it (gpS M least) 48 0 (fun _ => none, nI 0, nI 0, -1)) μ' w ∧ FrW μ μ' w)) (fun i a => RepP M (it (gpS M least) i 0 (fun _ => none, nI 0, nI 0, -1)) a.1 w ∧ FrW μ a.1 w) ?_ ?_ (μ9, v9) ⟨R9, F9⟩
    · rintro i ⟨μ1, v⟩ hi ⟨R1, F1⟩ kk
      replace kk := fun (μ' : mm_U) (v : Value) q => kk (μ', v) q
      dsimp only at R1 F1 kk ⊢
      rw [it_last0] at kk
      generalize it (gpS M least) i 0 (fun _ => none, nI 0, nI 0, -1) = a at R1 kk
      have Rm : RepC M μ1 b := R.cg (fun a h1 h2 => F1 a (by omega))
      have iv := cI_lt hi
      have h9 : (48 ≤ i) = False := eq_false (by omega)
      have bs := B (cI i)
      unfold gpS at kk
      rw [wp_il3 (y := zX4_gatherPieces) dX4_gatherPieces_22]
      by_cases hc : 0 < sd M (cI i)
      · rw [if_pos hc] at kk
        have E1 : ∀ Q', cl sh zX2_hasCell [.ref b, .int (nI i)] μ1 Q' = Q' (some (.int (nI 1))) μ1 := fun Q' => c_hasCell1 S Rm B hi hc
        have rs := Rm.sdv hi
        by_cases h1 : nI (sd M (cI i)) < least
        · rw [if_pos h1] at kk
          simp (disch := first | omega | assumption) only [mm_op_some, true_and, and_true, mm_rc_some, mm_rc_none, nI_xor, tw_xor, pk_mul, nI_add, mm_in_t, nI_clamp, ok0, ok1, ok2, ok3, ok4, n1_0, n0_0, n0_zz, n1_zz, bI_eq0, bI_ne0, bI_zz, nI_le_, nI_lt_, nI_eq_, nI_lt0, nI_ge0, nI_gt0, nI_le0, nI_eq0, m1_lt0, m1_ge0, if_true, if_false, not_true, not_false_eq_true, Classical.not_not, true_or, or_true, false_or, n1_1, k10, Bool.true_eq_false, Bool.false_eq_true, Nat.le_refl, and_self, and_false, false_and, or_self, or_false, hf_lt, ce_lt, hf_cl, ce_cl, i_irr, i_rfl, wp_bipush (y := zX4_gatherPieces) (nI 48) kb_48 dX4_gatherPieces_23, wp_icmp_ge (y := zX4_gatherPieces) 100 (by decide) dX4_gatherPieces_25, wp_al1 (y := zX4_gatherPieces) dX4_gatherPieces_28, wp_il3 (y := zX4_gatherPieces) dX4_gatherPieces_29, wp_cv1 (y := zX4_gatherPieces) kM4_24 (by decide) dX4_gatherPieces_30, (show yo zX2_hasCell = 2 from rfl), wp_if_eq (y := zX4_gatherPieces) 94 (by decide) dX4_gatherPieces_33, wp_al1 (y := zX4_gatherPieces) dX4_gatherPieces_36, wp_getf (y := zX4_gatherPieces) kF4_46 dX4_gatherPieces_37, wp_il3 (y := zX4_gatherPieces) dX4_gatherPieces_40, wp_iald (y := zX4_gatherPieces) dX4_gatherPieces_41, wp_il2 (y := zX4_gatherPieces) dX4_gatherPieces_42, wp_icmp_lt (y := zX4_gatherPieces) 94 (by decide) dX4_gatherPieces_43, wp_inc3 (y := zX4_gatherPieces) (nI 1) ki_1 dX4_gatherPieces_94, wp_goto (y := zX4_gatherPieces) 22 (by decide) dX4_gatherPieces_97, W.oc, W.g0, W.g1, W.g2, W.g3, W.g4, W.p4, W.a1, W.a2, W.a3, W.a4, S.oc, S.g0, S.g1, S.g2, S.g3, S.g4, S.g5, S.g6, S.g7, S.a1, S.a2, S.a3, S.a4, S.a5, S.a6, S.a7, S.a8, h9, E1, rs, h1]
          exact kk _ _ ⟨R1, F1⟩
        · rw [if_neg h1] at kk
          have rd : μ1 (w + 1) i = fo (a.1 (cI i)) := by
            have := R1.1.1.1 (cI i)
            rw [iv] at this
            exact this
          have eg := fo_ge0 (a.1 (cI i)) (fun j hj => by have := R1.1.2 _ j hj; omega)
          by_cases h2 : a.1 (cI i) = none
          · rw [if_pos h2] at kk
            have eg' : (0 ≤ fo (a.1 (cI i))) = False := by rw [eg]; exact eq_false (fun q => q h2)
            simp (disch := first | omega | assumption) only [mm_op_some, true_and, and_true, mm_rc_some, mm_rc_none, nI_xor, tw_xor, pk_mul, nI_add, mm_in_t, nI_clamp, ok0, ok1, ok2, ok3, ok4, n1_0, n0_0, n0_zz, n1_zz, bI_eq0, bI_ne0, bI_zz, nI_le_, nI_lt_, nI_eq_, nI_lt0, nI_ge0, nI_gt0, nI_le0, nI_eq0, m1_lt0, m1_ge0, if_true, if_false, not_true, not_false_eq_true, Classical.not_not, true_or, or_true, false_or, n1_1, k10, Bool.true_eq_false, Bool.false_eq_true, Nat.le_refl, and_self, and_false, false_and, or_self, or_false, hf_lt, ce_lt, hf_cl, ce_cl, i_irr, i_rfl, wp_bipush (y := zX4_gatherPieces) (nI 48) kb_48 dX4_gatherPieces_23, wp_icmp_ge (y := zX4_gatherPieces) 100 (by decide) dX4_gatherPieces_25, wp_al1 (y := zX4_gatherPieces) dX4_gatherPieces_28, wp_il3 (y := zX4_gatherPieces) dX4_gatherPieces_29, wp_cv1 (y := zX4_gatherPieces) kM4_24 (by decide) dX4_gatherPieces_30, (show yo zX2_hasCell = 2 from rfl), wp_if_eq (y := zX4_gatherPieces) 94 (by decide) dX4_gatherPieces_33, wp_al1 (y := zX4_gatherPieces) dX4_gatherPieces_36, wp_getf (y := zX4_gatherPieces) kF4_46 dX4_gatherPieces_37, wp_il3 (y := zX4_gatherPieces) dX4_gatherPieces_40, wp_iald (y := zX4_gatherPieces) dX4_gatherPieces_41, wp_il2 (y := zX4_gatherPieces) dX4_gatherPieces_42, wp_icmp_lt (y := zX4_gatherPieces) 94 (by decide) dX4_gatherPieces_43, wp_al0 (y := zX4_gatherPieces) dX4_gatherPieces_46, wp_getf (y := zX4_gatherPieces) kF4_9 dX4_gatherPieces_47, wp_il3 (y := zX4_gatherPieces) dX4_gatherPieces_50, wp_iald (y := zX4_gatherPieces) dX4_gatherPieces_51, wp_if_ge (y := zX4_gatherPieces) 94 (by decide) dX4_gatherPieces_52, wp_al0 (y := zX4_gatherPieces) dX4_gatherPieces_55, wp_al1 (y := zX4_gatherPieces) dX4_gatherPieces_56, wp_il3 (y := zX4_gatherPieces) dX4_gatherPieces_57, wp_il2 (y := zX4_gatherPieces) dX4_gatherPieces_58, wp_cv_rii (y := zX4_gatherPieces) kM4_38 (by decide) dX4_gatherPieces_59, (show yo zX4_spreadWithin = 4 from rfl), W.oc, W.g0, W.g1, W.g2, W.g3, W.g4, W.p4, W.a1, W.a2, W.a3, W.a4, S.oc, S.g0, S.g1, S.g2, S.g3, S.g4, S.g5, S.g6, S.g7, S.a1, S.a2, S.a3, S.a4, S.a5, S.a6, S.a7, S.a8, h9, E1, rs, h1, rd, eg']
            have cs := c_spreadWithin W S Rm B L H O hd least (cI i) hc a.1 R1.1
            rw [iv] at cs
            refine cl_mono cs ?_
            rintro r μ2 ⟨rfl, R2, F2⟩
            have l48 := R2.2.2.2.1
            have k5 := (F2.2 5 (by omega)).trans R1.2.1
            have k6 := (F2.2 6 (by omega)).trans R1.2.2.1
            have k7 := (F2.2 7 (by omega)).trans R1.2.2.2
            have F3 := F1.trans F2.1
            have n6 : (6 : Nat) ≠ 5 := by decide
            unfold gpN at kk
            by_cases h3 : a.2.2.1 < nI (spF M least (cI i) a.1).2.length
            · rw [if_pos h3, if_pos h3] at kk
              have h4 : (nI (spF M least (cI i) a.1).2.length ≤ a.2.2.1) = False := i_nle h3
              simp (disch := first | omega | assumption) only [mm_op_some, true_and, and_true, mm_rc_some, mm_rc_none, nI_add, ok0, ok1, ok2, if_true, if_false, wp_is4 (y := zX4_gatherPieces) dX4_gatherPieces_62, wp_al0 (y := zX4_gatherPieces) dX4_gatherPieces_64, wp_dup_int (y := zX4_gatherPieces) dX4_gatherPieces_65, wp_dup_ref (y := zX4_gatherPieces) dX4_gatherPieces_65, wp_getf (y := zX4_gatherPieces) kF4_59 dX4_gatherPieces_66, wp_iconst (y := zX4_gatherPieces) (nI 1) ki_1 dX4_gatherPieces_69, wp_iadd (y := zX4_gatherPieces) dX4_gatherPieces_70, wp_putf (y := zX4_gatherPieces) kF4_59 rfl dX4_gatherPieces_71, wp_il4 (y := zX4_gatherPieces) dX4_gatherPieces_74, wp_al0 (y := zX4_gatherPieces) dX4_gatherPieces_76, wp_getf (y := zX4_gatherPieces) kF4_62 dX4_gatherPieces_77, wp_icmp_le (y := zX4_gatherPieces) 94 (by decide) dX4_gatherPieces_80, wp_al0 (y := zX4_gatherPieces) dX4_gatherPieces_83, wp_il4 (y := zX4_gatherPieces) dX4_gatherPieces_84, wp_putf (y := zX4_gatherPieces) kF4_62 rfl dX4_gatherPieces_86, wp_al0 (y := zX4_gatherPieces) dX4_gatherPieces_89, wp_il3 (y := zX4_gatherPieces) dX4_gatherPieces_90, wp_putf (y := zX4_gatherPieces) kF4_65 rfl dX4_gatherPieces_91, wp_inc3 (y := zX4_gatherPieces) (nI 1) ki_1 dX4_gatherPieces_94, wp_goto (y := zX4_gatherPieces) 22 (by decide) dX4_gatherPieces_97, W.oc, W.g0, W.g1, W.g2, W.g3, W.g4, W.p4, W.a1, W.a2, W.a3, W.a4, W.g5, W.g6, W.g7, W.p5, W.p6, W.p7, k5, k6, mu_s, upd_n, upd_s, n6, h4]
              refine kk _ _ ⟨⟨⟨R2.1.cg ?_ ?_, R2.2.2.2.2.1⟩, ?_, ?_, ?_⟩, ((F3.mu _ (by omega) (by omega)).mu _ (by omega) (by omega)).mu _ (by omega) (by omega)⟩
              · simp (disch := omega) only [mu_n]
              · simp (disch := omega) only [mu_n]
              · rw [mu_s, upd_n _ _ (by decide), upd_n _ _ (by decide), upd_s]
              · rw [mu_s, upd_n _ _ (by decide), upd_s]
              · rw [mu_s, upd_s]
            · rw [if_neg h3, if_neg h3] at kk
              have h4 : (nI (spF M least (cI i) a.1).2.length ≤ a.2.2.1) = True := i_le h3
              simp (disch := first | omega | assumption) only [mm_op_some, true_and, and_true, mm_rc_some, mm_rc_none, nI_add, ok0, ok1, ok2, if_true, if_false, wp_is4 (y := zX4_gatherPieces) dX4_gatherPieces_62, wp_al0 (y := zX4_gatherPieces) dX4_gatherPieces_64, wp_dup_int (y := zX4_gatherPieces) dX4_gatherPieces_65, wp_dup_ref (y := zX4_gatherPieces) dX4_gatherPieces_65, wp_getf (y := zX4_gatherPieces) kF4_59 dX4_gatherPieces_66, wp_iconst (y := zX4_gatherPieces) (nI 1) ki_1 dX4_gatherPieces_69, wp_iadd (y := zX4_gatherPieces) dX4_gatherPieces_70, wp_putf (y := zX4_gatherPieces) kF4_59 rfl dX4_gatherPieces_71, wp_il4 (y := zX4_gatherPieces) dX4_gatherPieces_74, wp_al0 (y := zX4_gatherPieces) dX4_gatherPieces_76, wp_getf (y := zX4_gatherPieces) kF4_62 dX4_gatherPieces_77, wp_icmp_le (y := zX4_gatherPieces) 94 (by decide) dX4_gatherPieces_80, wp_inc3 (y := zX4_gatherPieces) (nI 1) ki_1 dX4_gatherPieces_94, wp_goto (y := zX4_gatherPieces) 22 (by decide) dX4_gatherPieces_97, W.oc, W.g0, W.g1, W.g2, W.g3, W.g4, W.p4, W.a1, W.a2, W.a3, W.a4, W.g5, W.g6, W.g7, W.p5, W.p6, W.p7, k5, k6, mu_s, upd_n, upd_s, n6, h4]
              refine kk _ _ ⟨⟨⟨R2.1.cg ?_ ?_, R2.2.2.2.2.1⟩, ?_, ?_, ?_⟩, F3.mu _ (by omega) (by omega)⟩
              · simp (disch := omega) only [mu_n]
              · simp (disch := omega) only [mu_n]
              · rw [mu_s, upd_s]
              · rw [mu_s, upd_n _ _ (by decide)]; exact k6
              · rw [mu_s, upd_n _ _ (by decide)]; exact k7
          · rw [if_neg h2] at kk
            have eg' : (0 ≤ fo (a.1 (cI i))) = True := by rw [eg]; exact eq_true h2
            simp (disch := first | omega | assumption) only [mm_op_some, true_and, and_true, mm_rc_some, mm_rc_none, nI_xor, tw_xor, pk_mul, nI_add, mm_in_t, nI_clamp, ok0, ok1, ok2, ok3, ok4, n1_0, n0_0, n0_zz, n1_zz, bI_eq0, bI_ne0, bI_zz, nI_le_, nI_lt_, nI_eq_, nI_lt0, nI_ge0, nI_gt0, nI_le0, nI_eq0, m1_lt0, m1_ge0, if_true, if_false, not_true, not_false_eq_true, Classical.not_not, true_or, or_true, false_or, n1_1, k10, Bool.true_eq_false, Bool.false_eq_true, Nat.le_refl, and_self, and_false, false_and, or_self, or_false, hf_lt, ce_lt, hf_cl, ce_cl, i_irr, i_rfl, wp_bipush (y := zX4_gatherPieces) (nI 48) kb_48 dX4_gatherPieces_23, wp_icmp_ge (y := zX4_gatherPieces) 100 (by decide) dX4_gatherPieces_25, wp_al1 (y := zX4_gatherPieces) dX4_gatherPieces_28, wp_il3 (y := zX4_gatherPieces) dX4_gatherPieces_29, wp_cv1 (y := zX4_gatherPieces) kM4_24 (by decide) dX4_gatherPieces_30, (show yo zX2_hasCell = 2 from rfl), wp_if_eq (y := zX4_gatherPieces) 94 (by decide) dX4_gatherPieces_33, wp_al1 (y := zX4_gatherPieces) dX4_gatherPieces_36, wp_getf (y := zX4_gatherPieces) kF4_46 dX4_gatherPieces_37, wp_il3 (y := zX4_gatherPieces) dX4_gatherPieces_40, wp_iald (y := zX4_gatherPieces) dX4_gatherPieces_41, wp_il2 (y := zX4_gatherPieces) dX4_gatherPieces_42, wp_icmp_lt (y := zX4_gatherPieces) 94 (by decide) dX4_gatherPieces_43, wp_al0 (y := zX4_gatherPieces) dX4_gatherPieces_46, wp_getf (y := zX4_gatherPieces) kF4_9 dX4_gatherPieces_47, wp_il3 (y := zX4_gatherPieces) dX4_gatherPieces_50, wp_iald (y := zX4_gatherPieces) dX4_gatherPieces_51, wp_if_ge (y := zX4_gatherPieces) 94 (by decide) dX4_gatherPieces_52, wp_inc3 (y := zX4_gatherPieces) (nI 1) ki_1 dX4_gatherPieces_94, wp_goto (y := zX4_gatherPieces) 22 (by decide) dX4_gatherPieces_97, W.oc, W.g0, W.g1, W.g2, W.g3, W.g4, W.p4, W.a1, W.a2, W.a3, W.a4, S.oc, S.g0, S.g1, S.g2, S.g3, S.g4, S.g5, S.g6, S.g7, S.a1, S.a2, S.a3, S.a4, S.a5, S.a6, S.a7, S.a8, h9, E1, rs, h1, rd, eg']
            exact kk _ _ ⟨R1, F1⟩
      · rw [if_neg hc] at kk
        have E1 : ∀ Q', cl sh zX2_hasCell [.ref b, .int (nI i)] μ1 Q' = Q' (some (.int (nI 0))) μ1 := fun Q' => c_hasCell0 S Rm hi hc
        simp (disch := first | omega | assumption) only [mm_op_some, true_and, and_true, mm_rc_some, mm_rc_none, nI_xor, tw_xor, pk_mul, nI_add, mm_in_t, nI_clamp, ok0, ok1, ok2, ok3, ok4, n1_0, n0_0, n0_zz, n1_zz, bI_eq0, bI_ne0, bI_zz, nI_le_, nI_lt_, nI_eq_, nI_lt0, nI_ge0, nI_gt0, nI_le0, nI_eq0, m1_lt0, m1_ge0, if_true, if_false, not_true, not_false_eq_true, Classical.not_not, true_or, or_true, false_or, n1_1, k10, Bool.true_eq_false, Bool.false_eq_true, Nat.le_refl, and_self, and_false, false_and, or_self, or_false, hf_lt, ce_lt, hf_cl, ce_cl, i_irr, i_rfl, wp_bipush (y := zX4_gatherPieces) (nI 48) kb_48 dX4_gatherPieces_23, wp_icmp_ge (y := zX4_gatherPieces) 100 (by decide) dX4_gatherPieces_25, wp_al1 (y := zX4_gatherPieces) dX4_gatherPieces_28, wp_il3 (y := zX4_gatherPieces) dX4_gatherPieces_29, wp_cv1 (y := zX4_gatherPieces) kM4_24 (by decide) dX4_gatherPieces_30, (show yo zX2_hasCell = 2 from rfl), wp_if_eq (y := zX4_gatherPieces) 94 (by decide) dX4_gatherPieces_33, wp_inc3 (y := zX4_gatherPieces) (nI 1) ki_1 dX4_gatherPieces_94, wp_goto (y := zX4_gatherPieces) 22 (by decide) dX4_gatherPieces_97, W.oc, W.g0, W.g1, W.g2, W.g3, W.g4, W.p4, W.a1, W.a2, W.a3, W.a4, S.oc, S.g0, S.g1, S.g2, S.g3, S.g4, S.g5, S.g6, S.g7, S.a1, S.a2, S.a3, S.a4, S.a5, S.a6, S.a7, S.a8, h9, E1]
        exact kk _ _ ⟨R1, F1⟩
    · rintro ⟨μ1, v⟩ ⟨R1, F1⟩
      dsimp only at R1 F1 ⊢
      rw [wp_il3 (y := zX4_gatherPieces) dX4_gatherPieces_22]
      simp (disch := first | omega | assumption) only [mm_op_some, true_and, and_true, mm_rc_some, mm_rc_none, nI_xor, tw_xor, pk_mul, nI_add, mm_in_t, nI_clamp, ok0, ok1, ok2, ok3, ok4, n1_0, n0_0, n0_zz, n1_zz, bI_eq0, bI_ne0, bI_zz, nI_le_, nI_lt_, nI_eq_, nI_lt0, nI_ge0, nI_gt0, nI_le0, nI_eq0, m1_lt0, m1_ge0, if_true, if_false, not_true, not_false_eq_true, Classical.not_not, true_or, or_true, false_or, n1_1, k10, Bool.true_eq_false, Bool.false_eq_true, Nat.le_refl, and_self, and_false, false_and, or_self, or_false, hf_lt, ce_lt, hf_cl, ce_cl, i_irr, i_rfl, wp_bipush (y := zX4_gatherPieces) (nI 48) kb_48 dX4_gatherPieces_23, wp_icmp_ge (y := zX4_gatherPieces) 100 (by decide) dX4_gatherPieces_25, wp_vret (y := zX4_gatherPieces) rfl dX4_gatherPieces_100]
      exact ⟨R1, F1⟩
  simp (disch := first | omega | assumption) only [mm_op_some, true_and, and_true, mm_rc_some, mm_rc_none, nI_xor, tw_xor, pk_mul, nI_add, mm_in_t, nI_clamp, ok0, ok1, ok2, ok3, ok4, n1_0, n0_0, n0_zz, n1_zz, bI_eq0, bI_ne0, bI_zz, nI_le_, nI_lt_, nI_eq_, nI_lt0, nI_ge0, nI_gt0, nI_le0, nI_eq0, m1_lt0, m1_ge0, if_true, if_false, not_true, not_false_eq_true, Classical.not_not, true_or, or_true, false_or, n1_1, k10, Bool.true_eq_false, Bool.false_eq_true, Nat.le_refl, and_self, and_false, false_and, or_self, or_false, hf_lt, ce_lt, hf_cl, ce_cl, i_irr, i_rfl, wp_al0 (y := zX4_gatherPieces) dX4_gatherPieces_5, wp_iconst (y := zX4_gatherPieces) (nI 0) ki_0 dX4_gatherPieces_6, wp_putf (y := zX4_gatherPieces) kF4_59 rfl dX4_gatherPieces_7, wp_al0 (y := zX4_gatherPieces) dX4_gatherPieces_10, wp_iconst (y := zX4_gatherPieces) (nI 0) ki_0 dX4_gatherPieces_11, wp_putf (y := zX4_gatherPieces) kF4_62 rfl dX4_gatherPieces_12, wp_al0 (y := zX4_gatherPieces) dX4_gatherPieces_15, wp_iconst (y := zX4_gatherPieces) ((-1)) ki_m1 dX4_gatherPieces_16, wp_putf (y := zX4_gatherPieces) kF4_65 rfl dX4_gatherPieces_17, wp_iconst (y := zX4_gatherPieces) (nI 0) ki_0 dX4_gatherPieces_20, wp_is3 (y := zX4_gatherPieces) dX4_gatherPieces_21, W.oc, W.g0, W.g1, W.g2, W.g3, W.g4, W.p4, W.a1, W.a2, W.a3, W.a4, W.p5, W.p6, W.p7]
  refine key _ _ ⟨⟨?_, fun c j h => by cases h⟩, ?_, ?_, ?_⟩ ?_
  · exact R0.cg (by simp (disch := omega) only [mu_n]) (by simp (disch := omega) only [mu_n])
  · simp (disch := omega) only [mu_s, upd_n, upd_s]
  · simp (disch := omega) only [mu_s, upd_n, upd_s]
  · simp (disch := omega) only [mu_s, upd_n, upd_s]
  · exact ((F0.mu _ (by omega) (by omega)).mu _ (by omega) (by omega)).mu _ (by omega) (by omega)
end WY6
