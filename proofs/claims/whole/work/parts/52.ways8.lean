section WY8
variable {sh : mm_Sh} {w b : Nat} {μ : mm_U} {M : Ms} {t : Sq} {Q : Option Value → mm_U → Prop}
theorem k25_0 : (¬ nI 25 = 0) = True := eq_true (by decide)
theorem k5_0 : (¬ nI 5 = 0) = True := eq_true (by decide)
theorem RepC.rxv {b : Nat} (R : RepC M μ b) (h : Hf) (hl : lv M (wl h) = true) : μ (b + 4) h.val = rx M h := (R.1 h hl).2.2.2.1
theorem RepC.ryv {b : Nat} (R : RepC M μ b) (h : Hf) (hl : lv M (wl h) = true) : μ (b + 5) h.val = ry M h := (R.1 h hl).2.2.2.2
theorem c_goRound (W : WaSh sh w) (S : MeshSh sh b) {μ0 : mm_U} (R : RepC M μ b) (B : SdB M) (L : LvN M) (H : HasF M) (hd : w + 4 < b ∨ b + 8 < w) (least : Int32) (k : P3) (hk : k ∈ t.2) (hc : 0 < sd M (c3 k)) (RQ : RepQ3 M t μ w) (F0 : FrW μ0 μ w) : cl sh zX4_goRound [.ref w, .ref b, .int (nI k.val), .int least] μ (fun r μ' => r = none ∧ RepQ3 M (goR M least k t) μ' w ∧ FrW μ0 μ' w) := by
  obtain ⟨h, fh, hl⟩ := H _ hc
  have Soc := S.oc
  have kb := k.isLt
  have r4 := RQ.2.1 (c3 k)
  rw [show stt M (c3 k) = nI h.val by unfold stt; rw [if_pos hc, fh]; rfl] at r4
  have e1 : nI k.val / nI 25 = nI (c3 k).val := pk_div (by omega) (by omega) (by omega)
  have e2 : nI k.val - nI (c3 k).val * nI 25 = nI (k.val % 25) := by
    rw [← e1]
    exact nI_rem (by omega) (by omega) (by omega)
  have e3 : nI (k.val % 25) / nI 5 = nI (k.val % 25 / 5) := pk_div (by omega) (by omega) (by omega)
  have e4 : nI k.val - nI k.val / nI 5 * nI 5 = nI (k.val % 5) := nI_rem (by omega) (by omega) (by omega)
  have bs := B (c3 k)
  unfold goR
  rw [fH_hI fh]
  show wp sh zX4_goRound 0 [.ref w, .ref b, .int (nI k.val), .int least, .null, .null, .null, .null, .null, .null, .null, .null] [] μ _
  have k25 : ¬ nI 25 = 0 := by decide
  have k5 : ¬ nI 5 = 0 := by decide
  simp (disch := first | omega | assumption) only [mm_op_some, true_and, and_true, ce_lt, ce_cl, wp_il2 (y := zX4_goRound) dX4_goRound_0, wp_bipush (y := zX4_goRound) (nI 25) kb_25 dX4_goRound_1, wp_idiv' (y := zX4_goRound) dX4_goRound_3, wp_is4 (y := zX4_goRound) dX4_goRound_4, wp_il2 (y := zX4_goRound) dX4_goRound_6, wp_bipush (y := zX4_goRound) (nI 25) kb_25 dX4_goRound_7, wp_irem' (y := zX4_goRound) dX4_goRound_9, wp_iconst (y := zX4_goRound) (nI 5) ki_5 dX4_goRound_10, wp_idiv' (y := zX4_goRound) dX4_goRound_11, wp_iconst (y := zX4_goRound) (nI 2) ki_2 dX4_goRound_12, wp_isub (y := zX4_goRound) dX4_goRound_13, wp_is5 (y := zX4_goRound) dX4_goRound_14, wp_il2 (y := zX4_goRound) dX4_goRound_16, wp_iconst (y := zX4_goRound) (nI 5) ki_5 dX4_goRound_17, wp_irem' (y := zX4_goRound) dX4_goRound_18, wp_iconst (y := zX4_goRound) (nI 2) ki_2 dX4_goRound_19, wp_isub (y := zX4_goRound) dX4_goRound_20, wp_is6 (y := zX4_goRound) dX4_goRound_21, wp_al0 (y := zX4_goRound) dX4_goRound_23, wp_getf (y := zX4_goRound) kF4_21 dX4_goRound_24, wp_il4 (y := zX4_goRound) dX4_goRound_27, wp_iald (y := zX4_goRound) dX4_goRound_29, wp_is7 (y := zX4_goRound) dX4_goRound_30, wp_iconst (y := zX4_goRound) (nI 0) ki_0 dX4_goRound_32, wp_is8 (y := zX4_goRound) dX4_goRound_33, W.oc, W.g0, W.g1, W.g2, W.g3, W.g4, W.p4, W.a1, W.a2, W.a3, W.a4, e1, e2, e3, e4, r4]
  refine lpI (sd M (c3 k)) (fun i (a : mm_U × Value × Value × Value) => wp sh zX4_goRound 35 [.ref w, .ref b, .int (nI k.val), .int least, .int (nI (c3 k).val), .int (x3 k), .int (y3 k), .int (nI (nxi M i h).val), .int (nI i), a.2.1, a.2.2.1, a.2.2.2] [] a.1 (fun r μ' => r = none ∧ RepQ3 M (it (fun i t => gv3 M least k (nxi M i h) t) (sd M (c3 k)) 0 t) μ' w ∧ FrW μ0 μ' w)) (fun i a => RepQ3 M (it (fun i t => gv3 M least k (nxi M i h) t) i 0 t) a.1 w ∧ FrW μ a.1 w ∧ k ∈ (it (fun i t => gv3 M least k (nxi M i h) t) i 0 t).2) ?_ ?_ (μ, .null, .null, .null) ⟨RQ, FrW.refl _ _, hk⟩
  · rintro i ⟨μ2, v9, v10, v11⟩ hi ⟨R2, F2, m2⟩ kx
    replace kx := fun (μ' : mm_U) (v9 v10 v11 : Value) q => kx (μ', v9, v10, v11) q
    dsimp only at R2 F2 m2 kx ⊢
    rw [it_last0] at kx
    generalize it (fun i t => gv3 M least k (nxi M i h) t) i 0 t = t2 at R2 m2 kx
    have lh := nxi_lv L i h hl
    rw [nxi_s] at kx
    generalize nxi M i h = g at lh kx ⊢
    have Rm : RepC M μ2 b := R.cg (fun a h1 h2 => F2 a (by omega))
    have rs := Rm.2.2.2.1 (c3 k)
    have ro := Rm.2.2.2.1 (ow M (tw g))
    have rn := (Rm.1 g lh).2.1
    have bo := B (ow M (tw g))
    have rx_ := Rm.rxv g lh
    have ry_ := Rm.ryv g lh
    have h9 : (sd M (c3 k) ≤ i) = False := eq_false (by omega)
    have E1 : ∀ Q', cl sh zX2_across [.ref b, .int (nI g.val)] μ2 Q' = Q' (some (.int (nI (ow M (tw g)).val))) μ2 := fun Q' => c_across S Rm g lh
    have m3 := gv3_mem (M := M) (least := least) (q := k) (h := g) m2
    have E2 : ∀ x Q', cl sh zX4_isNear [.int x] μ2 Q' = Q' (some (.int (bI (nr x)))) μ2 := fun x Q' => c_isNear x
    have gb := g.isLt
    unfold gv3 at kx m3
    rw [wp_il8 (y := zX4_goRound) dX4_goRound_35]
    by_cases h1 : nr (x3 k + rx M g) = true
    · have n1 : bI (nr (x3 k + rx M g)) = nI 1 := by rw [h1]; rfl
      simp only [h1, if_true] at kx m3
      by_cases h2 : nr (y3 k + ry M g) = true
      · have n2 : bI (nr (y3 k + ry M g)) = nI 1 := by rw [h2]; rfl
        simp only [h2, if_true] at kx m3
        by_cases h3 : nI (sd M (ow M (tw g))) < least
        · simp only [h3, if_true] at kx m3
          simp (disch := first | omega | assumption) only [mm_op_some, true_and, and_true, mm_rc_some, mm_rc_none, nI_add, ok0, ok1, ok2, ok3, ok4, n1_0, n0_0, nI_le_, nI_lt0, if_true, if_false, hf_lt, ce_lt, hf_cl, ce_cl, wp_al1 (y := zX4_goRound) dX4_goRound_37, wp_getf (y := zX4_goRound) kF4_46 dX4_goRound_38, wp_il4 (y := zX4_goRound) dX4_goRound_41, wp_iald (y := zX4_goRound) dX4_goRound_43, wp_icmp_ge (y := zX4_goRound) 147 (by decide) dX4_goRound_44, wp_il7 (y := zX4_goRound) dX4_goRound_47, wp_if_lt (y := zX4_goRound) 147 (by decide) dX4_goRound_49, wp_al1 (y := zX4_goRound) dX4_goRound_52, wp_il7 (y := zX4_goRound) dX4_goRound_53, wp_cv1 (y := zX4_goRound) kM4_49 (by decide) dX4_goRound_55, (show yo zX2_across = 2 from rfl), wp_is9 (y := zX4_goRound) dX4_goRound_58, wp_il5 (y := zX4_goRound) dX4_goRound_60, wp_al1 (y := zX4_goRound) dX4_goRound_62, wp_getf (y := zX4_goRound) kF4_80 dX4_goRound_63, wp_il7 (y := zX4_goRound) dX4_goRound_66, wp_iald (y := zX4_goRound) dX4_goRound_68, wp_iadd (y := zX4_goRound) dX4_goRound_69, wp_is10 (y := zX4_goRound) dX4_goRound_70, wp_il6 (y := zX4_goRound) dX4_goRound_72, wp_al1 (y := zX4_goRound) dX4_goRound_74, wp_getf (y := zX4_goRound) kF4_83 dX4_goRound_75, wp_il7 (y := zX4_goRound) dX4_goRound_78, wp_iald (y := zX4_goRound) dX4_goRound_80, wp_iadd (y := zX4_goRound) dX4_goRound_81, wp_is11 (y := zX4_goRound) dX4_goRound_82, wp_il10 (y := zX4_goRound) dX4_goRound_84, wp_cs1 (y := zX4_goRound) kM4_86 (by decide) dX4_goRound_86, wp_if_eq (y := zX4_goRound) 132 (by decide) dX4_goRound_89, wp_il11 (y := zX4_goRound) dX4_goRound_92, wp_cs1 (y := zX4_goRound) kM4_86 (by decide) dX4_goRound_94, wp_if_eq (y := zX4_goRound) 132 (by decide) dX4_goRound_97, wp_al1 (y := zX4_goRound) dX4_goRound_100, wp_getf (y := zX4_goRound) kF4_46 dX4_goRound_101, wp_il9 (y := zX4_goRound) dX4_goRound_104, wp_iald (y := zX4_goRound) dX4_goRound_106, wp_il3 (y := zX4_goRound) dX4_goRound_107, wp_icmp_lt (y := zX4_goRound) 132 (by decide) dX4_goRound_108, wp_al1 (y := zX4_goRound) dX4_goRound_132, wp_getf (y := zX4_goRound) kF4_52 dX4_goRound_133, wp_il7 (y := zX4_goRound) dX4_goRound_136, wp_iald (y := zX4_goRound) dX4_goRound_138, wp_is7 (y := zX4_goRound) dX4_goRound_139, wp_inc8 (y := zX4_goRound) (nI 1) ki_1 dX4_goRound_141, wp_goto (y := zX4_goRound) 35 (by decide) dX4_goRound_144, W.oc, W.g0, W.g1, W.g2, W.g3, W.g4, W.p4, W.a1, W.a2, W.a3, W.a4, S.oc, S.g0, S.g1, S.g2, S.g3, S.g4, S.g5, S.g6, S.g7, S.a1, S.a2, S.a3, S.a4, S.a5, S.a6, S.a7, S.a8, h9, rs, ro, rn, rx_, ry_, E1, E2, n1, n2, h3]
          exact kx _ _ _ _ ⟨R2, F2, m2⟩
        · simp only [h3, if_false] at kx m3
          obtain ⟨j, ej, ej2⟩ := R2.2.2.2.2.2.2 k m2
          have rk := R2.1 k
          rw [ej] at rk kx m3
          replace rk : μ2 (w + 2) k.val = nI j := rk
          have E3 : ∀ Q', cl sh zX4_spot [.int (nI (ow M (tw g)).val), .int (x3 k + rx M g), .int (y3 k + ry M g)] μ2 Q' = Q' (some (.int (nI (p3 (ow M (tw g)) (x3 k + rx M g) (y3 k + ry M g)).val))) μ2 := fun Q' => by rw [c_spot, (p3_val h1 h2).1]
          have jb := R2.2.2.2.2.1
          simp (disch := first | omega | assumption) only [mm_op_some, true_and, and_true, mm_rc_some, mm_rc_none, nI_add, ok0, ok1, ok2, ok3, ok4, n1_0, n0_0, nI_le_, nI_lt0, if_true, if_false, hf_lt, ce_lt, hf_cl, ce_cl, p3_lt, p3_cl, wp_al1 (y := zX4_goRound) dX4_goRound_37, wp_getf (y := zX4_goRound) kF4_46 dX4_goRound_38, wp_il4 (y := zX4_goRound) dX4_goRound_41, wp_iald (y := zX4_goRound) dX4_goRound_43, wp_icmp_ge (y := zX4_goRound) 147 (by decide) dX4_goRound_44, wp_il7 (y := zX4_goRound) dX4_goRound_47, wp_if_lt (y := zX4_goRound) 147 (by decide) dX4_goRound_49, wp_al1 (y := zX4_goRound) dX4_goRound_52, wp_il7 (y := zX4_goRound) dX4_goRound_53, wp_cv1 (y := zX4_goRound) kM4_49 (by decide) dX4_goRound_55, (show yo zX2_across = 2 from rfl), wp_is9 (y := zX4_goRound) dX4_goRound_58, wp_il5 (y := zX4_goRound) dX4_goRound_60, wp_al1 (y := zX4_goRound) dX4_goRound_62, wp_getf (y := zX4_goRound) kF4_80 dX4_goRound_63, wp_il7 (y := zX4_goRound) dX4_goRound_66, wp_iald (y := zX4_goRound) dX4_goRound_68, wp_iadd (y := zX4_goRound) dX4_goRound_69, wp_is10 (y := zX4_goRound) dX4_goRound_70, wp_il6 (y := zX4_goRound) dX4_goRound_72, wp_al1 (y := zX4_goRound) dX4_goRound_74, wp_getf (y := zX4_goRound) kF4_83 dX4_goRound_75, wp_il7 (y := zX4_goRound) dX4_goRound_78, wp_iald (y := zX4_goRound) dX4_goRound_80, wp_iadd (y := zX4_goRound) dX4_goRound_81, wp_is11 (y := zX4_goRound) dX4_goRound_82, wp_il10 (y := zX4_goRound) dX4_goRound_84, wp_cs1 (y := zX4_goRound) kM4_86 (by decide) dX4_goRound_86, wp_if_eq (y := zX4_goRound) 132 (by decide) dX4_goRound_89, wp_il11 (y := zX4_goRound) dX4_goRound_92, wp_cs1 (y := zX4_goRound) kM4_86 (by decide) dX4_goRound_94, wp_if_eq (y := zX4_goRound) 132 (by decide) dX4_goRound_97, wp_al1 (y := zX4_goRound) dX4_goRound_100, wp_getf (y := zX4_goRound) kF4_46 dX4_goRound_101, wp_il9 (y := zX4_goRound) dX4_goRound_104, wp_iald (y := zX4_goRound) dX4_goRound_106, wp_il3 (y := zX4_goRound) dX4_goRound_107, wp_icmp_lt (y := zX4_goRound) 132 (by decide) dX4_goRound_108, wp_al0 (y := zX4_goRound) dX4_goRound_111, wp_il9 (y := zX4_goRound) dX4_goRound_112, wp_il10 (y := zX4_goRound) dX4_goRound_114, wp_il11 (y := zX4_goRound) dX4_goRound_116, wp_cs3 (y := zX4_goRound) kM4_68 (by decide) dX4_goRound_118, wp_al0 (y := zX4_goRound) dX4_goRound_121, wp_getf (y := zX4_goRound) kF4_15 dX4_goRound_122, wp_il2 (y := zX4_goRound) dX4_goRound_125, wp_iald (y := zX4_goRound) dX4_goRound_126, wp_iconst (y := zX4_goRound) (nI 1) ki_1 dX4_goRound_127, wp_iadd (y := zX4_goRound) dX4_goRound_128, wp_cv2 (y := zX4_goRound) kM4_72 (by decide) dX4_goRound_129, (show yo zX4_put = 4 from rfl), W.oc, W.g0, W.g1, W.g2, W.g3, W.g4, W.p4, W.a1, W.a2, W.a3, W.a4, S.oc, S.g0, S.g1, S.g2, S.g3, S.g4, S.g5, S.g6, S.g7, S.a1, S.a2, S.a3, S.a4, S.a5, S.a6, S.a7, S.a8, h9, rs, ro, rn, rx_, ry_, E1, E2, E3, n1, n2, h3, rk]
          refine cl_mono (c_put W R2 (p3 (ow M (tw g)) (x3 k + rx M g) (y3 k + ry M g)) (j + 1) (by omega)) ?_
          rintro r μ3 ⟨rfl, R3, F3⟩
          have rn3 : μ3 (b + 2) g.val = nI (nx M g).val := by rw [F3.1 (b + 2) (by omega)]; exact rn
          simp (disch := first | omega | assumption) only [mm_op_some, true_and, and_true, mm_rc_some, mm_rc_none, nI_add, hf_lt, ce_lt, hf_cl, ce_cl, wp_al1 (y := zX4_goRound) dX4_goRound_132, wp_getf (y := zX4_goRound) kF4_52 dX4_goRound_133, wp_il7 (y := zX4_goRound) dX4_goRound_136, wp_iald (y := zX4_goRound) dX4_goRound_138, wp_is7 (y := zX4_goRound) dX4_goRound_139, wp_inc8 (y := zX4_goRound) (nI 1) ki_1 dX4_goRound_141, wp_goto (y := zX4_goRound) 35 (by decide) dX4_goRound_144, S.oc, S.g0, S.g1, S.g2, S.g3, S.g4, S.g5, S.g6, S.g7, S.a1, S.a2, S.a3, S.a4, S.a5, S.a6, S.a7, S.a8, rn3]
          exact kx _ _ _ _ ⟨R3, F2.trans F3.1, m3⟩
      · have n2 : bI (nr (y3 k + ry M g)) = nI 0 := by rw [Bool.eq_false_iff.mpr h2]; rfl
        simp only [h2, if_false] at kx m3
        simp (disch := first | omega | assumption) only [mm_op_some, true_and, and_true, mm_rc_some, mm_rc_none, nI_add, ok0, ok1, ok2, ok3, ok4, n1_0, n0_0, nI_le_, nI_lt0, if_true, if_false, hf_lt, ce_lt, hf_cl, ce_cl, wp_al1 (y := zX4_goRound) dX4_goRound_37, wp_getf (y := zX4_goRound) kF4_46 dX4_goRound_38, wp_il4 (y := zX4_goRound) dX4_goRound_41, wp_iald (y := zX4_goRound) dX4_goRound_43, wp_icmp_ge (y := zX4_goRound) 147 (by decide) dX4_goRound_44, wp_il7 (y := zX4_goRound) dX4_goRound_47, wp_if_lt (y := zX4_goRound) 147 (by decide) dX4_goRound_49, wp_al1 (y := zX4_goRound) dX4_goRound_52, wp_il7 (y := zX4_goRound) dX4_goRound_53, wp_cv1 (y := zX4_goRound) kM4_49 (by decide) dX4_goRound_55, (show yo zX2_across = 2 from rfl), wp_is9 (y := zX4_goRound) dX4_goRound_58, wp_il5 (y := zX4_goRound) dX4_goRound_60, wp_al1 (y := zX4_goRound) dX4_goRound_62, wp_getf (y := zX4_goRound) kF4_80 dX4_goRound_63, wp_il7 (y := zX4_goRound) dX4_goRound_66, wp_iald (y := zX4_goRound) dX4_goRound_68, wp_iadd (y := zX4_goRound) dX4_goRound_69, wp_is10 (y := zX4_goRound) dX4_goRound_70, wp_il6 (y := zX4_goRound) dX4_goRound_72, wp_al1 (y := zX4_goRound) dX4_goRound_74, wp_getf (y := zX4_goRound) kF4_83 dX4_goRound_75, wp_il7 (y := zX4_goRound) dX4_goRound_78, wp_iald (y := zX4_goRound) dX4_goRound_80, wp_iadd (y := zX4_goRound) dX4_goRound_81, wp_is11 (y := zX4_goRound) dX4_goRound_82, wp_il10 (y := zX4_goRound) dX4_goRound_84, wp_cs1 (y := zX4_goRound) kM4_86 (by decide) dX4_goRound_86, wp_if_eq (y := zX4_goRound) 132 (by decide) dX4_goRound_89, wp_il11 (y := zX4_goRound) dX4_goRound_92, wp_cs1 (y := zX4_goRound) kM4_86 (by decide) dX4_goRound_94, wp_if_eq (y := zX4_goRound) 132 (by decide) dX4_goRound_97, wp_al1 (y := zX4_goRound) dX4_goRound_132, wp_getf (y := zX4_goRound) kF4_52 dX4_goRound_133, wp_il7 (y := zX4_goRound) dX4_goRound_136, wp_iald (y := zX4_goRound) dX4_goRound_138, wp_is7 (y := zX4_goRound) dX4_goRound_139, wp_inc8 (y := zX4_goRound) (nI 1) ki_1 dX4_goRound_141, wp_goto (y := zX4_goRound) 35 (by decide) dX4_goRound_144, W.oc, W.g0, W.g1, W.g2, W.g3, W.g4, W.p4, W.a1, W.a2, W.a3, W.a4, S.oc, S.g0, S.g1, S.g2, S.g3, S.g4, S.g5, S.g6, S.g7, S.a1, S.a2, S.a3, S.a4, S.a5, S.a6, S.a7, S.a8, h9, rs, ro, rn, rx_, ry_, E1, E2, n1, n2]
        exact kx _ _ _ _ ⟨R2, F2, m2⟩
    · have n1 : bI (nr (x3 k + rx M g)) = nI 0 := by rw [Bool.eq_false_iff.mpr h1]; rfl
      simp only [h1, if_false] at kx m3
      simp (disch := first | omega | assumption) only [mm_op_some, true_and, and_true, mm_rc_some, mm_rc_none, nI_add, ok0, ok1, ok2, ok3, ok4, n1_0, n0_0, nI_le_, nI_lt0, if_true, if_false, hf_lt, ce_lt, hf_cl, ce_cl, wp_al1 (y := zX4_goRound) dX4_goRound_37, wp_getf (y := zX4_goRound) kF4_46 dX4_goRound_38, wp_il4 (y := zX4_goRound) dX4_goRound_41, wp_iald (y := zX4_goRound) dX4_goRound_43, wp_icmp_ge (y := zX4_goRound) 147 (by decide) dX4_goRound_44, wp_il7 (y := zX4_goRound) dX4_goRound_47, wp_if_lt (y := zX4_goRound) 147 (by decide) dX4_goRound_49, wp_al1 (y := zX4_goRound) dX4_goRound_52, wp_il7 (y := zX4_goRound) dX4_goRound_53, wp_cv1 (y := zX4_goRound) kM4_49 (by decide) dX4_goRound_55, (show yo zX2_across = 2 from rfl), wp_is9 (y := zX4_goRound) dX4_goRound_58, wp_il5 (y := zX4_goRound) dX4_goRound_60, wp_al1 (y := zX4_goRound) dX4_goRound_62, wp_getf (y := zX4_goRound) kF4_80 dX4_goRound_63, wp_il7 (y := zX4_goRound) dX4_goRound_66, wp_iald (y := zX4_goRound) dX4_goRound_68, wp_iadd (y := zX4_goRound) dX4_goRound_69, wp_is10 (y := zX4_goRound) dX4_goRound_70, wp_il6 (y := zX4_goRound) dX4_goRound_72, wp_al1 (y := zX4_goRound) dX4_goRound_74, wp_getf (y := zX4_goRound) kF4_83 dX4_goRound_75, wp_il7 (y := zX4_goRound) dX4_goRound_78, wp_iald (y := zX4_goRound) dX4_goRound_80, wp_iadd (y := zX4_goRound) dX4_goRound_81, wp_is11 (y := zX4_goRound) dX4_goRound_82, wp_il10 (y := zX4_goRound) dX4_goRound_84, wp_cs1 (y := zX4_goRound) kM4_86 (by decide) dX4_goRound_86, wp_if_eq (y := zX4_goRound) 132 (by decide) dX4_goRound_89, wp_al1 (y := zX4_goRound) dX4_goRound_132, wp_getf (y := zX4_goRound) kF4_52 dX4_goRound_133, wp_il7 (y := zX4_goRound) dX4_goRound_136, wp_iald (y := zX4_goRound) dX4_goRound_138, wp_is7 (y := zX4_goRound) dX4_goRound_139, wp_inc8 (y := zX4_goRound) (nI 1) ki_1 dX4_goRound_141, wp_goto (y := zX4_goRound) 35 (by decide) dX4_goRound_144, W.oc, W.g0, W.g1, W.g2, W.g3, W.g4, W.p4, W.a1, W.a2, W.a3, W.a4, S.oc, S.g0, S.g1, S.g2, S.g3, S.g4, S.g5, S.g6, S.g7, S.a1, S.a2, S.a3, S.a4, S.a5, S.a6, S.a7, S.a8, h9, rs, ro, rn, rx_, ry_, E1, E2, n1]
      exact kx _ _ _ _ ⟨R2, F2, m2⟩
  · rintro ⟨μ2, v9, v10, v11⟩ ⟨R2, F2, m2⟩
    dsimp only at R2 F2 ⊢
    have Rm : RepC M μ2 b := R.cg (fun a h1 h2 => F2 a (by omega))
    have rs := Rm.2.2.2.1 (c3 k)
    have h9 : (sd M (c3 k) ≤ sd M (c3 k)) = True := eq_true (Nat.le_refl _)
    rw [wp_il8 (y := zX4_goRound) dX4_goRound_35]
    simp (disch := first | omega | assumption) only [mm_op_some, true_and, and_true, mm_rc_some, mm_rc_none, nI_xor, tw_xor, pk_mul, nI_add, mm_in_t, nI_clamp, ok0, ok1, ok2, ok3, ok4, n1_0, n0_0, n0_zz, n1_zz, bI_eq0, bI_ne0, bI_zz, nI_le_, nI_lt_, nI_eq_, nI_lt0, nI_ge0, nI_gt0, nI_le0, nI_eq0, m1_lt0, m1_ge0, if_true, if_false, not_true, not_false_eq_true, Classical.not_not, true_or, or_true, false_or, n1_1, k10, Bool.true_eq_false, Bool.false_eq_true, Nat.le_refl, and_self, and_false, false_and, or_self, or_false, hf_lt, ce_lt, hf_cl, ce_cl, i_irr, i_rfl, wp_al1 (y := zX4_goRound) dX4_goRound_37, wp_getf (y := zX4_goRound) kF4_46 dX4_goRound_38, wp_il4 (y := zX4_goRound) dX4_goRound_41, wp_iald (y := zX4_goRound) dX4_goRound_43, wp_icmp_ge (y := zX4_goRound) 147 (by decide) dX4_goRound_44, wp_vret (y := zX4_goRound) rfl dX4_goRound_147, W.oc, W.g0, W.g1, W.g2, W.g3, W.g4, W.p4, W.a1, W.a2, W.a3, W.a4, S.oc, S.g0, S.g1, S.g2, S.g3, S.g4, S.g5, S.g6, S.g7, S.a1, S.a2, S.a3, S.a4, S.a5, S.a6, S.a7, S.a8, rs]
    exact ⟨R2, F0.trans F2⟩
theorem goR_pos (L : LvN M) (H : HasF M) (O : OwL M) {least : Int32} {k : P3} (hc : 0 < sd M (c3 k)) (hp : ∀ k, k ∈ t.2 → 0 < sd M (c3 k)) : ∀ q, q ∈ (goR M least k t).2 → 0 < sd M (c3 q) := by
  obtain ⟨h, fh, hl⟩ := H _ hc
  unfold goR
  rw [fH_hI fh]
  refine it_ind (fun i t => gv3 M least k (nxi M i h) t) _ (fun _ t => ∀ c, c ∈ t.2 → 0 < sd M (c3 c)) ?_ t hp
  intro i a _ ha
  exact gv3_pos (O _ (by rw [wl_tw]; exact nxi_lv L i h hl)) ha
theorem sr_loop (W : WaSh sh w) (S : MeshSh sh b) (R : RepC M μ b) (B : SdB M) (L : LvN M) (H : HasF M) (O : OwL M) (hd : w + 4 < b ∨ b + 8 < w) (least : Int32) (v2 : Value) : ∀ (f k : Nat) (t : Sq) (μ1 : mm_U), k + f = 1200 → RepQ3 M t μ1 w → FrW μ μ1 w → (∀ c, c ∈ t.2 → 0 < sd M (c3 c)) → wp sh zX4_spreadRound 49 [.ref w, .ref b, v2, .int least, .int (nI k)] [] μ1 (fun r μ' => r = none ∧ RepQ3 M (bfs3 M least f k t) μ' w ∧ FrW μ μ' w) := by
  intro f
  have Soc := S.oc
  induction f with
  | zero =>
    intro k t μ1 hk R1 F1 hp
    have l48 := R1.2.2.2.2.1
    have rq := R1.2.2.1
    have h9 : (t.2.length ≤ k) = True := eq_true (by omega)
    rw [wp_il4 (y := zX4_spreadRound) dX4_spreadRound_49]
    simp (disch := first | omega | assumption) only [mm_op_some, true_and, and_true, mm_rc_some, mm_rc_none, nI_xor, tw_xor, pk_mul, nI_add, mm_in_t, nI_clamp, ok0, ok1, ok2, ok3, ok4, n1_0, n0_0, n0_zz, n1_zz, bI_eq0, bI_ne0, bI_zz, nI_le_, nI_lt_, nI_eq_, nI_lt0, nI_ge0, nI_gt0, nI_le0, nI_eq0, m1_lt0, m1_ge0, if_true, if_false, not_true, not_false_eq_true, Classical.not_not, true_or, or_true, false_or, n1_1, k10, Bool.true_eq_false, Bool.false_eq_true, Nat.le_refl, and_self, and_false, false_and, or_self, or_false, hf_lt, ce_lt, hf_cl, ce_cl, i_irr, i_rfl, wp_al0 (y := zX4_spreadRound) dX4_spreadRound_51, wp_getf (y := zX4_spreadRound) kF4_42 dX4_spreadRound_52, wp_icmp_ge (y := zX4_spreadRound) 85 (by decide) dX4_spreadRound_55, wp_vret (y := zX4_spreadRound) rfl dX4_spreadRound_85, W.oc, W.g0, W.g1, W.g2, W.g3, W.g4, W.p4, W.a1, W.a2, W.a3, W.a4, rq, h9]
    exact ⟨R1, F1⟩
  | succ f ih =>
    intro k t μ1 hk R1 F1 hp
    have l48 := R1.2.2.2.2.1
    have rq := R1.2.2.1
    cases e : t.2[k]? with
    | none =>
      have hle := List.getElem?_eq_none_iff.mp e
      have h9 : (t.2.length ≤ k) = True := eq_true (by omega)
      have eb : bfs3 M least (f + 1) k t = t := by unfold bfs3; rw [e]
      rw [eb, wp_il4 (y := zX4_spreadRound) dX4_spreadRound_49]
      simp (disch := first | omega | assumption) only [mm_op_some, true_and, and_true, mm_rc_some, mm_rc_none, nI_xor, tw_xor, pk_mul, nI_add, mm_in_t, nI_clamp, ok0, ok1, ok2, ok3, ok4, n1_0, n0_0, n0_zz, n1_zz, bI_eq0, bI_ne0, bI_zz, nI_le_, nI_lt_, nI_eq_, nI_lt0, nI_ge0, nI_gt0, nI_le0, nI_eq0, m1_lt0, m1_ge0, if_true, if_false, not_true, not_false_eq_true, Classical.not_not, true_or, or_true, false_or, n1_1, k10, Bool.true_eq_false, Bool.false_eq_true, Nat.le_refl, and_self, and_false, false_and, or_self, or_false, hf_lt, ce_lt, hf_cl, ce_cl, i_irr, i_rfl, wp_al0 (y := zX4_spreadRound) dX4_spreadRound_51, wp_getf (y := zX4_spreadRound) kF4_42 dX4_spreadRound_52, wp_icmp_ge (y := zX4_spreadRound) 85 (by decide) dX4_spreadRound_55, wp_vret (y := zX4_spreadRound) rfl dX4_spreadRound_85, W.oc, W.g0, W.g1, W.g2, W.g3, W.g4, W.p4, W.a1, W.a2, W.a3, W.a4, rq, h9]
      exact ⟨R1, F1⟩
    | some c =>
      have hlt := (List.getElem?_eq_some_iff.mp e).1
      have h9 : (t.2.length ≤ k) = False := eq_false (by omega)
      have h8 : (1200 ≤ k) = False := eq_false (by omega)
      have hm : c ∈ t.2 := List.mem_of_getElem? e
      have eb : bfs3 M least (f + 1) k t = bfs3 M least f (k + 1) (goR M least c t) := by
        show (match t.2[k]? with
          | none => t
          | some c => bfs3 M least f (k + 1) (goR M least c t)) = _
        rw [e]
      have r3 := R1.2.2.2.1 k c e
      rw [eb, wp_il4 (y := zX4_spreadRound) dX4_spreadRound_49]
      simp (disch := first | omega | assumption) only [mm_op_some, true_and, and_true, mm_rc_some, mm_rc_none, nI_xor, tw_xor, pk_mul, nI_add, mm_in_t, nI_clamp, ok0, ok1, ok2, ok3, ok4, n1_0, n0_0, n0_zz, n1_zz, bI_eq0, bI_ne0, bI_zz, nI_le_, nI_lt_, nI_eq_, nI_lt0, nI_ge0, nI_gt0, nI_le0, nI_eq0, m1_lt0, m1_ge0, if_true, if_false, not_true, not_false_eq_true, Classical.not_not, true_or, or_true, false_or, n1_1, k10, Bool.true_eq_false, Bool.false_eq_true, Nat.le_refl, and_self, and_false, false_and, or_self, or_false, hf_lt, ce_lt, hf_cl, ce_cl, i_irr, i_rfl, wp_al0 (y := zX4_spreadRound) dX4_spreadRound_51, wp_getf (y := zX4_spreadRound) kF4_42 dX4_spreadRound_52, wp_icmp_ge (y := zX4_spreadRound) 85 (by decide) dX4_spreadRound_55, wp_il4 (y := zX4_spreadRound) dX4_spreadRound_58, wp_sipush (y := zX4_spreadRound) (nI 1200) ks_1200 dX4_spreadRound_60, wp_icmp_ge (y := zX4_spreadRound) 85 (by decide) dX4_spreadRound_63, wp_al0 (y := zX4_spreadRound) dX4_spreadRound_66, wp_al1 (y := zX4_spreadRound) dX4_spreadRound_67, wp_al0 (y := zX4_spreadRound) dX4_spreadRound_68, wp_getf (y := zX4_spreadRound) kF4_18 dX4_spreadRound_69, wp_il4 (y := zX4_spreadRound) dX4_spreadRound_72, wp_iald (y := zX4_spreadRound) dX4_spreadRound_74, wp_il3 (y := zX4_spreadRound) dX4_spreadRound_75, wp_cv_rii (y := zX4_spreadRound) kM4_76 (by decide) dX4_spreadRound_76, (show yo zX4_goRound = 4 from rfl), W.oc, W.g0, W.g1, W.g2, W.g3, W.g4, W.p4, W.a1, W.a2, W.a3, W.a4, rq, h9, h8, r3, Soc]
      refine cl_mono (c_goRound W S (R.cg (fun a h1 h2 => F1 a (by omega))) B L H hd least c hm (hp c hm) R1 F1) ?_
      rintro r μ2 ⟨rfl, R2, F2⟩
      simp (disch := first | omega | assumption) only [mm_op_some, true_and, and_true, mm_rc_some, mm_rc_none, nI_xor, tw_xor, pk_mul, nI_add, mm_in_t, nI_clamp, ok0, ok1, ok2, ok3, ok4, n1_0, n0_0, n0_zz, n1_zz, bI_eq0, bI_ne0, bI_zz, nI_le_, nI_lt_, nI_eq_, nI_lt0, nI_ge0, nI_gt0, nI_le0, nI_eq0, m1_lt0, m1_ge0, if_true, if_false, not_true, not_false_eq_true, Classical.not_not, true_or, or_true, false_or, n1_1, k10, Bool.true_eq_false, Bool.false_eq_true, Nat.le_refl, and_self, and_false, false_and, or_self, or_false, hf_lt, ce_lt, hf_cl, ce_cl, i_irr, i_rfl, wp_inc4 (y := zX4_spreadRound) (nI 1) ki_1 dX4_spreadRound_79, wp_goto (y := zX4_spreadRound) 49 (by decide) dX4_spreadRound_82]
      exact ih (k + 1) _ μ2 (by omega) R2 F2 (goR_pos L H O (hp c hm) hp)
def srF (M : Ms) (least : Int32) (c : Ce) : Sq := bfs3 M least 1200 0 (pu3 (fun _ => none, []) (p3 c (nI 0) (nI 0)) 0)
theorem nr0 : nr (nI 0) = true := by decide
theorem c_spreadRound (W : WaSh sh w) (S : MeshSh sh b) (R : RepC M μ b) (B : SdB M) (L : LvN M) (H : HasF M) (O : OwL M) (hd : w + 4 < b ∨ b + 8 < w) (least : Int32) (c : Ce) (hc : 0 < sd M c) : cl sh zX4_spreadRound [.ref w, .ref b, .int (nI c.val), .int least] μ (fun r μ' => r = none ∧ RepQ3 M (srF M least c) μ' w ∧ FrW μ μ' w) := by
  have Soc := S.oc
  show wp sh zX4_spreadRound 0 [.ref w, .ref b, .int (nI c.val), .int least, .null] [] μ _
  simp (disch := first | omega | assumption) only [mm_op_some, true_and, and_true, mm_rc_some, mm_rc_none, nI_xor, tw_xor, pk_mul, nI_add, mm_in_t, nI_clamp, ok0, ok1, ok2, ok3, ok4, n1_0, n0_0, n0_zz, n1_zz, bI_eq0, bI_ne0, bI_zz, nI_le_, nI_lt_, nI_eq_, nI_lt0, nI_ge0, nI_gt0, nI_le0, nI_eq0, m1_lt0, m1_ge0, if_true, if_false, not_true, not_false_eq_true, Classical.not_not, true_or, or_true, false_or, n1_1, k10, Bool.true_eq_false, Bool.false_eq_true, Nat.le_refl, and_self, and_false, false_and, or_self, or_false, hf_lt, ce_lt, hf_cl, ce_cl, i_irr, i_rfl, wp_al0 (y := zX4_spreadRound) dX4_spreadRound_0, wp_al1 (y := zX4_spreadRound) dX4_spreadRound_1, wp_cv_r (y := zX4_spreadRound) kM4_34 (by decide) dX4_spreadRound_2, (show yo zX4_clearDistances = 4 from rfl), W.oc, Soc]
  refine cl_mono (c_clearDistances W S R B hd) ?_
  rintro r μ0 ⟨rfl, R0, F0⟩
  simp (disch := first | omega | assumption) only [mm_op_some, true_and, and_true, mm_rc_some, mm_rc_none, nI_xor, tw_xor, pk_mul, nI_add, mm_in_t, nI_clamp, ok0, ok1, ok2, ok3, ok4, n1_0, n0_0, n0_zz, n1_zz, bI_eq0, bI_ne0, bI_zz, nI_le_, nI_lt_, nI_eq_, nI_lt0, nI_ge0, nI_gt0, nI_le0, nI_eq0, m1_lt0, m1_ge0, if_true, if_false, not_true, not_false_eq_true, Classical.not_not, true_or, or_true, false_or, n1_1, k10, Bool.true_eq_false, Bool.false_eq_true, Nat.le_refl, and_self, and_false, false_and, or_self, or_false, hf_lt, ce_lt, hf_cl, ce_cl, i_irr, i_rfl, wp_iconst (y := zX4_spreadRound) (nI 0) ki_0 dX4_spreadRound_5, wp_is4 (y := zX4_spreadRound) dX4_spreadRound_6]
  refine lpI 1200 (fun i μ1 => wp sh zX4_spreadRound 8 [.ref w, .ref b, .int (nI c.val), .int least, .int (nI i)] [] μ1 (fun r μ' => r = none ∧ RepQ3 M (srF M least c) μ' w ∧ FrW μ μ' w)) (fun i μ1 => (∀ k : P3, k.val < i → μ1 (w + 2) k.val = -1) ∧ (∀ c : Ce, μ1 (w + 4) c.val = stt M c) ∧ FrW μ μ1 w) ?_ ?_ μ0 ⟨fun k hk => absurd hk (Nat.not_lt_zero _), R0.2, F0⟩
  · rintro i μ1 hi ⟨h1, h2, F1⟩ kk
    have h9 : (1200 ≤ i) = False := eq_false (by omega)
    rw [wp_il4 (y := zX4_spreadRound) dX4_spreadRound_8]
    simp (disch := first | omega | assumption) only [mm_op_some, true_and, and_true, mm_rc_some, mm_rc_none, nI_xor, tw_xor, pk_mul, nI_add, mm_in_t, nI_clamp, ok0, ok1, ok2, ok3, ok4, n1_0, n0_0, n0_zz, n1_zz, bI_eq0, bI_ne0, bI_zz, nI_le_, nI_lt_, nI_eq_, nI_lt0, nI_ge0, nI_gt0, nI_le0, nI_eq0, m1_lt0, m1_ge0, if_true, if_false, not_true, not_false_eq_true, Classical.not_not, true_or, or_true, false_or, n1_1, k10, Bool.true_eq_false, Bool.false_eq_true, Nat.le_refl, and_self, and_false, false_and, or_self, or_false, hf_lt, ce_lt, hf_cl, ce_cl, i_irr, i_rfl, wp_sipush (y := zX4_spreadRound) (nI 1200) ks_1200 dX4_spreadRound_10, wp_icmp_ge (y := zX4_spreadRound) 30 (by decide) dX4_spreadRound_13, wp_al0 (y := zX4_spreadRound) dX4_spreadRound_16, wp_getf (y := zX4_spreadRound) kF4_15 dX4_spreadRound_17, wp_il4 (y := zX4_spreadRound) dX4_spreadRound_20, wp_iconst (y := zX4_spreadRound) ((-1)) ki_m1 dX4_spreadRound_22, wp_iast (y := zX4_spreadRound) dX4_spreadRound_23, wp_inc4 (y := zX4_spreadRound) (nI 1) ki_1 dX4_spreadRound_24, wp_goto (y := zX4_spreadRound) 8 (by decide) dX4_spreadRound_27, W.oc, W.g0, W.g1, W.g2, W.g3, W.g4, W.p4, W.a1, W.a2, W.a3, W.a4, h9]
    refine kk _ ⟨fun k hk => ?_, fun c => ?_, F1.mu _ (by omega) (by omega)⟩
    · rw [mu_s]
      by_cases z : k.val = i
      · rw [z, upd_s]
      · rw [upd_n _ _ z]
        exact h1 k (by omega)
    · rw [mu_n _ _ (by omega)]
      exact h2 c
  · rintro μ1 ⟨h1, h2, F1⟩
    rw [wp_il4 (y := zX4_spreadRound) dX4_spreadRound_8]
    have E3 : ∀ ν Q', cl sh zX4_spot [.int (nI c.val), .int (nI 0), .int (nI 0)] ν Q' = Q' (some (.int (nI (p3 c (nI 0) (nI 0)).val))) ν := fun ν Q' => by rw [c_spot, (p3_val nr0 nr0).1]
    simp (disch := first | omega | assumption) only [mm_op_some, true_and, and_true, mm_rc_some, mm_rc_none, nI_xor, tw_xor, pk_mul, nI_add, mm_in_t, nI_clamp, ok0, ok1, ok2, ok3, ok4, n1_0, n0_0, n0_zz, n1_zz, bI_eq0, bI_ne0, bI_zz, nI_le_, nI_lt_, nI_eq_, nI_lt0, nI_ge0, nI_gt0, nI_le0, nI_eq0, m1_lt0, m1_ge0, if_true, if_false, not_true, not_false_eq_true, Classical.not_not, true_or, or_true, false_or, n1_1, k10, Bool.true_eq_false, Bool.false_eq_true, Nat.le_refl, and_self, and_false, false_and, or_self, or_false, hf_lt, ce_lt, hf_cl, ce_cl, i_irr, i_rfl, wp_sipush (y := zX4_spreadRound) (nI 1200) ks_1200 dX4_spreadRound_10, wp_icmp_ge (y := zX4_spreadRound) 30 (by decide) dX4_spreadRound_13, wp_al0 (y := zX4_spreadRound) dX4_spreadRound_30, wp_iconst (y := zX4_spreadRound) (nI 0) ki_0 dX4_spreadRound_31, wp_putf (y := zX4_spreadRound) kF4_42 rfl dX4_spreadRound_32, wp_al0 (y := zX4_spreadRound) dX4_spreadRound_35, wp_il2 (y := zX4_spreadRound) dX4_spreadRound_36, wp_iconst (y := zX4_spreadRound) (nI 0) ki_0 dX4_spreadRound_37, wp_iconst (y := zX4_spreadRound) (nI 0) ki_0 dX4_spreadRound_38, wp_cs3 (y := zX4_spreadRound) kM4_68 (by decide) dX4_spreadRound_39, wp_iconst (y := zX4_spreadRound) (nI 0) ki_0 dX4_spreadRound_42, wp_cv2 (y := zX4_spreadRound) kM4_72 (by decide) dX4_spreadRound_43, (show yo zX4_put = 4 from rfl), W.oc, W.g0, W.g1, W.g2, W.g3, W.g4, W.p4, W.a1, W.a2, W.a3, W.a4, E3]
    have RQ : RepQ3 M (fun _ => none, []) (mu μ1 w (upd (μ1 w) 4 (nI 0))) w := by
      refine ⟨fun k => ?_, fun c => ?_, ?_, (fun k c hk => by cases hk), Nat.zero_le _, (fun k j hk => by cases hk), (fun k hk => by cases hk)⟩
      · rw [mu_n _ _ (by omega)]
        exact h1 k k.isLt
      · rw [mu_n _ _ (by omega)]
        exact h2 c
      · rw [mu_s, upd_s]
        rfl
    refine cl_mono (c_put W RQ (p3 c (nI 0) (nI 0)) 0 (Nat.zero_le _)) ?_
    rintro r μ2 ⟨rfl, R2, F2⟩
    simp (disch := first | omega | assumption) only [mm_op_some, true_and, and_true, mm_rc_some, mm_rc_none, nI_xor, tw_xor, pk_mul, nI_add, mm_in_t, nI_clamp, ok0, ok1, ok2, ok3, ok4, n1_0, n0_0, n0_zz, n1_zz, bI_eq0, bI_ne0, bI_zz, nI_le_, nI_lt_, nI_eq_, nI_lt0, nI_ge0, nI_gt0, nI_le0, nI_eq0, m1_lt0, m1_ge0, if_true, if_false, not_true, not_false_eq_true, Classical.not_not, true_or, or_true, false_or, n1_1, k10, Bool.true_eq_false, Bool.false_eq_true, Nat.le_refl, and_self, and_false, false_and, or_self, or_false, hf_lt, ce_lt, hf_cl, ce_cl, i_irr, i_rfl, wp_iconst (y := zX4_spreadRound) (nI 0) ki_0 dX4_spreadRound_46, wp_is4 (y := zX4_spreadRound) dX4_spreadRound_47]
    refine sr_loop W S R B L H O hd least _ 1200 0 _ μ2 rfl R2 ((F1.mu _ (by omega) (by omega)).trans F2.1) ?_
    refine pu3_pos ?_ (fun k hk => by cases hk)
    rw [(p3_val nr0 nr0).2]
    exact hc
end WY8
