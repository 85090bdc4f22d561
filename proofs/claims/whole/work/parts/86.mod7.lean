section MOH
variable {sh : mm_Sh} {m : Nat} {M : Ms} {μ : mm_U} {s : Fo} {Q : Option Value → mm_U → Prop}
theorem FrR.ro {μ' : mm_U} (F : FrR μ μ' m) : RO μ μ' m := F.1
theorem RO.refl (μ : mm_U) (m : Nat) : RO μ μ m := fun _ _ => rfl
theorem RO.trans {μ1 μ2 : mm_U} (h1 : RO μ μ1 m) (h2 : RO μ1 μ2 m) : RO μ μ2 m := fun a h => (h2 a h).trans (h1 a h)
theorem RO_mu {μ1 : mm_U} (h : RO μ μ1 m) (f : Nat → Int32) : RO μ (mu μ1 (m + 1) f) m := fun a ha => by rw [mu_n _ _ ha]; exact h a ha
/-- writing one entry where the log ends -/
theorem nt_end (O : MoSh sh m) (N : Nat) (hN : N < 30) (x num g : Int32) (hr : μ (m + 1) 8 = nI N) (hg : μ m 7 = g) (v3 : Value) : wp sh zX6_notes 64 [.ref m, .int x, .int num, v3] [] μ (fun r μ' => r = none ∧ RO μ μ' m ∧ μ' (m + 1) = upd (upd (upd (upd (μ (m + 1)) (1696 + 3 * N) x) (1696 + 3 * N + 1) (μ (m + 1) 3 + g)) (1696 + 3 * N + 2) num) 8 (nI (N + 1))) := by
  have i8 : (mm_in (nI 8) 1786 = true) = True := mm_in_t (by decide) (by decide)
  have i3 : (mm_in (nI 3) 1786 = true) = True := mm_in_t (by decide) (by decide)
  have c8 : (nI 8).toNatClampNeg = 8 := rfl
  have c3 : (nI 3).toNatClampNeg = 3 := rfl
  have e3 : upd (μ (m + 1)) (1696 + 3 * N) x 3 = μ (m + 1) 3 := upd_n _ _ (by omega)
  have e8 : upd (upd (upd (μ (m + 1)) (1696 + 3 * N) x) (1696 + 3 * N + 1) (μ (m + 1) 3 + g)) (1696 + 3 * N + 2) num 8 = nI N := by rw [upd_n _ _ (by omega), upd_n _ _ (by omega), upd_n _ _ (by omega), hr]
  have n1 : m ≠ m + 1 := by omega
  simp (disch := first | omega | assumption) only [mm_op_some, true_and, and_true, pk_mul, nI_add, mm_in_t, nI_clamp, wp_sipush (y := zX6_notes) (nI 1696) ks_1696 dX6_notes_64, wp_iconst (y := zX6_notes) (nI 3) ki_3 dX6_notes_67, wp_al0 (y := zX6_notes) dX6_notes_68, wp_getf (y := zX6_notes) kF6_9 dX6_notes_69, wp_bipush (y := zX6_notes) (nI 8) kb_8 dX6_notes_72, wp_iald (y := zX6_notes) dX6_notes_74, wp_imul (y := zX6_notes) dX6_notes_75, wp_iadd (y := zX6_notes) dX6_notes_76, wp_is3 (y := zX6_notes) dX6_notes_77, wp_al0 (y := zX6_notes) dX6_notes_78, wp_getf (y := zX6_notes) kF6_9 dX6_notes_79, wp_il3 (y := zX6_notes) dX6_notes_82, wp_il1 (y := zX6_notes) dX6_notes_83, wp_iast (y := zX6_notes) dX6_notes_84, wp_al0 (y := zX6_notes) dX6_notes_85, wp_getf (y := zX6_notes) kF6_9 dX6_notes_86, wp_il3 (y := zX6_notes) dX6_notes_89, wp_iconst (y := zX6_notes) (nI 1) ki_1 dX6_notes_90, wp_iadd (y := zX6_notes) dX6_notes_91, wp_al0 (y := zX6_notes) dX6_notes_92, wp_getf (y := zX6_notes) kF6_9 dX6_notes_93, wp_iconst (y := zX6_notes) (nI 3) ki_3 dX6_notes_96, wp_iald (y := zX6_notes) dX6_notes_97, wp_al0 (y := zX6_notes) dX6_notes_98, wp_getf (y := zX6_notes) kF6_102 dX6_notes_99, wp_iadd (y := zX6_notes) dX6_notes_102, wp_iast (y := zX6_notes) dX6_notes_103, wp_al0 (y := zX6_notes) dX6_notes_104, wp_getf (y := zX6_notes) kF6_9 dX6_notes_105, wp_il3 (y := zX6_notes) dX6_notes_108, wp_iconst (y := zX6_notes) (nI 2) ki_2 dX6_notes_109, wp_iadd (y := zX6_notes) dX6_notes_110, wp_il2 (y := zX6_notes) dX6_notes_111, wp_iast (y := zX6_notes) dX6_notes_112, wp_al0 (y := zX6_notes) dX6_notes_113, wp_getf (y := zX6_notes) kF6_9 dX6_notes_114, wp_bipush (y := zX6_notes) (nI 8) kb_8 dX6_notes_117, wp_dup2 (y := zX6_notes) dX6_notes_119, wp_iald (y := zX6_notes) dX6_notes_120, wp_iconst (y := zX6_notes) (nI 1) ki_1 dX6_notes_121, wp_iadd (y := zX6_notes) dX6_notes_122, wp_iast (y := zX6_notes) dX6_notes_123, wp_vret (y := zX6_notes) rfl dX6_notes_124, O.oc, O.g0, O.g1, O.g2, O.g3, O.g4, O.g5, O.g6, O.g7, O.g9, O.g10, O.g11, O.p0, O.p7, O.a1, O.a2, O.a3, O.a4, O.a5, O.a6, O.a7, O.a8, O.a9, i8, i3, c8, c3, hr, mu_s, mu_n, e3, hg, e8]
  exact RO_mu (RO_mu (RO_mu (RO_mu (RO.refl μ m) _) _) _) _
theorem m_notes (O : MoSh sh m) (R : RepM s μ m) (x num : Int32) : cl sh zX6_notes [.ref m, .int x, .int num] μ (fun r μ' => r = none ∧ RepM (s.1, ((x, s.2.2.2 6, num) :: s.2.1).take 30, s.2.2) μ' m ∧ RO μ μ' m) := by
  obtain ⟨A, a0, a1, a2, a3, a4, a5, a6, a7, a8, a9, a10, a11⟩ := R
  have i8 : (mm_in (nI 8) 1786 = true) = True := mm_in_t (by decide) (by decide)
  have c8 : (nI 8).toNatClampNeg = 8 := rfl
  show wp sh zX6_notes 0 [.ref m, .int x, .int num, .null] [] μ _
  by_cases h : s.2.1.length = 30
  · have h' : (s.2.1.length = 30) = True := eq_true h
    have e29 : nI 30 - nI 1 = nI 29 := by decide
    rw [h] at a8
    have q30 : (nI 30 = nI 30) = True := eq_true rfl
    simp (disch := first | omega | assumption) only [mm_op_some, true_and, and_true, not_true, if_false, wp_al0 (y := zX6_notes) dX6_notes_0, wp_getf (y := zX6_notes) kF6_9 dX6_notes_1, wp_bipush (y := zX6_notes) (nI 8) kb_8 dX6_notes_4, wp_iald (y := zX6_notes) dX6_notes_6, wp_bipush (y := zX6_notes) (nI 30) kb_30 dX6_notes_7, wp_icmp_ne (y := zX6_notes) 64 (by decide) dX6_notes_9, wp_al0 (y := zX6_notes) dX6_notes_12, wp_getf (y := zX6_notes) kF6_9 dX6_notes_13, wp_bipush (y := zX6_notes) (nI 8) kb_8 dX6_notes_16, wp_dup2 (y := zX6_notes) dX6_notes_18, wp_iald (y := zX6_notes) dX6_notes_19, wp_iconst (y := zX6_notes) (nI 1) ki_1 dX6_notes_20, wp_isub (y := zX6_notes) dX6_notes_21, wp_iast (y := zX6_notes) dX6_notes_22, wp_sipush (y := zX6_notes) (nI 1696) ks_1696 dX6_notes_23, wp_is3 (y := zX6_notes) dX6_notes_26, O.oc, O.g0, O.g1, O.g2, O.g3, O.g4, O.g5, O.g6, O.g7, O.g9, O.g10, O.g11, O.p0, O.p7, O.a1, O.a2, O.a3, O.a4, O.a5, O.a6, O.a7, O.a8, O.a9, i8, c8, a8, e29, q30]
    refine lpI 87 (fun i μ1 => wp sh zX6_notes 27 [.ref m, .int x, .int num, .int (nI (1696 + i))] [] μ1 (fun r μ' => r = none ∧ RepM (s.1, ((x, s.2.2.2 6, num) :: s.2.1).take 30, s.2.2) μ' m ∧ RO μ μ' m)) (fun i μ1 => (∀ k, μ1 (m + 1) k = if 1696 ≤ k ∧ k < 1696 + i then μ (m + 1) (k + 3) else if k = 8 then nI 29 else μ (m + 1) k) ∧ RO μ μ1 m) ?_ ?_ (mu μ (m + 1) (upd (μ (m + 1)) 8 (nI 29))) ⟨fun k => ?_, RO_mu (RO.refl _ _) _⟩
    · rintro i μ1 hi ⟨h1, h2⟩ kk
      have r8 : μ1 (m + 1) 8 = nI 29 := by rw [h1, if_neg (by omega), if_pos rfl]
      have h9 : (1696 + 3 * 29 ≤ 1696 + i) = False := eq_false (by omega)
      rw [wp_il3 (y := zX6_notes) dX6_notes_27]
      simp (disch := first | omega | assumption) only [mm_op_some, true_and, and_true, pk_mul, nI_add, mm_in_t, nI_clamp, nI_le_, if_false, wp_sipush (y := zX6_notes) (nI 1696) ks_1696 dX6_notes_28, wp_iconst (y := zX6_notes) (nI 3) ki_3 dX6_notes_31, wp_al0 (y := zX6_notes) dX6_notes_32, wp_getf (y := zX6_notes) kF6_9 dX6_notes_33, wp_bipush (y := zX6_notes) (nI 8) kb_8 dX6_notes_36, wp_iald (y := zX6_notes) dX6_notes_38, wp_imul (y := zX6_notes) dX6_notes_39, wp_iadd (y := zX6_notes) dX6_notes_40, wp_icmp_ge (y := zX6_notes) 64 (by decide) dX6_notes_41, wp_al0 (y := zX6_notes) dX6_notes_44, wp_getf (y := zX6_notes) kF6_9 dX6_notes_45, wp_il3 (y := zX6_notes) dX6_notes_48, wp_al0 (y := zX6_notes) dX6_notes_49, wp_getf (y := zX6_notes) kF6_9 dX6_notes_50, wp_il3 (y := zX6_notes) dX6_notes_53, wp_iconst (y := zX6_notes) (nI 3) ki_3 dX6_notes_54, wp_iadd (y := zX6_notes) dX6_notes_55, wp_iald (y := zX6_notes) dX6_notes_56, wp_iast (y := zX6_notes) dX6_notes_57, wp_inc3 (y := zX6_notes) (nI 1) ki_1 dX6_notes_58, wp_goto (y := zX6_notes) 27 (by decide) dX6_notes_61, O.oc, O.g0, O.g1, O.g2, O.g3, O.g4, O.g5, O.g6, O.g7, O.g9, O.g10, O.g11, O.p0, O.p7, O.a1, O.a2, O.a3, O.a4, O.a5, O.a6, O.a7, O.a8, O.a9, i8, c8, r8, h9]
      refine kk _ ⟨fun k => ?_, RO_mu h2 _⟩
      rw [mu_s]
      by_cases z : k = 1696 + i
      · rw [z, upd_s, if_pos (by omega), h1, if_neg (by omega), if_neg (by omega)]
      · rw [upd_n _ _ z, h1]
        by_cases y : 1696 ≤ k ∧ k < 1696 + i
        · rw [if_pos y, if_pos (by omega)]
        · have y' : ¬ (1696 ≤ k ∧ k < 1696 + (i + 1)) := by omega
          rw [if_neg y, if_neg y']
    · rintro μ1 ⟨h1, h2⟩
      have r8 : μ1 (m + 1) 8 = nI 29 := by rw [h1, if_neg (by omega), if_pos rfl]
      have h9 : (1696 + 3 * 29 ≤ 1696 + 87) = True := eq_true (by omega)
      rw [wp_il3 (y := zX6_notes) dX6_notes_27]
      simp (disch := first | omega | assumption) only [mm_op_some, true_and, and_true, pk_mul, nI_add, mm_in_t, nI_clamp, nI_le_, if_true, wp_sipush (y := zX6_notes) (nI 1696) ks_1696 dX6_notes_28, wp_iconst (y := zX6_notes) (nI 3) ki_3 dX6_notes_31, wp_al0 (y := zX6_notes) dX6_notes_32, wp_getf (y := zX6_notes) kF6_9 dX6_notes_33, wp_bipush (y := zX6_notes) (nI 8) kb_8 dX6_notes_36, wp_iald (y := zX6_notes) dX6_notes_38, wp_imul (y := zX6_notes) dX6_notes_39, wp_iadd (y := zX6_notes) dX6_notes_40, wp_icmp_ge (y := zX6_notes) 64 (by decide) dX6_notes_41, O.oc, O.g0, O.g1, O.g2, O.g3, O.g4, O.g5, O.g6, O.g7, O.g9, O.g10, O.g11, O.p0, O.p7, O.a1, O.a2, O.a3, O.a4, O.a5, O.a6, O.a7, O.a8, O.a9, i8, c8, r8, h9]
      have hm : μ1 m = μ m := h2 m (by omega)
      refine wp_mono (nt_end (μ := μ1) O 29 (by decide) x num (μ m 7) r8 (by rw [hm]) _) ?_
      rintro r μ2 ⟨rfl, F2, e2⟩
      have rv : ∀ k, μ2 (m + 1) k = if k = 8 then nI 30 else if k = 1785 then num else if k = 1784 then μ (m + 1) 3 + μ m 7 else if k = 1783 then x else if 1696 ≤ k ∧ k < 1783 then μ (m + 1) (k + 3) else μ (m + 1) k := by
        intro k
        rw [e2]
        have e3 : μ1 (m + 1) 3 = μ (m + 1) 3 := by rw [h1, if_neg (by omega), if_neg (by omega)]
        rw [e3]
        unfold upd
        by_cases k8 : k = 8
        · rw [if_pos k8, if_pos k8]
        rw [if_neg k8, if_neg k8]
        by_cases k5 : k = 1785
        · rw [if_pos (by omega), if_pos k5]
        rw [if_neg (by omega), if_neg k5]
        by_cases k4 : k = 1784
        · rw [if_pos (by omega), if_pos k4]
        rw [if_neg (by omega), if_neg k4]
        by_cases k3 : k = 1783
        · rw [if_pos (by omega), if_pos k3]
        rw [if_neg (by omega), if_neg k3, h1, if_neg k8]
      have sm7 : μ2 m = μ m := (F2 m (by omega)).trans hm
      refine ⟨rfl, ⟨A.cg (fun k k1 k2 => ?_), ?_⟩, h2.trans F2⟩
      · rw [rv, if_neg (by omega), if_neg (by omega), if_neg (by omega), if_neg (by omega), if_neg (by omega)]
      · have lo : ∀ k, k < 8 ∨ (8 < k ∧ k < 1696) → μ2 (m + 1) k = μ (m + 1) k := fun k hk => by rw [rv, if_neg (by omega), if_neg (by omega), if_neg (by omega), if_neg (by omega), if_neg (by omega)]
        have tl : ((x, s.2.2.2 6, num) :: s.2.1).take 30 = (x, s.2.2.2 6, num) :: s.2.1.take 29 := rfl
        have ll : ((x, s.2.2.2 6, num) :: s.2.1.take 29).length = 30 := by
          rw [List.length_cons, List.length_take, h]
          rfl
        rw [sm7]
        unfold OtR
        dsimp only
        rw [tl, ll]
        refine ⟨by rw [lo _ (by omega)]; exact a0, by rw [lo _ (by omega)]; exact a1, by rw [lo _ (by omega)]; exact a2, by rw [lo _ (by omega)]; exact a3, by rw [lo _ (by omega)]; exact a4, by rw [lo _ (by omega)]; exact a5, by rw [lo _ (by omega)]; exact a6, by rw [lo _ (by omega)]; exact a7, by rw [rv, if_pos rfl], fun k hk => by rw [lo _ (by omega)]; exact a9 k hk, by omega, fun i e he => ?_⟩
        cases i with
        | zero =>
          have he : (x, s.2.2.2 6, num) = e := Option.some.inj he
          rw [← he]
          dsimp only
          refine ⟨?_, ?_, ?_⟩
          · rw [rv, if_neg (by omega), if_neg (by omega), if_neg (by omega), if_pos (by omega)]
          · rw [rv, if_neg (by omega), if_neg (by omega), if_pos (by omega), a3]
          · rw [rv, if_neg (by omega), if_pos (by omega)]
        | succ i =>
          have he : (s.2.1.take 29)[i]? = some e := he
          have hi : i < 29 := by
            have := (List.getElem?_eq_some_iff.mp he).1
            rw [List.length_take] at this
            omega
          rw [List.getElem?_take_of_lt hi] at he
          have q := a11 i e he
          rw [h] at q
          have e1 : 1696 + 3 * (30 - 1 - (i + 1)) + 3 = 1696 + 3 * (30 - 1 - i) := by omega
          refine ⟨?_, ?_, ?_⟩
          · rw [rv, if_neg (by omega), if_neg (by omega), if_neg (by omega), if_neg (by omega), if_pos (by omega), e1]; exact q.1
          · rw [rv, if_neg (by omega), if_neg (by omega), if_neg (by omega), if_neg (by omega), if_pos (by omega), show 1696 + 3 * (30 - 1 - (i + 1)) + 1 + 3 = 1696 + 3 * (30 - 1 - i) + 1 by omega]; exact q.2.1
          · rw [rv, if_neg (by omega), if_neg (by omega), if_neg (by omega), if_neg (by omega), if_pos (by omega), show 1696 + 3 * (30 - 1 - (i + 1)) + 2 + 3 = 1696 + 3 * (30 - 1 - i) + 2 by omega]; exact q.2.2
    · rw [mu_s]
      unfold upd
      rw [if_neg (show ¬ (1696 ≤ k ∧ k < 1696 + 0) by omega)]
  · have h' : (nI s.2.1.length = nI 30) = False := eq_false (fun e => h ((nI_eq (by omega) (by omega)).mp e))
    simp (disch := first | omega | assumption) only [mm_op_some, true_and, and_true, not_false_eq_true, if_true, wp_al0 (y := zX6_notes) dX6_notes_0, wp_getf (y := zX6_notes) kF6_9 dX6_notes_1, wp_bipush (y := zX6_notes) (nI 8) kb_8 dX6_notes_4, wp_iald (y := zX6_notes) dX6_notes_6, wp_bipush (y := zX6_notes) (nI 30) kb_30 dX6_notes_7, wp_icmp_ne (y := zX6_notes) 64 (by decide) dX6_notes_9, O.oc, O.g0, O.g1, O.g2, O.g3, O.g4, O.g5, O.g6, O.g7, O.g9, O.g10, O.g11, O.p0, O.p7, O.a1, O.a2, O.a3, O.a4, O.a5, O.a6, O.a7, O.a8, O.a9, i8, c8, a8, h']
    refine wp_mono (nt_end O s.2.1.length (by omega) x num (μ m 7) a8 rfl _) ?_
    rintro r μ2 ⟨rfl, F2, e2⟩
    have sm7 : μ2 m = μ m := F2 m (by omega)
    have rv : ∀ k, μ2 (m + 1) k = if k = 8 then nI (s.2.1.length + 1) else if k = 1696 + 3 * s.2.1.length + 2 then num else if k = 1696 + 3 * s.2.1.length + 1 then μ (m + 1) 3 + μ m 7 else if k = 1696 + 3 * s.2.1.length then x else μ (m + 1) k := by
      intro k
      rw [e2]
      rfl
    have lo : ∀ k, k < 8 ∨ (8 < k ∧ k < 1696 + 3 * s.2.1.length) → μ2 (m + 1) k = μ (m + 1) k := fun k hk => by rw [rv, if_neg (by omega), if_neg (by omega), if_neg (by omega), if_neg (by omega)]
    refine ⟨rfl, ⟨A.cg (fun k k1 k2 => lo k (by omega)), ?_⟩, F2⟩
    have tl : ((x, s.2.2.2 6, num) :: s.2.1).take 30 = (x, s.2.2.2 6, num) :: s.2.1 := List.take_of_length_le (by rw [List.length_cons]; omega)
    rw [sm7]
    unfold OtR
    dsimp only
    rw [tl, List.length_cons]
    refine ⟨by rw [lo _ (by omega)]; exact a0, by rw [lo _ (by omega)]; exact a1, by rw [lo _ (by omega)]; exact a2, by rw [lo _ (by omega)]; exact a3, by rw [lo _ (by omega)]; exact a4, by rw [lo _ (by omega)]; exact a5, by rw [lo _ (by omega)]; exact a6, by rw [lo _ (by omega)]; exact a7, by rw [rv, if_pos rfl], fun k hk => by rw [lo _ (by omega)]; exact a9 k hk, by omega, fun i e he => ?_⟩
    cases i with
    | zero =>
      have he : (x, s.2.2.2 6, num) = e := Option.some.inj he
      rw [← he]
      dsimp only
      refine ⟨?_, ?_, ?_⟩
      · rw [rv, if_neg (by omega), if_neg (by omega), if_neg (by omega), if_pos (by omega)]
      · rw [rv, if_neg (by omega), if_neg (by omega), if_pos (by omega), a3]
      · rw [rv, if_neg (by omega), if_pos (by omega)]
    | succ i =>
      have he : s.2.1[i]? = some e := he
      have hi := (List.getElem?_eq_some_iff.mp he).1
      have q := a11 i e he
      have e1 : s.2.1.length + 1 - 1 - (i + 1) = s.2.1.length - 1 - i := by omega
      rw [e1, lo _ (by omega), lo _ (by omega), lo _ (by omega)]
      exact q
/-- one of the numbers of a foam grows -/
theorem OtR.fld {g : Int32} {r : Nat → Int32} (A : OtR s g r) (k j : Nat) (hk : k < 8) (k3 : k ≠ 3) (hj : j = if k < 3 then k + 3 else k + 3) (v : Int32) : OtR (s.1, s.2.1, s.2.2.1, upd s.2.2.2 j v) g (upd r k v) := by
  obtain ⟨a0, a1, a2, a3, a4, a5, a6, a7, a8, a9, a10, a11⟩ := A
  have hj : j = k + 3 := by rw [hj]; split <;> rfl
  subst hj
  have st : ∀ i, i < 8 → i ≠ 3 → r i = s.2.2.2 (i + 3) → upd r k v i = upd s.2.2.2 (k + 3) v (i + 3) := fun i hi _ e => by
    by_cases z : i = k
    · rw [z, upd_s, upd_s]
    · rw [upd_n _ _ z, upd_n _ _ (by omega)]; exact e
  refine ⟨st 0 (by omega) (by omega) a0, st 1 (by omega) (by omega) a1, st 2 (by omega) (by omega) a2, ?_, st 4 (by omega) (by omega) a4, st 5 (by omega) (by omega) a5, st 6 (by omega) (by omega) a6, st 7 (by omega) (by omega) a7, ?_, fun i hi => ?_, a10, fun i e he => ?_⟩
  · show upd r k v 3 + g = upd s.2.2.2 (k + 3) v 6
    rw [upd_n _ _ (fun e => k3 e.symm), upd_n _ _ (by omega)]
    exact a3
  · rw [upd_n _ _ (by omega)]; exact a8
  · rw [upd_n _ _ (by omega)]; exact a9 i hi
  · rw [upd_n _ _ (by omega), upd_n _ _ (by omega), upd_n _ _ (by omega)]; exact a11 i e he
theorem m_swaps (O : MoSh sh m) (R : RepM s μ m) (J : Inv s.1) (w : Wa) (hl : lv s.1 w = true) (hc : can s.1 w = true) : cl sh zX6_swaps [.ref m, .int (nI w.val)] μ (fun r μ' => r = none ∧ RepM (fEv s (flM s.1 w) 0 7 (nI w.val)) μ' m ∧ RO μ μ' m) := by
  have i4 : (mm_in (nI 4) 1786 = true) = True := mm_in_t (by decide) (by decide)
  have c4 : (nI 4).toNatClampNeg = 4 := rfl
  show wp sh zX6_swaps 0 [.ref m, .int (nI w.val)] [] μ _
  simp (disch := first | omega | assumption) only [mm_op_some, true_and, and_true, mm_rc_some, mm_rc_none, pk_mul, nI_add, mm_in_t, nI_clamp, ok0, ok1, ok2, ok3, ok4, n1_0, n0_0, nI_le_, nI_lt_, if_true, if_false, not_true, not_false_eq_true, ce_lt, ce_cl, hf_lt, hf_cl, wp_al0 (y := zX6_swaps) dX6_swaps_0, wp_il1 (y := zX6_swaps) dX6_swaps_1, wp_cv1 (y := zX6_swaps) kM6_135 (by decide) dX6_swaps_2, (show yo zX6_turnWall = 6 from rfl), O.oc, O.g0, O.g1, O.g2, O.g3, O.g4, O.g5, O.g6, O.g7, O.g9, O.g10, O.g11, O.p0, O.p7, O.a1, O.a2, O.a3, O.a4, O.a5, O.a6, O.a7, O.a8, O.a9]
  refine cl_mono (m_turnWall O R.1 J w hl hc) ?_
  rintro r μ1 ⟨rfl, A1, F1⟩
  have e4 : μ1 (m + 1) 4 = s.2.2.2 7 := by rw [F1.2 4 (by omega)]; exact R.2.2.2.2.2.1
  have hm : μ1 m = μ m := F1.1 m (by omega)
  simp (disch := first | omega | assumption) only [mm_op_some, true_and, and_true, mm_rc_none, ok0, ok1, ok2, wp_al0 (y := zX6_swaps) dX6_swaps_5, wp_getf (y := zX6_swaps) kF6_9 dX6_swaps_6, wp_iconst (y := zX6_swaps) (nI 4) ki_4 dX6_swaps_9, wp_dup2 (y := zX6_swaps) dX6_swaps_10, wp_iald (y := zX6_swaps) dX6_swaps_11, wp_iconst (y := zX6_swaps) (nI 1) ki_1 dX6_swaps_12, wp_iadd (y := zX6_swaps) dX6_swaps_13, wp_iast (y := zX6_swaps) dX6_swaps_14, wp_al0 (y := zX6_swaps) dX6_swaps_15, wp_iconst (y := zX6_swaps) (nI 0) ki_0 dX6_swaps_16, wp_il1 (y := zX6_swaps) dX6_swaps_17, wp_cv2 (y := zX6_swaps) kM6_138 (by decide) dX6_swaps_18, (show yo zX6_notes = 6 from rfl), O.oc, O.g0, O.g1, O.g2, O.g3, O.g4, O.g5, O.g6, O.g7, O.g9, O.g10, O.g11, O.p0, O.p7, O.a1, O.a2, O.a3, O.a4, O.a5, O.a6, O.a7, O.a8, O.a9, i4, c4, e4]
  have R2 : RepM (flM s.1 w, s.2.1, s.2.2.1, upd s.2.2.2 7 (s.2.2.2 7 + nI 1)) (mu μ1 (m + 1) (upd (μ1 (m + 1)) 4 (s.2.2.2 7 + nI 1))) m := by
    refine ⟨?_, ?_⟩
    · rw [mu_s]
      exact A1.cg (fun k k1 k2 => upd_n _ _ (by omega))
    · rw [mu_s, mu_n _ _ (by omega), hm]
      have q := (OtR_m R.2 (flM s.1 w)).cg (r' := μ1 (m + 1)) F1.2
      exact q.fld 4 7 (by omega) (by omega) rfl (s.2.2.2 7 + nI 1)
  refine cl_mono (m_notes O R2 (nI 0) (nI w.val)) ?_
  rintro r μ2 ⟨rfl, R3, F3⟩
  simp (disch := first | omega | assumption) only [mm_rc_none, true_and, wp_vret (y := zX6_swaps) rfl dX6_swaps_21]
  refine ⟨R3, (F1.ro.trans (RO_mu (RO.refl _ _) _)).trans F3⟩
theorem m_refuse (O : MoSh sh m) (R : RepM s μ m) (k : Nat) (hk : k < 4) : cl sh zX6_refuse [.ref m, .int (-1 - nI k)] μ (fun r μ' => r = some (.int (-1 - nI k)) ∧ RepM (fRf s k) μ' m ∧ RO μ μ' m) := by
  have e : nI 9 - (-1 - nI k) = nI (10 + k) := by
    have key : ∀ k : Fin 4, nI 9 - (-1 - nI k.val) = nI (10 + k.val) := by decide
    exact key ⟨k, hk⟩
  have e1 := R.2.2.2.2.2.2.2.2.2.2.1 k hk
  show wp sh zX6_refuse 0 [.ref m, .int (-1 - nI k)] [] μ _
  simp (disch := first | omega | assumption) only [mm_op_some, true_and, and_true, mm_in_t, nI_clamp, wp_al0 (y := zX6_refuse) dX6_refuse_0, wp_getf (y := zX6_refuse) kF6_9 dX6_refuse_1, wp_bipush (y := zX6_refuse) (nI 9) kb_9 dX6_refuse_4, wp_il1 (y := zX6_refuse) dX6_refuse_6, wp_isub (y := zX6_refuse) dX6_refuse_7, wp_dup2 (y := zX6_refuse) dX6_refuse_8, wp_iald (y := zX6_refuse) dX6_refuse_9, wp_iconst (y := zX6_refuse) (nI 1) ki_1 dX6_refuse_10, wp_iadd (y := zX6_refuse) dX6_refuse_11, wp_iast (y := zX6_refuse) dX6_refuse_12, wp_il1 (y := zX6_refuse) dX6_refuse_13, wp_ireti (y := zX6_refuse) rfl dX6_refuse_14, O.oc, O.g0, O.g1, O.g2, O.g3, O.g4, O.g5, O.g6, O.g7, O.g9, O.g10, O.g11, O.p0, O.p7, O.a1, O.a2, O.a3, O.a4, O.a5, O.a6, O.a7, O.a8, O.a9, e, e1]
  refine ⟨⟨?_, ?_⟩, RO_mu (RO.refl _ _) _⟩
  · rw [mu_s]
    exact R.1.cg (fun j k1 k2 => upd_n _ _ (by omega))
  · rw [mu_s, mu_n _ _ (by omega)]
    obtain ⟨a0, a1, a2, a3, a4, a5, a6, a7, a8, a9, a10, a11⟩ := R.2
    refine ⟨by rw [upd_n _ _ (by omega)]; exact a0, by rw [upd_n _ _ (by omega)]; exact a1, by rw [upd_n _ _ (by omega)]; exact a2, by rw [upd_n _ _ (by omega)]; exact a3, by rw [upd_n _ _ (by omega)]; exact a4, by rw [upd_n _ _ (by omega)]; exact a5, by rw [upd_n _ _ (by omega)]; exact a6, by rw [upd_n _ _ (by omega)]; exact a7, by rw [upd_n _ _ (by omega)]; exact a8, fun i hi => ?_, a10, fun i e he => ?_⟩
    · show _ = upd s.2.2.1 k (s.2.2.1 k + nI 1) i
      by_cases z : i = k
      · rw [z, upd_s, upd_s]
      · rw [upd_n _ _ (by omega), upd_n _ _ z]; exact a9 i hi
    · rw [upd_n _ _ (by omega), upd_n _ _ (by omega), upd_n _ _ (by omega)]; exact a11 i e he
end MOH
