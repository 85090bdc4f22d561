theorem i_ring3 (l p a b : Int32) : l + (p - a - b) = l + p - (a + b) := by grind
/-- nothing but the row and what is going on has changed -/
def RM (μ μ' : mm_U) (m : Nat) : Prop := (∀ a, a ≠ m → a ≠ m + 1 → μ' a = μ a) ∧ ∀ k, k ≠ 7 → μ' m k = μ m k
theorem RM.refl (μ : mm_U) (m : Nat) : RM μ μ m := ⟨fun _ _ _ => rfl, fun _ _ => rfl⟩
theorem RM.trans {μ μ1 μ2 : mm_U} {m : Nat} (h1 : RM μ μ1 m) (h2 : RM μ1 μ2 m) : RM μ μ2 m := ⟨fun a h k => (h2.1 a h k).trans (h1.1 a h k), fun k h => (h2.2 k h).trans (h1.2 k h)⟩
theorem RO.rm {μ μ1 : mm_U} {m : Nat} (h : RO μ μ1 m) : RM μ μ1 m := ⟨fun a _ k => h a k, fun k _ => by rw [h m (by omega)]⟩
theorem RM_mu7 {μ μ1 : mm_U} {m : Nat} (h : RM μ μ1 m) (v : Int32) : RM μ (mu μ1 m (upd (μ1 m) 7 v)) m := ⟨fun a ha hb => by rw [mu_n _ _ ha]; exact h.1 a ha hb, fun k hk => by rw [mu_s, upd_n _ _ hk]; exact h.2 k hk⟩
section MST
variable {sh : mm_Sh} {m : Nat} {M : Ms} {μ : mm_U} {s : Fo} {c : Ce} {Q : Option Value → mm_U → Prop}
theorem MeR.gro1 {r : Nat → Int32} (p : Int32) {i : Nat} (hi : i < 48) (A : MeR (groM M p i) r) (h : 0 < sd M (cI i)) : MeR (groM M p (i + 1)) (upd r (1600 + i) (ar M (cI i) + p * (nI (sd M (cI i)) - nI 6))) := by
  have A1 := A.wAr (cI i) (ar M (cI i) + p * (nI (sd M (cI i)) - nI 6))
  rw [cI_lt hi] at A1
  refine A1.to (fun h lh => ⟨lh, rfl, rfl, rfl, rfl, rfl⟩) (fun _ => rfl) rfl (fun d hd => ?_)
  show (if d.val < i + 1 ∧ 0 < sd M d then ar M d + p * (nI (sd M d) - nI 6) else ar M d) = fu (fun c => if c.val < i ∧ 0 < sd M c then ar M c + p * (nI (sd M c) - nI 6) else ar M c) (cI i) (ar M (cI i) + p * (nI (sd M (cI i)) - nI 6)) d
  have hd : 0 < sd M d := hd
  by_cases z : d = cI i
  · rw [z, fu_s, if_pos ⟨by rw [cI_lt hi]; omega, h⟩]
  · rw [fu_n _ _ z]
    have zv : d.val ≠ i := fun e => z (Fin.ext (by rw [cI_lt hi]; exact e))
    by_cases y : d.val < i
    · rw [if_pos ⟨by omega, hd⟩, if_pos ⟨y, hd⟩]
    · rw [if_neg (fun t => by omega), if_neg (fun t => y t.1)]
theorem MeR.gro0 {r : Nat → Int32} (p : Int32) {i : Nat} (hi : i < 48) (A : MeR (groM M p i) r) (h : ¬ 0 < sd M (cI i)) (v : Int32) : MeR (groM M p (i + 1)) (upd r (1600 + i) v) := by
  have A1 := A.wAr (cI i) v
  rw [cI_lt hi] at A1
  refine A1.to (fun h lh => ⟨lh, rfl, rfl, rfl, rfl, rfl⟩) (fun _ => rfl) rfl (fun d hd => ?_)
  show (if d.val < i + 1 ∧ 0 < sd M d then ar M d + p * (nI (sd M d) - nI 6) else ar M d) = fu (fun c => if c.val < i ∧ 0 < sd M c then ar M c + p * (nI (sd M c) - nI 6) else ar M c) (cI i) v d
  have hd : 0 < sd M d := hd
  have z : d ≠ cI i := fun e => h (by rw [← e]; exact hd)
  rw [fu_n _ _ z]
  have zv : d.val ≠ i := fun e => z (Fin.ext (by rw [cI_lt hi]; exact e))
  by_cases y : d.val < i
  · rw [if_pos ⟨by omega, hd⟩, if_pos ⟨y, hd⟩]
  · rw [if_neg (fun t => by omega), if_neg (fun t => y t.1)]
theorem MeR.gro_s {r : Nat → Int32} (A : MeR M r) (p : Int32) : MeR (groM M p 0) r := A.to (fun h lh => ⟨lh, rfl, rfl, rfl, rfl, rfl⟩) (fun _ => rfl) rfl (fun d _ => by
  show (if d.val < 0 ∧ 0 < sd M d then ar M d + p * (nI (sd M d) - nI 6) else ar M d) = ar M d
  exact if_neg (fun t => Nat.not_lt_zero _ t.1))
theorem MeR.str_s {r : Nat → Int32} (A : MeR M r) : MeR (strM M 0) r := A.to (fun h lh => ⟨lh, rfl, rfl, rfl, rfl, rfl⟩) (fun w => by
  show (if lv M w = true then (if w.val < 0 ∧ lv M w = true then strV M w else ln M w) else -1) = _
  rw [if_neg (show ¬ (w.val < 0 ∧ lv M w = true) from fun t => Nat.not_lt_zero _ t.1)]) rfl (fun d _ => rfl)
theorem MeR.str1 {r : Nat → Int32} {i : Nat} (hi : i < 144) (A : MeR (strM M i) r) (h : lv M (wI i) = true) : MeR (strM M (i + 1)) (upd r (1456 + i) (strV M (wI i))) := by
  have A1 := A.wLn (wI i) (strV M (wI i)) h
  rw [wI_lt hi] at A1
  refine A1.to (fun h lh => ⟨lh, rfl, rfl, rfl, rfl, rfl⟩) (fun w => ?_) rfl (fun _ _ => rfl)
  show (if lv M w = true then (if w.val < i + 1 ∧ lv M w = true then strV M w else ln M w) else -1) = if lv M w = true then fu (fun w => if w.val < i ∧ lv M w = true then strV M w else ln M w) (wI i) (strV M (wI i)) w else -1
  by_cases y : lv M w = true
  · rw [if_pos y, if_pos y]
    by_cases z : w = wI i
    · rw [z, fu_s, if_pos ⟨by rw [wI_lt hi]; omega, h⟩]
    · rw [fu_n _ _ z]
      have zv : w.val ≠ i := fun e => z (Fin.ext (by rw [wI_lt hi]; exact e))
      by_cases x : w.val < i
      · rw [if_pos ⟨by omega, y⟩, if_pos ⟨x, y⟩]
      · rw [if_neg (fun t => by omega), if_neg (fun t => x t.1)]
  · rw [if_neg y, if_neg y]
theorem MeR.str0 {r : Nat → Int32} {i : Nat} (hi : i < 144) (A : MeR (strM M i) r) (h : ¬ lv M (wI i) = true) : MeR (strM M (i + 1)) r := by
  refine A.to (fun h lh => ⟨lh, rfl, rfl, rfl, rfl, rfl⟩) (fun w => ?_) rfl (fun _ _ => rfl)
  show (if lv M w = true then (if w.val < i + 1 ∧ lv M w = true then strV M w else ln M w) else -1) = if lv M w = true then (if w.val < i ∧ lv M w = true then strV M w else ln M w) else -1
  by_cases y : lv M w = true
  · rw [if_pos y, if_pos y]
    have z : w ≠ wI i := fun e => h (by rw [← e]; exact y)
    have zv : w.val ≠ i := fun e => z (Fin.ext (by rw [wI_lt hi]; exact e))
    by_cases x : w.val < i
    · rw [if_pos ⟨by omega, y⟩, if_pos ⟨x, y⟩]
    · rw [if_neg (fun t => by omega), if_neg (fun t => x t.1)]
  · rw [if_neg y, if_neg y]
/-- (1): areas -/
theorem st_area (O : MoSh sh m) (A : MeR M (μ (m + 1))) (B : SdB M) (p : Int32) (hp : μ (m + 1) 2 = p) (v2 : Value) (kk : ∀ μ', MeR (groM M p 48) (μ' (m + 1)) → FrR μ μ' m → wp sh zX6_step 59 [.ref m, .int (nI 48), v2] [] μ' Q) : wp sh zX6_step 7 [.ref m, .int (nI 0), v2] [] μ Q := by
  refine lpI 48 (fun i μ1 => wp sh zX6_step 7 [.ref m, .int (nI i), v2] [] μ1 Q) (fun i μ1 => MeR (groM M p i) (μ1 (m + 1)) ∧ FrR μ μ1 m) ?_ ?_ μ ⟨A.gro_s p, FrR.refl _ _⟩
  · rintro i μ1 hi ⟨A1, F1⟩ kx
    have h9 : (48 ≤ i) = False := eq_false (by omega)
    have iv := cI_lt hi
    have i2 : (mm_in (nI 2) 1786 = true) = True := mm_in_t (by decide) (by decide)
    have c2 : (nI 2).toNatClampNeg = 2 := rfl
    have r2 : μ1 (m + 1) 2 = p := by rw [F1.2 2 (by omega)]; exact hp
    rw [wp_il1 (y := zX6_step) dX6_step_7]
    by_cases hc : 0 < sd M (cI i)
    · have E1 : ∀ Q', cl sh zX6_isCell [.ref m, .int (nI i)] μ1 Q' = Q' (some (.int (nI 1))) μ1 := fun Q' => m_isCell1 O A1 B hi hc
      have E2 : ∀ Q', cl sh zX6_sidesOf [.ref m, .int (nI i)] μ1 Q' = Q' (some (.int (nI (sd M (cI i))))) μ1 := fun Q' => by
        have := m_sidesOf (Q := Q') O A1 (cI i)
        rw [iv] at this
        exact this
      have ra := A1.2.2.2 (cI i) hc
      rw [iv] at ra
      have ra' : μ1 (m + 1) (1600 + i) = ar M (cI i) := by
        rw [ra]
        show (if (cI i).val < i ∧ 0 < sd M (cI i) then ar M (cI i) + p * (nI (sd M (cI i)) - nI 6) else ar M (cI i)) = ar M (cI i)
        rw [if_neg (fun t => by rw [iv] at t; omega)]
      simp (disch := first | omega | assumption) only [mm_op_some, true_and, and_true, mm_rc_some, mm_rc_none, pk_mul, nI_add, mm_in_t, nI_clamp, ok0, ok1, ok2, ok3, ok4, n1_0, n0_0, nI_le_, nI_lt_, if_true, if_false, not_true, not_false_eq_true, ce_lt, ce_cl, hf_lt, hf_cl, wp_bipush (y := zX6_step) (nI 48) kb_48 dX6_step_8, wp_icmp_ge (y := zX6_step) 59 (by decide) dX6_step_10, wp_al0 (y := zX6_step) dX6_step_13, wp_getf (y := zX6_step) kF6_9 dX6_step_14, wp_sipush (y := zX6_step) (nI 1600) ks_1600 dX6_step_17, wp_il1 (y := zX6_step) dX6_step_20, wp_iadd (y := zX6_step) dX6_step_21, wp_dup2 (y := zX6_step) dX6_step_22, wp_iald (y := zX6_step) dX6_step_23, wp_al0 (y := zX6_step) dX6_step_24, wp_il1 (y := zX6_step) dX6_step_25, wp_cv1 (y := zX6_step) kM6_93 (by decide) dX6_step_26, (show yo zX6_isCell = 6 from rfl), wp_if_eq (y := zX6_step) 50 (by decide) dX6_step_29, wp_al0 (y := zX6_step) dX6_step_32, wp_getf (y := zX6_step) kF6_9 dX6_step_33, wp_iconst (y := zX6_step) (nI 2) ki_2 dX6_step_36, wp_iald (y := zX6_step) dX6_step_37, wp_al0 (y := zX6_step) dX6_step_38, wp_il1 (y := zX6_step) dX6_step_39, wp_cv1 (y := zX6_step) kM6_115 (by decide) dX6_step_40, (show yo zX6_sidesOf = 6 from rfl), wp_bipush (y := zX6_step) (nI 6) kb_6 dX6_step_43, wp_isub (y := zX6_step) dX6_step_45, wp_imul (y := zX6_step) dX6_step_46, wp_goto (y := zX6_step) 51 (by decide) dX6_step_47, wp_iadd (y := zX6_step) dX6_step_51, wp_iast (y := zX6_step) dX6_step_52, wp_inc1 (y := zX6_step) (nI 1) ki_1 dX6_step_53, wp_goto (y := zX6_step) 7 (by decide) dX6_step_56, O.oc, O.g0, O.g1, O.g2, O.g3, O.g4, O.g5, O.g6, O.g7, O.g9, O.g10, O.g11, O.p0, O.p7, O.a1, O.a2, O.a3, O.a4, O.a5, O.a6, O.a7, O.a8, O.a9, E1, E2, h9, i2, c2, r2, ra']
      refine kx _ ⟨?_, FrR_mu F1 _ _ (by omega) (by omega)⟩
      rw [mu_s]
      exact A1.gro1 p hi hc
    · have E1 : ∀ Q', cl sh zX6_isCell [.ref m, .int (nI i)] μ1 Q' = Q' (some (.int (nI 0))) μ1 := fun Q' => m_isCell0 O A1 B hi hc
      simp (disch := first | omega | assumption) only [mm_op_some, true_and, and_true, mm_rc_some, mm_rc_none, pk_mul, nI_add, mm_in_t, nI_clamp, ok0, ok1, ok2, ok3, ok4, n1_0, n0_0, nI_le_, nI_lt_, if_true, if_false, not_true, not_false_eq_true, ce_lt, ce_cl, hf_lt, hf_cl, wp_bipush (y := zX6_step) (nI 48) kb_48 dX6_step_8, wp_icmp_ge (y := zX6_step) 59 (by decide) dX6_step_10, wp_al0 (y := zX6_step) dX6_step_13, wp_getf (y := zX6_step) kF6_9 dX6_step_14, wp_sipush (y := zX6_step) (nI 1600) ks_1600 dX6_step_17, wp_il1 (y := zX6_step) dX6_step_20, wp_iadd (y := zX6_step) dX6_step_21, wp_dup2 (y := zX6_step) dX6_step_22, wp_iald (y := zX6_step) dX6_step_23, wp_al0 (y := zX6_step) dX6_step_24, wp_il1 (y := zX6_step) dX6_step_25, wp_cv1 (y := zX6_step) kM6_93 (by decide) dX6_step_26, (show yo zX6_isCell = 6 from rfl), wp_if_eq (y := zX6_step) 50 (by decide) dX6_step_29, wp_iconst (y := zX6_step) (nI 0) ki_0 dX6_step_50, wp_iadd (y := zX6_step) dX6_step_51, wp_iast (y := zX6_step) dX6_step_52, wp_inc1 (y := zX6_step) (nI 1) ki_1 dX6_step_53, wp_goto (y := zX6_step) 7 (by decide) dX6_step_56, O.oc, O.g0, O.g1, O.g2, O.g3, O.g4, O.g5, O.g6, O.g7, O.g9, O.g10, O.g11, O.p0, O.p7, O.a1, O.a2, O.a3, O.a4, O.a5, O.a6, O.a7, O.a8, O.a9, E1, h9]
      refine kx _ ⟨?_, FrR_mu F1 _ _ (by omega) (by omega)⟩
      rw [mu_s]
      exact A1.gro0 p hi hc _
  · rintro μ1 ⟨A1, F1⟩
    have h9 : (48 ≤ 48) = True := eq_true (Nat.le_refl _)
    rw [wp_il1 (y := zX6_step) dX6_step_7]
    simp (disch := first | omega | assumption) only [mm_op_some, true_and, and_true, mm_rc_some, mm_rc_none, pk_mul, nI_add, mm_in_t, nI_clamp, ok0, ok1, ok2, ok3, ok4, n1_0, n0_0, nI_le_, nI_lt_, if_true, if_false, not_true, not_false_eq_true, ce_lt, ce_cl, hf_lt, hf_cl, wp_bipush (y := zX6_step) (nI 48) kb_48 dX6_step_8, wp_icmp_ge (y := zX6_step) 59 (by decide) dX6_step_10, h9]
    exact kk _ A1 F1
/-- (2): lengths -/
theorem st_len (O : MoSh sh m) (A : MeR M (μ (m + 1))) (J : Inv M) (v2 : Value) (kk : ∀ μ' v2, MeR (strM M 144) (μ' (m + 1)) → FrR μ μ' m → wp sh zX6_step 129 [.ref m, .int (nI 144), v2] [] μ' Q) : wp sh zX6_step 61 [.ref m, .int (nI 0), v2] [] μ Q := by
  have Ji : ∀ i, i ≤ 144 → Inv (strM M i) := fun i hi => J.same rfl rfl rfl rfl rfl (fun w hw => by
    show ∃ n, n ≤ 99 ∧ (if w.val < i ∧ lv M w = true then strV M w else ln M w) = nI n
    split
    · exact clamp99 _
    · exact J.lnb w hw)
  refine lpI 144 (fun i (a : mm_U × Value) => wp sh zX6_step 61 [.ref m, .int (nI i), a.2] [] a.1 Q) (fun i a => MeR (strM M i) (a.1 (m + 1)) ∧ FrR μ a.1 m) ?_ ?_ (μ, v2) ⟨A.str_s, FrR.refl _ _⟩
  · rintro i ⟨μ1, v⟩ hi ⟨A1, F1⟩ kx
    replace kx := fun (μ' : mm_U) (v : Value) q => kx (μ', v) q
    dsimp only at A1 F1 kx ⊢
    have h9 : (144 ≤ i) = False := eq_false (by omega)
    have iv := wI_lt hi
    rw [wp_il1 (y := zX6_step) dX6_step_61]
    by_cases hl : lv M (wI i) = true
    · have E1 : ∀ Q', cl sh zX6_isWall [.ref m, .int (nI i)] μ1 Q' = Q' (some (.int (nI 1))) μ1 := fun Q' => m_isWall1 O A1 (Ji i (by omega)).lnb hi hl
      have E2 : ∀ Q', cl sh zX6_grows [.ref m, .int (nI i)] μ1 Q' = Q' (some (.int (nI (sd M (en M (h0 (wI i))) + sd M (en M (h1 (wI i)))) - nI (sd M (ow M (h0 (wI i)))) - nI (sd M (ow M (h1 (wI i))))))) μ1 := fun Q' => by
        have := m_grows (Q := Q') O A1 (Ji i (by omega)) (wI i) hl
        rw [iv] at this
        exact this
      have rl := A1.lnv (w := wI i) hl
      rw [iv] at rl
      have rl' : μ1 (m + 1) (1456 + i) = ln M (wI i) := by
        rw [rl]
        show (if (wI i).val < i ∧ lv M (wI i) = true then strV M (wI i) else ln M (wI i)) = ln M (wI i)
        rw [if_neg (fun t => by rw [iv] at t; omega)]
      have sv : strV M (wI i) = imax (nI 0) (imin (ln M (wI i) + (nI (sd M (en M (h0 (wI i))) + sd M (en M (h1 (wI i)))) - nI (sd M (ow M (h0 (wI i)))) - nI (sd M (ow M (h1 (wI i)))))) (nI 99)) := by
        rw [i_ring3, nI_add]
        rfl
      have A2 := A1.str1 hi hl
      rw [sv] at A2
      have fin : ∀ x v, x = imax (nI 0) (imin v (nI 99)) → v = ln M (wI i) + (nI (sd M (en M (h0 (wI i))) + sd M (en M (h1 (wI i)))) - nI (sd M (ow M (h0 (wI i)))) - nI (sd M (ow M (h1 (wI i))))) → wp sh zX6_step 61 [.ref m, .int (nI (i + 1)), .int v] [] (mu μ1 (m + 1) (upd (μ1 (m + 1)) (1456 + i) x)) Q := by
        rintro x v rfl rfl
        exact kx _ _ ⟨by rw [mu_s]; exact A2, FrR_mu F1 _ _ (by omega) (by omega)⟩
      generalize nI (sd M (en M (h0 (wI i))) + sd M (en M (h1 (wI i)))) - nI (sd M (ow M (h0 (wI i)))) - nI (sd M (ow M (h1 (wI i)))) = gw at fin E2
      have fin' := fun x hx => fin x _ hx rfl
      generalize hv : ln M (wI i) + gw = v at fin'
      by_cases h1 : v < 0
      · have h1' : (0 ≤ v) = False := i_nle h1
        simp (disch := first | omega | assumption) only [mm_op_some, true_and, and_true, mm_rc_some, mm_rc_none, pk_mul, nI_add, mm_in_t, nI_clamp, ok0, ok1, ok2, ok3, ok4, n1_0, n0_0, nI_le_, nI_lt_, if_true, if_false, not_true, not_false_eq_true, ce_lt, ce_cl, hf_lt, hf_cl, wp_sipush (y := zX6_step) (nI 144) ks_144 dX6_step_62, wp_icmp_ge (y := zX6_step) 129 (by decide) dX6_step_65, wp_al0 (y := zX6_step) dX6_step_68, wp_il1 (y := zX6_step) dX6_step_69, wp_cv1 (y := zX6_step) kM6_80 (by decide) dX6_step_70, (show yo zX6_isWall = 6 from rfl), wp_if_eq (y := zX6_step) 123 (by decide) dX6_step_73, wp_al0 (y := zX6_step) dX6_step_76, wp_getf (y := zX6_step) kF6_9 dX6_step_77, wp_sipush (y := zX6_step) (nI 1456) ks_1456 dX6_step_80, wp_il1 (y := zX6_step) dX6_step_83, wp_iadd (y := zX6_step) dX6_step_84, wp_iald (y := zX6_step) dX6_step_85, wp_al0 (y := zX6_step) dX6_step_86, wp_il1 (y := zX6_step) dX6_step_87, wp_cv1 (y := zX6_step) kM6_217 (by decide) dX6_step_88, (show yo zX6_grows = 6 from rfl), wp_iadd (y := zX6_step) dX6_step_91, wp_is2 (y := zX6_step) dX6_step_92, wp_al0 (y := zX6_step) dX6_step_93, wp_getf (y := zX6_step) kF6_9 dX6_step_94, wp_sipush (y := zX6_step) (nI 1456) ks_1456 dX6_step_97, wp_il1 (y := zX6_step) dX6_step_100, wp_iadd (y := zX6_step) dX6_step_101, wp_il2 (y := zX6_step) dX6_step_102, wp_if_ge (y := zX6_step) 110 (by decide) dX6_step_103, wp_iconst (y := zX6_step) (nI 0) ki_0 dX6_step_106, wp_goto (y := zX6_step) 122 (by decide) dX6_step_107, wp_iast (y := zX6_step) dX6_step_122, wp_inc1 (y := zX6_step) (nI 1) ki_1 dX6_step_123, wp_goto (y := zX6_step) 61 (by decide) dX6_step_126, O.oc, O.g0, O.g1, O.g2, O.g3, O.g4, O.g5, O.g6, O.g7, O.g9, O.g10, O.g11, O.p0, O.p7, O.a1, O.a2, O.a3, O.a4, O.a5, O.a6, O.a7, O.a8, O.a9, E1, E2, h9, rl', hv, h1']
        refine fin' _ ?_
        have n1 : ¬ nI 99 < v := fun q => by
          rw [Int32.lt_iff_toInt_lt] at q h1
          have e0 : (0 : Int32).toInt = 0 := rfl
          have e9 : (nI 99).toInt = 99 := rfl
          omega
        have n2 : ¬ nI 0 < v := fun q => by
          rw [Int32.lt_iff_toInt_lt] at q h1
          have e0 : (0 : Int32).toInt = 0 := rfl
          have e9 : (nI 0).toInt = 0 := rfl
          omega
        unfold imin imax
        rw [if_neg n1, if_neg n2]
      · have h1' : (0 ≤ v) = True := i_le h1
        by_cases h2 : nI 99 < v
        · have h2' : (v ≤ nI 99) = False := i_nle h2
          simp (disch := first | omega | assumption) only [mm_op_some, true_and, and_true, mm_rc_some, mm_rc_none, pk_mul, nI_add, mm_in_t, nI_clamp, ok0, ok1, ok2, ok3, ok4, n1_0, n0_0, nI_le_, nI_lt_, if_true, if_false, not_true, not_false_eq_true, ce_lt, ce_cl, hf_lt, hf_cl, wp_sipush (y := zX6_step) (nI 144) ks_144 dX6_step_62, wp_icmp_ge (y := zX6_step) 129 (by decide) dX6_step_65, wp_al0 (y := zX6_step) dX6_step_68, wp_il1 (y := zX6_step) dX6_step_69, wp_cv1 (y := zX6_step) kM6_80 (by decide) dX6_step_70, (show yo zX6_isWall = 6 from rfl), wp_if_eq (y := zX6_step) 123 (by decide) dX6_step_73, wp_al0 (y := zX6_step) dX6_step_76, wp_getf (y := zX6_step) kF6_9 dX6_step_77, wp_sipush (y := zX6_step) (nI 1456) ks_1456 dX6_step_80, wp_il1 (y := zX6_step) dX6_step_83, wp_iadd (y := zX6_step) dX6_step_84, wp_iald (y := zX6_step) dX6_step_85, wp_al0 (y := zX6_step) dX6_step_86, wp_il1 (y := zX6_step) dX6_step_87, wp_cv1 (y := zX6_step) kM6_217 (by decide) dX6_step_88, (show yo zX6_grows = 6 from rfl), wp_iadd (y := zX6_step) dX6_step_91, wp_is2 (y := zX6_step) dX6_step_92, wp_al0 (y := zX6_step) dX6_step_93, wp_getf (y := zX6_step) kF6_9 dX6_step_94, wp_sipush (y := zX6_step) (nI 1456) ks_1456 dX6_step_97, wp_il1 (y := zX6_step) dX6_step_100, wp_iadd (y := zX6_step) dX6_step_101, wp_il2 (y := zX6_step) dX6_step_102, wp_if_ge (y := zX6_step) 110 (by decide) dX6_step_103, wp_il2 (y := zX6_step) dX6_step_110, wp_bipush (y := zX6_step) (nI 99) kb_99 dX6_step_111, wp_icmp_le (y := zX6_step) 121 (by decide) dX6_step_113, wp_bipush (y := zX6_step) (nI 99) kb_99 dX6_step_116, wp_goto (y := zX6_step) 122 (by decide) dX6_step_118, wp_iast (y := zX6_step) dX6_step_122, wp_inc1 (y := zX6_step) (nI 1) ki_1 dX6_step_123, wp_goto (y := zX6_step) 61 (by decide) dX6_step_126, O.oc, O.g0, O.g1, O.g2, O.g3, O.g4, O.g5, O.g6, O.g7, O.g9, O.g10, O.g11, O.p0, O.p7, O.a1, O.a2, O.a3, O.a4, O.a5, O.a6, O.a7, O.a8, O.a9, E1, E2, h9, rl', hv, h1', h2']
          refine fin' _ ?_
          unfold imin
          rw [if_pos h2]
          rfl
        · have h2' : (v ≤ nI 99) = True := i_le h2
          simp (disch := first | omega | assumption) only [mm_op_some, true_and, and_true, mm_rc_some, mm_rc_none, pk_mul, nI_add, mm_in_t, nI_clamp, ok0, ok1, ok2, ok3, ok4, n1_0, n0_0, nI_le_, nI_lt_, if_true, if_false, not_true, not_false_eq_true, ce_lt, ce_cl, hf_lt, hf_cl, wp_sipush (y := zX6_step) (nI 144) ks_144 dX6_step_62, wp_icmp_ge (y := zX6_step) 129 (by decide) dX6_step_65, wp_al0 (y := zX6_step) dX6_step_68, wp_il1 (y := zX6_step) dX6_step_69, wp_cv1 (y := zX6_step) kM6_80 (by decide) dX6_step_70, (show yo zX6_isWall = 6 from rfl), wp_if_eq (y := zX6_step) 123 (by decide) dX6_step_73, wp_al0 (y := zX6_step) dX6_step_76, wp_getf (y := zX6_step) kF6_9 dX6_step_77, wp_sipush (y := zX6_step) (nI 1456) ks_1456 dX6_step_80, wp_il1 (y := zX6_step) dX6_step_83, wp_iadd (y := zX6_step) dX6_step_84, wp_iald (y := zX6_step) dX6_step_85, wp_al0 (y := zX6_step) dX6_step_86, wp_il1 (y := zX6_step) dX6_step_87, wp_cv1 (y := zX6_step) kM6_217 (by decide) dX6_step_88, (show yo zX6_grows = 6 from rfl), wp_iadd (y := zX6_step) dX6_step_91, wp_is2 (y := zX6_step) dX6_step_92, wp_al0 (y := zX6_step) dX6_step_93, wp_getf (y := zX6_step) kF6_9 dX6_step_94, wp_sipush (y := zX6_step) (nI 1456) ks_1456 dX6_step_97, wp_il1 (y := zX6_step) dX6_step_100, wp_iadd (y := zX6_step) dX6_step_101, wp_il2 (y := zX6_step) dX6_step_102, wp_if_ge (y := zX6_step) 110 (by decide) dX6_step_103, wp_il2 (y := zX6_step) dX6_step_110, wp_bipush (y := zX6_step) (nI 99) kb_99 dX6_step_111, wp_icmp_le (y := zX6_step) 121 (by decide) dX6_step_113, wp_il2 (y := zX6_step) dX6_step_121, wp_iast (y := zX6_step) dX6_step_122, wp_inc1 (y := zX6_step) (nI 1) ki_1 dX6_step_123, wp_goto (y := zX6_step) 61 (by decide) dX6_step_126, O.oc, O.g0, O.g1, O.g2, O.g3, O.g4, O.g5, O.g6, O.g7, O.g9, O.g10, O.g11, O.p0, O.p7, O.a1, O.a2, O.a3, O.a4, O.a5, O.a6, O.a7, O.a8, O.a9, E1, E2, h9, rl', hv, h1', h2']
          refine fin' _ ?_
          unfold imin imax
          rw [if_neg h2]
          split
          · rfl
          · rename_i h3
            rw [Int32.lt_iff_toInt_lt] at h1 h3
            have e0 : (0 : Int32).toInt = 0 := rfl
            have e9 : (nI 0).toInt = 0 := rfl
            exact Int32.toInt_inj.mp (by omega)
    · have E1 : ∀ Q', cl sh zX6_isWall [.ref m, .int (nI i)] μ1 Q' = Q' (some (.int (nI 0))) μ1 := fun Q' => m_isWall0 O A1 hi hl
      simp (disch := first | omega | assumption) only [mm_op_some, true_and, and_true, mm_rc_some, mm_rc_none, pk_mul, nI_add, mm_in_t, nI_clamp, ok0, ok1, ok2, ok3, ok4, n1_0, n0_0, nI_le_, nI_lt_, if_true, if_false, not_true, not_false_eq_true, ce_lt, ce_cl, hf_lt, hf_cl, wp_sipush (y := zX6_step) (nI 144) ks_144 dX6_step_62, wp_icmp_ge (y := zX6_step) 129 (by decide) dX6_step_65, wp_al0 (y := zX6_step) dX6_step_68, wp_il1 (y := zX6_step) dX6_step_69, wp_cv1 (y := zX6_step) kM6_80 (by decide) dX6_step_70, (show yo zX6_isWall = 6 from rfl), wp_if_eq (y := zX6_step) 123 (by decide) dX6_step_73, wp_inc1 (y := zX6_step) (nI 1) ki_1 dX6_step_123, wp_goto (y := zX6_step) 61 (by decide) dX6_step_126, O.oc, O.g0, O.g1, O.g2, O.g3, O.g4, O.g5, O.g6, O.g7, O.g9, O.g10, O.g11, O.p0, O.p7, O.a1, O.a2, O.a3, O.a4, O.a5, O.a6, O.a7, O.a8, O.a9, E1, h9]
      exact kx _ _ ⟨A1.str0 hi hl, F1⟩
  · rintro ⟨μ1, v⟩ ⟨A1, F1⟩
    dsimp only at A1 F1 ⊢
    have h9 : (144 ≤ 144) = True := eq_true (Nat.le_refl _)
    rw [wp_il1 (y := zX6_step) dX6_step_61]
    simp (disch := first | omega | assumption) only [mm_op_some, true_and, and_true, mm_rc_some, mm_rc_none, pk_mul, nI_add, mm_in_t, nI_clamp, ok0, ok1, ok2, ok3, ok4, n1_0, n0_0, nI_le_, nI_lt_, if_true, if_false, not_true, not_false_eq_true, ce_lt, ce_cl, hf_lt, hf_cl, wp_sipush (y := zX6_step) (nI 144) ks_144 dX6_step_62, wp_icmp_ge (y := zX6_step) 129 (by decide) dX6_step_65, h9]
    exact kk _ _ A1 F1
/-- one STEP -/
theorem m_step (O : MoSh sh m) (R : RepM s μ m) (J : Inv s.1) (g0 : μ m 7 = nI 0) : cl sh zX6_step [.ref m] μ (fun r μ' => r = none ∧ (RepM (goF s) μ' m ∧ Inv (goF s).1 ∧ μ' m 7 = nI 0) ∧ RM μ μ' m) := by
  obtain ⟨A, T⟩ := R
  rw [g0] at T
  have n1 : m + 1 ≠ m := by omega
  show wp sh zX6_step 0 [.ref m, .null, .null] [] μ _
  simp (disch := first | omega | assumption) only [mm_op_some, true_and, and_true, mm_rc_some, mm_rc_none, pk_mul, nI_add, mm_in_t, nI_clamp, ok0, ok1, ok2, ok3, ok4, n1_0, n0_0, nI_le_, nI_lt_, if_true, if_false, not_true, not_false_eq_true, ce_lt, ce_cl, hf_lt, hf_cl, wp_al0 (y := zX6_step) dX6_step_0, wp_iconst (y := zX6_step) (nI 1) ki_1 dX6_step_1, wp_putf (y := zX6_step) kF6_102 rfl dX6_step_2, wp_iconst (y := zX6_step) (nI 0) ki_0 dX6_step_5, wp_is1 (y := zX6_step) dX6_step_6, O.oc, O.g0, O.g1, O.g2, O.g3, O.g4, O.g5, O.g6, O.g7, O.g9, O.g10, O.g11, O.p0, O.p7, O.a1, O.a2, O.a3, O.a4, O.a5, O.a6, O.a7, O.a8, O.a9]
  refine st_area O (M := s.1) (μ := mu μ m (upd (μ m) 7 (nI 1))) (by rw [mu_n _ _ n1]; exact A) J.sdb (s.2.2.2 5) (by rw [mu_n _ _ n1]; exact T.2.2.1) _ ?_
  intro μ1 A1 F1
  simp (disch := first | omega | assumption) only [mm_op_some, true_and, and_true, mm_rc_some, mm_rc_none, pk_mul, nI_add, mm_in_t, nI_clamp, ok0, ok1, ok2, ok3, ok4, n1_0, n0_0, nI_le_, nI_lt_, if_true, if_false, not_true, not_false_eq_true, ce_lt, ce_cl, hf_lt, hf_cl, wp_iconst (y := zX6_step) (nI 0) ki_0 dX6_step_59, wp_is1 (y := zX6_step) dX6_step_60]
  have J1 := J.gro (s.2.2.2 5)
  refine st_len O A1 J1 _ ?_
  intro μ2 v2 A2 F2
  have J2 : Inv (goS s).1 := J1.str
  have FF := F1.trans F2
  have hm : μ2 m = upd (μ m) 7 (nI 1) := by rw [FF.1 m (by omega), mu_s]
  have R2 : RepM (goS s) μ2 m := by
    refine ⟨A2, ?_⟩
    rw [hm, upd_s]
    have q : OtR (goS s) (nI 1) (μ (m + 1)) := by
      obtain ⟨a0, a1, a2, a3, a4, a5, a6, a7, a8, a9, a10, a11⟩ := T
      refine ⟨a0, a1, a2, ?_, a4, a5, a6, a7, a8, a9, a10, a11⟩
      show μ (m + 1) 3 + nI 1 = upd s.2.2.2 6 (s.2.2.2 6 + nI 1) 6
      rw [upd_s, ← a3, i_add0]
    refine q.cg (fun k hk => ?_)
    rw [FF.2 k hk, mu_n _ _ n1]
  have F3 : RM μ μ2 m := (RM_mu7 (RM.refl μ m) (nI 1)).trans (FF.ro.rm)
  simp (disch := first | omega | assumption) only [mm_op_some, true_and, and_true, mm_rc_some, mm_rc_none, pk_mul, nI_add, mm_in_t, nI_clamp, ok0, ok1, ok2, ok3, ok4, n1_0, n0_0, nI_le_, nI_lt_, if_true, if_false, not_true, not_false_eq_true, ce_lt, ce_cl, hf_lt, hf_cl, wp_iconst (y := zX6_step) (nI 0) ki_0 dX6_step_129, wp_is1 (y := zX6_step) dX6_step_130]
  have stay : ∀ (t : Fo) μ', RepM t μ' m → μ' m = upd (μ m) 7 (nI 1) → True := fun _ _ _ _ => trivial
  -- (3)
  refine lpI 144 (fun i μ3 => wp sh zX6_step 131 [.ref m, .int (nI i), v2] [] μ3 (fun r μ' => r = none ∧ (RepM (goF s) μ' m ∧ Inv (goF s).1 ∧ μ' m 7 = nI 0) ∧ RM μ μ' m)) (fun i μ3 => (RepM (it goW i 0 (goS s)) μ3 m ∧ Inv (it goW i 0 (goS s)).1) ∧ μ3 m = upd (μ m) 7 (nI 1) ∧ RM μ μ3 m) ?_ ?_ μ2 ⟨⟨R2, J2⟩, hm, F3⟩
  · rintro i μ3 hi ⟨⟨R3, J3⟩, h3, G3⟩ kx
    rw [it_last0] at kx
    generalize it goW i 0 (goS s) = t at R3 J3 kx
    have h9 : (144 ≤ i) = False := eq_false (by omega)
    have iv := wI_lt hi
    rw [wp_il1 (y := zX6_step) dX6_step_131]
    unfold goW at kx
    by_cases hl : lv t.1 (wI i) = true
    · rw [if_pos hl] at kx
      have rl := R3.1.lnv hl
      rw [iv] at rl
      by_cases h0_ : ln t.1 (wI i) = 0
      · rw [if_pos h0_] at kx
        have h0' : (ln t.1 (wI i) = 0) = True := eq_true h0_
        have E1 : ∀ Q', cl sh zX6_canSwap [.ref m, .int (nI i)] μ3 Q' = Q' (some (.int (bI (can t.1 (wI i))))) μ3 := fun Q' => by
          have := m_canSwap (Q := Q') O R3.1 J3 hi
          rw [hl, Bool.true_and] at this
          exact this
        cases hc : can t.1 (wI i) with
        | true =>
          rw [hc] at E1 kx
          rw [if_pos rfl] at kx
          simp (disch := first | omega | assumption) only [mm_op_some, true_and, and_true, mm_rc_some, mm_rc_none, pk_mul, nI_add, mm_in_t, nI_clamp, ok0, ok1, ok2, ok3, ok4, n1_0, n0_0, nI_le_, nI_lt_, if_true, if_false, not_true, not_false_eq_true, ce_lt, ce_cl, hf_lt, hf_cl, wp_sipush (y := zX6_step) (nI 144) ks_144 dX6_step_132, wp_icmp_ge (y := zX6_step) 170 (by decide) dX6_step_135, wp_al0 (y := zX6_step) dX6_step_138, wp_getf (y := zX6_step) kF6_9 dX6_step_139, wp_sipush (y := zX6_step) (nI 1456) ks_1456 dX6_step_142, wp_il1 (y := zX6_step) dX6_step_145, wp_iadd (y := zX6_step) dX6_step_146, wp_iald (y := zX6_step) dX6_step_147, wp_if_ne (y := zX6_step) 164 (by decide) dX6_step_148, wp_al0 (y := zX6_step) dX6_step_151, wp_il1 (y := zX6_step) dX6_step_152, wp_cv1 (y := zX6_step) kM6_147 (by decide) dX6_step_153, (show yo zX6_canSwap = 6 from rfl), wp_if_eq (y := zX6_step) 164 (by decide) dX6_step_156, wp_al0 (y := zX6_step) dX6_step_159, wp_il1 (y := zX6_step) dX6_step_160, wp_cv1 (y := zX6_step) kM6_153 (by decide) dX6_step_161, (show yo zX6_swaps = 6 from rfl), O.oc, O.g0, O.g1, O.g2, O.g3, O.g4, O.g5, O.g6, O.g7, O.g9, O.g10, O.g11, O.p0, O.p7, O.a1, O.a2, O.a3, O.a4, O.a5, O.a6, O.a7, O.a8, O.a9, h9, rl, h0', E1, bI_t]
          have q := m_swaps O R3 J3 (wI i) hl hc
          rw [iv] at q
          refine cl_mono q ?_
          rintro r μ4 ⟨rfl, R4, F4⟩
          simp (disch := first | omega | assumption) only [mm_op_some, true_and, and_true, mm_rc_some, mm_rc_none, pk_mul, nI_add, mm_in_t, nI_clamp, ok0, ok1, ok2, ok3, ok4, n1_0, n0_0, nI_le_, nI_lt_, if_true, if_false, not_true, not_false_eq_true, ce_lt, ce_cl, hf_lt, hf_cl, wp_inc1 (y := zX6_step) (nI 1) ki_1 dX6_step_164, wp_goto (y := zX6_step) 131 (by decide) dX6_step_167]
          exact kx _ ⟨⟨R4, J3.fl hl hc⟩, (F4 m (by omega)).trans h3, G3.trans F4.rm⟩
        | false =>
          rw [hc] at E1 kx
          rw [if_neg (by decide)] at kx
          simp (disch := first | omega | assumption) only [mm_op_some, true_and, and_true, mm_rc_some, mm_rc_none, pk_mul, nI_add, mm_in_t, nI_clamp, ok0, ok1, ok2, ok3, ok4, n1_0, n0_0, nI_le_, nI_lt_, if_true, if_false, not_true, not_false_eq_true, ce_lt, ce_cl, hf_lt, hf_cl, wp_sipush (y := zX6_step) (nI 144) ks_144 dX6_step_132, wp_icmp_ge (y := zX6_step) 170 (by decide) dX6_step_135, wp_al0 (y := zX6_step) dX6_step_138, wp_getf (y := zX6_step) kF6_9 dX6_step_139, wp_sipush (y := zX6_step) (nI 1456) ks_1456 dX6_step_142, wp_il1 (y := zX6_step) dX6_step_145, wp_iadd (y := zX6_step) dX6_step_146, wp_iald (y := zX6_step) dX6_step_147, wp_if_ne (y := zX6_step) 164 (by decide) dX6_step_148, wp_al0 (y := zX6_step) dX6_step_151, wp_il1 (y := zX6_step) dX6_step_152, wp_cv1 (y := zX6_step) kM6_147 (by decide) dX6_step_153, (show yo zX6_canSwap = 6 from rfl), wp_if_eq (y := zX6_step) 164 (by decide) dX6_step_156, wp_inc1 (y := zX6_step) (nI 1) ki_1 dX6_step_164, wp_goto (y := zX6_step) 131 (by decide) dX6_step_167, O.oc, O.g0, O.g1, O.g2, O.g3, O.g4, O.g5, O.g6, O.g7, O.g9, O.g10, O.g11, O.p0, O.p7, O.a1, O.a2, O.a3, O.a4, O.a5, O.a6, O.a7, O.a8, O.a9, h9, rl, h0', E1, bI_f]
          exact kx _ ⟨⟨R3, J3⟩, h3, G3⟩
      · rw [if_neg h0_] at kx
        simp (disch := first | omega | assumption) only [mm_op_some, true_and, and_true, mm_rc_some, mm_rc_none, pk_mul, nI_add, mm_in_t, nI_clamp, ok0, ok1, ok2, ok3, ok4, n1_0, n0_0, nI_le_, nI_lt_, if_true, if_false, not_true, not_false_eq_true, ce_lt, ce_cl, hf_lt, hf_cl, wp_sipush (y := zX6_step) (nI 144) ks_144 dX6_step_132, wp_icmp_ge (y := zX6_step) 170 (by decide) dX6_step_135, wp_al0 (y := zX6_step) dX6_step_138, wp_getf (y := zX6_step) kF6_9 dX6_step_139, wp_sipush (y := zX6_step) (nI 1456) ks_1456 dX6_step_142, wp_il1 (y := zX6_step) dX6_step_145, wp_iadd (y := zX6_step) dX6_step_146, wp_iald (y := zX6_step) dX6_step_147, wp_if_ne (y := zX6_step) 164 (by decide) dX6_step_148, wp_inc1 (y := zX6_step) (nI 1) ki_1 dX6_step_164, wp_goto (y := zX6_step) 131 (by decide) dX6_step_167, O.oc, O.g0, O.g1, O.g2, O.g3, O.g4, O.g5, O.g6, O.g7, O.g9, O.g10, O.g11, O.p0, O.p7, O.a1, O.a2, O.a3, O.a4, O.a5, O.a6, O.a7, O.a8, O.a9, h9, rl, h0_]
        exact kx _ ⟨⟨R3, J3⟩, h3, G3⟩
    · rw [if_neg hl] at kx
      have rl := R3.1.lnd hl
      rw [iv] at rl
      have h0_ : ((-1 : Int32) = 0) = False := eq_false (by decide)
      simp (disch := first | omega | assumption) only [mm_op_some, true_and, and_true, mm_rc_some, mm_rc_none, pk_mul, nI_add, mm_in_t, nI_clamp, ok0, ok1, ok2, ok3, ok4, n1_0, n0_0, nI_le_, nI_lt_, if_true, if_false, not_true, not_false_eq_true, ce_lt, ce_cl, hf_lt, hf_cl, wp_sipush (y := zX6_step) (nI 144) ks_144 dX6_step_132, wp_icmp_ge (y := zX6_step) 170 (by decide) dX6_step_135, wp_al0 (y := zX6_step) dX6_step_138, wp_getf (y := zX6_step) kF6_9 dX6_step_139, wp_sipush (y := zX6_step) (nI 1456) ks_1456 dX6_step_142, wp_il1 (y := zX6_step) dX6_step_145, wp_iadd (y := zX6_step) dX6_step_146, wp_iald (y := zX6_step) dX6_step_147, wp_if_ne (y := zX6_step) 164 (by decide) dX6_step_148, wp_inc1 (y := zX6_step) (nI 1) ki_1 dX6_step_164, wp_goto (y := zX6_step) 131 (by decide) dX6_step_167, O.oc, O.g0, O.g1, O.g2, O.g3, O.g4, O.g5, O.g6, O.g7, O.g9, O.g10, O.g11, O.p0, O.p7, O.a1, O.a2, O.a3, O.a4, O.a5, O.a6, O.a7, O.a8, O.a9, h9, rl, h0_]
      exact kx _ ⟨⟨R3, J3⟩, h3, G3⟩
  · rintro μ3 ⟨⟨R3, J3⟩, h3, G3⟩
    have h9 : (144 ≤ 144) = True := eq_true (Nat.le_refl _)
    rw [wp_il1 (y := zX6_step) dX6_step_131]
    simp (disch := first | omega | assumption) only [mm_op_some, true_and, and_true, mm_rc_some, mm_rc_none, pk_mul, nI_add, mm_in_t, nI_clamp, ok0, ok1, ok2, ok3, ok4, n1_0, n0_0, nI_le_, nI_lt_, if_true, if_false, not_true, not_false_eq_true, ce_lt, ce_cl, hf_lt, hf_cl, wp_sipush (y := zX6_step) (nI 144) ks_144 dX6_step_132, wp_icmp_ge (y := zX6_step) 170 (by decide) dX6_step_135, wp_iconst (y := zX6_step) (nI 0) ki_0 dX6_step_170, wp_is1 (y := zX6_step) dX6_step_171, h9]
    unfold goF
    generalize it goW 144 0 (goS s) = t0 at R3 J3 ⊢
    -- (4)
    refine lpI 48 (fun i μ3 => wp sh zX6_step 172 [.ref m, .int (nI i), v2] [] μ3 (fun r μ' => r = none ∧ (RepM (it goC 48 0 t0) μ' m ∧ Inv (it goC 48 0 t0).1 ∧ μ' m 7 = nI 0) ∧ RM μ μ' m)) (fun i μ3 => (RepM (it goC i 0 t0) μ3 m ∧ Inv (it goC i 0 t0).1) ∧ μ3 m = upd (μ m) 7 (nI 1) ∧ RM μ μ3 m) ?_ ?_ μ3 ⟨⟨R3, J3⟩, h3, G3⟩
    · rintro i μ4 hi ⟨⟨R4, J4⟩, h4, G4⟩ kx
      rw [it_last0] at kx
      generalize it goC i 0 t0 = t at R4 J4 kx
      have h9 : (48 ≤ i) = False := eq_false (by omega)
      have iv := cI_lt hi
      rw [wp_il1 (y := zX6_step) dX6_step_172]
      unfold goC at kx
      by_cases hc : 0 < sd t.1 (cI i)
      · rw [if_pos hc] at kx
        have E1 : ∀ Q', cl sh zX6_isCell [.ref m, .int (nI i)] μ4 Q' = Q' (some (.int (nI 1))) μ4 := fun Q' => m_isCell1 O R4.1 J4.sdb hi hc
        have ra := R4.1.2.2.2 (cI i) hc
        rw [iv] at ra
        by_cases hp : 0 < ar t.1 (cI i)
        · rw [if_pos hp] at kx
          simp (disch := first | omega | assumption) only [mm_op_some, true_and, and_true, mm_rc_some, mm_rc_none, pk_mul, nI_add, mm_in_t, nI_clamp, ok0, ok1, ok2, ok3, ok4, n1_0, n0_0, nI_le_, nI_lt_, if_true, if_false, not_true, not_false_eq_true, ce_lt, ce_cl, hf_lt, hf_cl, wp_bipush (y := zX6_step) (nI 48) kb_48 dX6_step_173, wp_icmp_ge (y := zX6_step) 210 (by decide) dX6_step_175, wp_al0 (y := zX6_step) dX6_step_178, wp_il1 (y := zX6_step) dX6_step_179, wp_cv1 (y := zX6_step) kM6_93 (by decide) dX6_step_180, (show yo zX6_isCell = 6 from rfl), wp_if_eq (y := zX6_step) 204 (by decide) dX6_step_183, wp_al0 (y := zX6_step) dX6_step_186, wp_getf (y := zX6_step) kF6_9 dX6_step_187, wp_sipush (y := zX6_step) (nI 1600) ks_1600 dX6_step_190, wp_il1 (y := zX6_step) dX6_step_193, wp_iadd (y := zX6_step) dX6_step_194, wp_iald (y := zX6_step) dX6_step_195, wp_if_gt (y := zX6_step) 204 (by decide) dX6_step_196, wp_inc1 (y := zX6_step) (nI 1) ki_1 dX6_step_204, wp_goto (y := zX6_step) 172 (by decide) dX6_step_207, O.oc, O.g0, O.g1, O.g2, O.g3, O.g4, O.g5, O.g6, O.g7, O.g9, O.g10, O.g11, O.p0, O.p7, O.a1, O.a2, O.a3, O.a4, O.a5, O.a6, O.a7, O.a8, O.a9, h9, E1, ra, hp]
          exact kx _ ⟨⟨R4, J4⟩, h4, G4⟩
        · rw [if_neg hp] at kx
          simp (disch := first | omega | assumption) only [mm_op_some, true_and, and_true, mm_rc_some, mm_rc_none, pk_mul, nI_add, mm_in_t, nI_clamp, ok0, ok1, ok2, ok3, ok4, n1_0, n0_0, nI_le_, nI_lt_, if_true, if_false, not_true, not_false_eq_true, ce_lt, ce_cl, hf_lt, hf_cl, wp_bipush (y := zX6_step) (nI 48) kb_48 dX6_step_173, wp_icmp_ge (y := zX6_step) 210 (by decide) dX6_step_175, wp_al0 (y := zX6_step) dX6_step_178, wp_il1 (y := zX6_step) dX6_step_179, wp_cv1 (y := zX6_step) kM6_93 (by decide) dX6_step_180, (show yo zX6_isCell = 6 from rfl), wp_if_eq (y := zX6_step) 204 (by decide) dX6_step_183, wp_al0 (y := zX6_step) dX6_step_186, wp_getf (y := zX6_step) kF6_9 dX6_step_187, wp_sipush (y := zX6_step) (nI 1600) ks_1600 dX6_step_190, wp_il1 (y := zX6_step) dX6_step_193, wp_iadd (y := zX6_step) dX6_step_194, wp_iald (y := zX6_step) dX6_step_195, wp_if_gt (y := zX6_step) 204 (by decide) dX6_step_196, wp_al0 (y := zX6_step) dX6_step_199, wp_il1 (y := zX6_step) dX6_step_200, wp_cv1 (y := zX6_step) kM6_220 (by decide) dX6_step_201, (show yo zX6_shrinks = 6 from rfl), O.oc, O.g0, O.g1, O.g2, O.g3, O.g4, O.g5, O.g6, O.g7, O.g9, O.g10, O.g11, O.p0, O.p7, O.a1, O.a2, O.a3, O.a4, O.a5, O.a6, O.a7, O.a8, O.a9, h9, E1, ra, hp]
          have q := m_shrinks (c := cI i) O R4 J4 hc
          rw [iv] at q
          refine cl_mono q ?_
          rintro r μ5 ⟨rfl, ⟨R5, J5⟩, F5⟩
          simp (disch := first | omega | assumption) only [mm_op_some, true_and, and_true, mm_rc_some, mm_rc_none, pk_mul, nI_add, mm_in_t, nI_clamp, ok0, ok1, ok2, ok3, ok4, n1_0, n0_0, nI_le_, nI_lt_, if_true, if_false, not_true, not_false_eq_true, ce_lt, ce_cl, hf_lt, hf_cl, wp_inc1 (y := zX6_step) (nI 1) ki_1 dX6_step_204, wp_goto (y := zX6_step) 172 (by decide) dX6_step_207]
          exact kx _ ⟨⟨R5, J5⟩, (F5 m (by omega)).trans h4, G4.trans F5.rm⟩
      · rw [if_neg hc] at kx
        have E1 : ∀ Q', cl sh zX6_isCell [.ref m, .int (nI i)] μ4 Q' = Q' (some (.int (nI 0))) μ4 := fun Q' => m_isCell0 O R4.1 J4.sdb hi hc
        simp (disch := first | omega | assumption) only [mm_op_some, true_and, and_true, mm_rc_some, mm_rc_none, pk_mul, nI_add, mm_in_t, nI_clamp, ok0, ok1, ok2, ok3, ok4, n1_0, n0_0, nI_le_, nI_lt_, if_true, if_false, not_true, not_false_eq_true, ce_lt, ce_cl, hf_lt, hf_cl, wp_bipush (y := zX6_step) (nI 48) kb_48 dX6_step_173, wp_icmp_ge (y := zX6_step) 210 (by decide) dX6_step_175, wp_al0 (y := zX6_step) dX6_step_178, wp_il1 (y := zX6_step) dX6_step_179, wp_cv1 (y := zX6_step) kM6_93 (by decide) dX6_step_180, (show yo zX6_isCell = 6 from rfl), wp_if_eq (y := zX6_step) 204 (by decide) dX6_step_183, wp_inc1 (y := zX6_step) (nI 1) ki_1 dX6_step_204, wp_goto (y := zX6_step) 172 (by decide) dX6_step_207, O.oc, O.g0, O.g1, O.g2, O.g3, O.g4, O.g5, O.g6, O.g7, O.g9, O.g10, O.g11, O.p0, O.p7, O.a1, O.a2, O.a3, O.a4, O.a5, O.a6, O.a7, O.a8, O.a9, h9, E1]
        exact kx _ ⟨⟨R4, J4⟩, h4, G4⟩
    · rintro μ4 ⟨⟨R4, J4⟩, h4, G4⟩
      generalize it goC 48 0 t0 = t at R4 J4 ⊢
      have h9 : (48 ≤ 48) = True := eq_true (Nat.le_refl _)
      have i3 : (mm_in (nI 3) 1786 = true) = True := mm_in_t (by decide) (by decide)
      have c3_ : (nI 3).toNatClampNeg = 3 := rfl
      rw [wp_il1 (y := zX6_step) dX6_step_172]
      simp (disch := first | omega | assumption) only [mm_op_some, true_and, and_true, nI_le_, if_true, mu_n, wp_bipush (y := zX6_step) (nI 48) kb_48 dX6_step_173, wp_icmp_ge (y := zX6_step) 210 (by decide) dX6_step_175, wp_al0 (y := zX6_step) dX6_step_210, wp_iconst (y := zX6_step) (nI 0) ki_0 dX6_step_211, wp_putf (y := zX6_step) kF6_102 rfl dX6_step_212, wp_al0 (y := zX6_step) dX6_step_215, wp_getf (y := zX6_step) kF6_9 dX6_step_216, wp_iconst (y := zX6_step) (nI 3) ki_3 dX6_step_219, wp_dup2 (y := zX6_step) dX6_step_220, wp_iald (y := zX6_step) dX6_step_221, wp_iconst (y := zX6_step) (nI 1) ki_1 dX6_step_222, wp_iadd (y := zX6_step) dX6_step_223, wp_iast (y := zX6_step) dX6_step_224, wp_vret (y := zX6_step) rfl dX6_step_225, O.oc, O.g0, O.g1, O.g2, O.g3, O.g4, O.g5, O.g6, O.g7, O.g9, O.g10, O.g11, O.p0, O.p7, O.a1, O.a2, O.a3, O.a4, O.a5, O.a6, O.a7, O.a8, O.a9, i3, c3_, h9]
      obtain ⟨A4, a0, a1, a2, a3, a4, a5, a6, a7, a8, a9, a10, a11⟩ := R4
      rw [h4, upd_s] at a3
      have e7 : mu (mu μ4 m (upd (μ4 m) 7 (nI 0))) (m + 1) (upd (μ4 (m + 1)) 3 (μ4 (m + 1) 3 + nI 1)) m = upd (μ4 m) 7 (nI 0) := by rw [mu_n _ _ (by omega), mu_s]
      refine ⟨⟨⟨?_, ?_⟩, J4, ?_⟩, ?_⟩
      · rw [mu_s]
        exact A4.cg (fun k k1 k2 => upd_n _ _ (by omega))
      · rw [mu_s, e7, upd_s]
        refine ⟨by rw [upd_n _ _ (by omega)]; exact a0, by rw [upd_n _ _ (by omega)]; exact a1, by rw [upd_n _ _ (by omega)]; exact a2, by rw [upd_s, i_add0]; exact a3, by rw [upd_n _ _ (by omega)]; exact a4, by rw [upd_n _ _ (by omega)]; exact a5, by rw [upd_n _ _ (by omega)]; exact a6, by rw [upd_n _ _ (by omega)]; exact a7, by rw [upd_n _ _ (by omega)]; exact a8, fun i hi => by rw [upd_n _ _ (by omega)]; exact a9 i hi, a10, fun i e he => ?_⟩
        rw [upd_n _ _ (by omega), upd_n _ _ (by omega), upd_n _ _ (by omega)]
        exact a11 i e he
      · rw [mu_s, upd_s]
      · have q := RM_mu7 G4 (nI 0)
        refine ⟨fun a ha hb => ?_, fun k hk => ?_⟩
        · rw [mu_n _ _ hb]; exact q.1 a ha hb
        · rw [e7]
          have := q.2 k hk
          rw [mu_s] at this
          exact this
end MST
