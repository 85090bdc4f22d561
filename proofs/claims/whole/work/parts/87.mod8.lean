section RCH
variable {M : Ms}
/-- at least as good an heir -/
def BE (M : Ms) (a b : Ce) : Prop := (ar M b).toInt < (ar M a).toInt ∨ ((ar M a).toInt = (ar M b).toInt ∧ a.val ≤ b.val)
theorem BE.anti {a b : Ce} (h1 : BE M a b) (h2 : BE M b a) : a = b := by
  unfold BE at h1 h2
  exact Fin.ext (by omega)
theorem BE.trans {a b c : Ce} (h1 : BE M a b) (h2 : BE M b c) : BE M a c := by
  unfold BE at *
  omega
theorem rich_be (d c : Ce) : BE M (rich M d c) d ∧ BE M (rich M d c) c ∧ (rich M d c = d ∨ rich M d c = c) := by
  refine ⟨?_, ?_, rich_or M d c⟩
  · unfold rich
    split
    · rename_i h
      rw [Int32.lt_iff_toInt_lt] at h
      exact Or.inl h
    · split
      · rename_i h
        have h := congrArg Int32.toInt h
        split
        · exact Or.inr ⟨h, by omega⟩
        · exact Or.inr ⟨rfl, by omega⟩
      · exact Or.inr ⟨rfl, by omega⟩
  · unfold rich
    split
    · exact Or.inr ⟨rfl, by omega⟩
    · rename_i h0
      rw [Int32.lt_iff_toInt_lt] at h0
      split
      · rename_i h
        have h := congrArg Int32.toInt h
        split
        · exact Or.inr ⟨rfl, by omega⟩
        · exact Or.inr ⟨h.symm, by omega⟩
      · rename_i h
        have h : (ar M c).toInt ≠ (ar M d).toInt := fun e => h (Int32.toInt_inj.mp e)
        exact Or.inl (by omega)
theorem rich_comm (x y z : Ce) : rich M (rich M x y) z = rich M (rich M x z) y := by
  obtain ⟨a1, a2, a3⟩ := rich_be (M := M) x y
  obtain ⟨b1, b2, b3⟩ := rich_be (M := M) (rich M x y) z
  obtain ⟨c1, c2, c3⟩ := rich_be (M := M) x z
  obtain ⟨d1, d2, d3⟩ := rich_be (M := M) (rich M x z) y
  have l : ∀ t, (t = x ∨ t = y ∨ t = z) → BE M (rich M (rich M x y) z) t := fun t ht => by
    rcases ht with rfl | rfl | rfl
    · exact b1.trans a1
    · exact b1.trans a2
    · exact b2
  have r : ∀ t, (t = x ∨ t = y ∨ t = z) → BE M (rich M (rich M x z) y) t := fun t ht => by
    rcases ht with rfl | rfl | rfl
    · exact d1.trans c1
    · exact d2
    · exact d1.trans c2
  refine (l _ ?_).anti (r _ ?_)
  · rcases d3 with h | h
    · rw [h]
      rcases c3 with h | h
      · exact Or.inl h
      · exact Or.inr (Or.inr h)
    · exact Or.inr (Or.inl h)
  · rcases b3 with h | h
    · rw [h]
      rcases a3 with h | h
      · exact Or.inl h
      · exact Or.inr (Or.inl h)
    · exact Or.inr (Or.inr h)
theorem rich_dec (d c : Ce) : rich M d c = if ar M d < ar M c ∨ (ar M c = ar M d ∧ c.val < d.val) then c else d := by
  unfold rich
  by_cases h1 : ar M d < ar M c
  · rw [if_pos h1, if_pos (Or.inl h1)]
  · rw [if_neg h1]
    by_cases h2 : ar M c = ar M d
    · rw [if_pos h2]
      by_cases h3 : c.val < d.val
      · rw [if_pos h3, if_pos (Or.inr ⟨h2, h3⟩)]
      · rw [if_neg h3, if_neg (fun z => z.elim h1 (fun t => h3 t.2))]
    · rw [if_neg h2, if_neg (fun z => z.elim h1 (fun t => h2 t.1))]
end RCH
theorem MeR.to {N N' : Ms} {r : Nat → Int32} (A : MeR N r) (hl : ∀ h, LvH N' h → LvH N h ∧ nx N' h = nx N h ∧ pv N' h = pv N h ∧ ow N' h = ow N h ∧ rx N' h = rx N h ∧ ry N' h = ry N h) (hw : ∀ w, (if lv N' w = true then ln N' w else -1) = if lv N w = true then ln N w else -1) (hs : sd N' = sd N) (ha : ∀ c, 0 < sd N' c → ar N' c = ar N c) : MeR N' r := by
  refine ⟨fun h lh => ?_, fun w => by rw [hw]; exact A.2.1 w, fun c => by rw [hs]; exact A.2.2.1 c, fun c hc => by rw [ha c hc]; rw [hs] at hc; exact A.2.2.2 c hc⟩
  obtain ⟨l, e1, e2, e3, e4, e5⟩ := hl h lh
  rw [e1, e2, e3, e4, e5]
  exact A.1 h l
theorem fu_comm {α β : Type} [DecidableEq α] (f : α → β) {a b : α} (x y : β) (h : a ≠ b) : fu (fu f a x) b y = fu (fu f b y) a x := by
  funext k
  unfold fu
  by_cases k1 : k = b
  · rw [if_pos k1, if_neg (fun e => h (e.symm.trans k1)), if_pos k1]
  · rw [if_neg k1]
    by_cases k2 : k = a
    · rw [if_pos k2, if_pos k2]
    · rw [if_neg k2, if_neg k2, if_neg k1]
section MVA
variable {sh : mm_Sh} {m : Nat} {M : Ms} {μ : mm_U} {s : Fo} {Q : Option Value → mm_U → Prop}
/-- one side of a cell that vanishes -/
def vsM (M : Ms) (i : Hf) : Ms := sLn (leM M (tw i)) (wl i) (-1)
theorem vsM_f (M : Ms) (i : Hf) : lv (vsM M i) = lv M ∧ ow (vsM M i) = ow M ∧ nx (vsM M i) = fu (nx M) (pv M (tw i)) (nx M (tw i)) ∧ pv (vsM M i) = fu (pv M) (nx M (tw i)) (pv M (tw i)) ∧ rx (vsM M i) = rx M ∧ ry (vsM M i) = ry M ∧ ln (vsM M i) = fu (ln M) (wl i) (-1) ∧ sd (vsM M i) = fu (sd M) (ow M (tw i)) (sd M (ow M (tw i)) - 1) ∧ ar (vsM M i) = ar M := by
  unfold vsM leM lkM
  refine ⟨?_, ?_, ?_, ?_, ?_, ?_, ?_, ?_, ?_⟩
  · simp only [g_lv_sLv, g_lv_sOw, g_lv_sNx, g_lv_sPv, g_lv_sRx, g_lv_sRy, g_lv_sLn, g_lv_sSd, g_lv_sAr]
  · simp only [g_ow_sLv, g_ow_sOw, g_ow_sNx, g_ow_sPv, g_ow_sRx, g_ow_sRy, g_ow_sLn, g_ow_sSd, g_ow_sAr]
  · simp only [g_nx_sLv, g_nx_sOw, g_nx_sNx, g_nx_sPv, g_nx_sRx, g_nx_sRy, g_nx_sLn, g_nx_sSd, g_nx_sAr]
  · simp only [g_pv_sLv, g_pv_sOw, g_pv_sNx, g_pv_sPv, g_pv_sRx, g_pv_sRy, g_pv_sLn, g_pv_sSd, g_pv_sAr]
  · simp only [g_rx_sLv, g_rx_sOw, g_rx_sNx, g_rx_sPv, g_rx_sRx, g_rx_sRy, g_rx_sLn, g_rx_sSd, g_rx_sAr]
  · simp only [g_ry_sLv, g_ry_sOw, g_ry_sNx, g_ry_sPv, g_ry_sRx, g_ry_sRy, g_ry_sLn, g_ry_sSd, g_ry_sAr]
  · simp only [g_ln_sLv, g_ln_sOw, g_ln_sNx, g_ln_sPv, g_ln_sRx, g_ln_sRy, g_ln_sLn, g_ln_sSd, g_ln_sAr]
  · simp only [g_sd_sLv, g_sd_sOw, g_sd_sNx, g_sd_sPv, g_sd_sRx, g_sd_sRy, g_sd_sLn, g_sd_sSd, g_sd_sAr]
  · simp only [g_ar_sLv, g_ar_sOw, g_ar_sNx, g_ar_sPv, g_ar_sRx, g_ar_sRy, g_ar_sLn, g_ar_sSd, g_ar_sAr]
/-- the loop's turn: the heir is known already -/
theorem m_vside (O : MoSh sh m) (A : MeR M (μ (m + 1))) (i : Hf) (li : LvH M i) (hs : 0 < sd M (ow M (tw i))) (c : Ce) (d : Ce) (k : Nat) (hk : k < 3) (hd : 0 < sd M d) (hsd : 0 < sd M (ow M (tw i))) (ni : pv M (tw i) ≠ i)
    (kk : ∀ μ', MeR (vsM M i) (μ' (m + 1)) → FrR μ μ' m → wp sh zX6_vanishes 11 [.ref m, .int (nI c.val), .int (nI (rich M d (ow M (tw i))).val), .int (nI (nx M i).val), .int (nI (k + 1))] [] μ' Q) : wp sh zX6_vanishes 11 [.ref m, .int (nI c.val), .int (nI d.val), .int (nI i.val), .int (nI k)] [] μ Q := by
  have E1 : ∀ Q', cl sh zX6_over [.ref m, .int (nI i.val)] μ Q' = Q' (some (.int (nI (ow M (tw i)).val))) μ := fun Q' => m_over O A i li
  have E2 : ∀ Q', cl sh zX6_isRicher [.ref m, .int (nI (ow M (tw i)).val), .int (nI d.val)] μ Q' = Q' (some (.int (bI (decide (ar M d < ar M (ow M (tw i)) ∨ (ar M (ow M (tw i)) = ar M d ∧ (ow M (tw i)).val < d.val)))))) μ := fun Q' => m_isRicher O A hsd hd
  have h9 : (3 ≤ k) = False := eq_false (by omega)
  have n1 : (nI d.val = (-1 : Int32)) = False := nI_m1 (by omega)
  have pre : ∀ QQ, wp sh zX6_vanishes 11 [.ref m, .int (nI c.val), .int (nI d.val), .int (nI i.val), .int (nI k)] [] μ QQ = wp sh zX6_vanishes 45 [.ref m, .int (nI c.val), .int (nI (rich M d (ow M (tw i))).val), .int (nI i.val), .int (nI k)] [] μ QQ := by
    intro QQ
    rw [rich_dec]
    by_cases hr : ar M d < ar M (ow M (tw i)) ∨ (ar M (ow M (tw i)) = ar M d ∧ (ow M (tw i)).val < d.val)
    · rw [decide_eq_true hr] at E2
      rw [if_pos hr, wp_il4 (y := zX6_vanishes) dX6_vanishes_11]
      simp (disch := first | omega | assumption) only [mm_op_some, true_and, and_true, mm_rc_some, mm_rc_none, pk_mul, nI_add, mm_in_t, nI_clamp, ok0, ok1, ok2, ok3, ok4, n1_0, n0_0, nI_le_, nI_lt_, if_true, if_false, not_true, not_false_eq_true, ce_lt, ce_cl, hf_lt, hf_cl, wp_iconst (y := zX6_vanishes) (nI 3) ki_3 dX6_vanishes_13, wp_icmp_ge (y := zX6_vanishes) 77 (by decide) dX6_vanishes_14, wp_il2 (y := zX6_vanishes) dX6_vanishes_17, wp_iconst (y := zX6_vanishes) ((-1)) ki_m1 dX6_vanishes_18, wp_icmp_eq (y := zX6_vanishes) 35 (by decide) dX6_vanishes_19, wp_al0 (y := zX6_vanishes) dX6_vanishes_22, wp_al0 (y := zX6_vanishes) dX6_vanishes_23, wp_il3 (y := zX6_vanishes) dX6_vanishes_24, wp_cv1 (y := zX6_vanishes) kM6_105 (by decide) dX6_vanishes_25, (show yo zX6_over = 6 from rfl), wp_il2 (y := zX6_vanishes) dX6_vanishes_28, wp_cv2 (y := zX6_vanishes) kM6_156 (by decide) dX6_vanishes_29, (show yo zX6_isRicher = 6 from rfl), wp_if_eq (y := zX6_vanishes) 43 (by decide) dX6_vanishes_32, wp_al0 (y := zX6_vanishes) dX6_vanishes_35, wp_il3 (y := zX6_vanishes) dX6_vanishes_36, wp_cv1 (y := zX6_vanishes) kM6_105 (by decide) dX6_vanishes_37, (show yo zX6_over = 6 from rfl), wp_goto (y := zX6_vanishes) 44 (by decide) dX6_vanishes_40, wp_is2 (y := zX6_vanishes) dX6_vanishes_44, O.oc, O.g0, O.g1, O.g2, O.g3, O.g4, O.g5, O.g6, O.g7, O.g9, O.g10, O.g11, O.p0, O.p7, O.a1, O.a2, O.a3, O.a4, O.a5, O.a6, O.a7, O.a8, O.a9, E1, E2, bI_t, h9, n1]
    · rw [decide_eq_false hr] at E2
      rw [if_neg hr, wp_il4 (y := zX6_vanishes) dX6_vanishes_11]
      simp (disch := first | omega | assumption) only [mm_op_some, true_and, and_true, mm_rc_some, mm_rc_none, pk_mul, nI_add, mm_in_t, nI_clamp, ok0, ok1, ok2, ok3, ok4, n1_0, n0_0, nI_le_, nI_lt_, if_true, if_false, not_true, not_false_eq_true, ce_lt, ce_cl, hf_lt, hf_cl, wp_iconst (y := zX6_vanishes) (nI 3) ki_3 dX6_vanishes_13, wp_icmp_ge (y := zX6_vanishes) 77 (by decide) dX6_vanishes_14, wp_il2 (y := zX6_vanishes) dX6_vanishes_17, wp_iconst (y := zX6_vanishes) ((-1)) ki_m1 dX6_vanishes_18, wp_icmp_eq (y := zX6_vanishes) 35 (by decide) dX6_vanishes_19, wp_al0 (y := zX6_vanishes) dX6_vanishes_22, wp_al0 (y := zX6_vanishes) dX6_vanishes_23, wp_il3 (y := zX6_vanishes) dX6_vanishes_24, wp_cv1 (y := zX6_vanishes) kM6_105 (by decide) dX6_vanishes_25, (show yo zX6_over = 6 from rfl), wp_il2 (y := zX6_vanishes) dX6_vanishes_28, wp_cv2 (y := zX6_vanishes) kM6_156 (by decide) dX6_vanishes_29, (show yo zX6_isRicher = 6 from rfl), wp_if_eq (y := zX6_vanishes) 43 (by decide) dX6_vanishes_32, wp_il2 (y := zX6_vanishes) dX6_vanishes_43, wp_is2 (y := zX6_vanishes) dX6_vanishes_44, O.oc, O.g0, O.g1, O.g2, O.g3, O.g4, O.g5, O.g6, O.g7, O.g9, O.g10, O.g11, O.p0, O.p7, O.a1, O.a2, O.a3, O.a4, O.a5, O.a6, O.a7, O.a8, O.a9, E1, E2, bI_f, h9, n1]
  rw [pre]
  simp (disch := first | omega | assumption) only [mm_op_some, true_and, and_true, mm_rc_some, mm_rc_none, pk_mul, nI_add, mm_in_t, nI_clamp, ok0, ok1, ok2, ok3, ok4, n1_0, n0_0, nI_le_, nI_lt_, if_true, if_false, not_true, not_false_eq_true, ce_lt, ce_cl, hf_lt, hf_cl, nI_xor, tw_xor, wp_al0 (y := zX6_vanishes) dX6_vanishes_45, wp_il3 (y := zX6_vanishes) dX6_vanishes_46, wp_iconst (y := zX6_vanishes) (nI 1) ki_1 dX6_vanishes_47, wp_ixor (y := zX6_vanishes) dX6_vanishes_48, wp_cv1 (y := zX6_vanishes) kM6_124 (by decide) dX6_vanishes_49, (show yo zX6_leave = 6 from rfl), O.oc, O.g0, O.g1, O.g2, O.g3, O.g4, O.g5, O.g6, O.g7, O.g9, O.g10, O.g11, O.p0, O.p7, O.a1, O.a2, O.a3, O.a4, O.a5, O.a6, O.a7, O.a8, O.a9]
  refine cl_mono (m_leave O A (tw i) (LvH_tw.mpr li) hs) ?_
  rintro r μ1 ⟨rfl, A1, F1⟩
  have A2 := A1.wLn (wl i) (-1) li
  have k2 : ¬ nI 2 = 0 := by decide
  have wd : nI i.val / nI 2 = nI (wl i).val := wl_div i
  have E3 : ∀ Q', cl sh zX6_next [.ref m, .int (nI i.val)] (mu μ1 (m + 1) (upd (μ1 (m + 1)) (1456 + (wl i).val) (-1))) Q' = Q' (some (.int (nI (nx M i).val))) (mu μ1 (m + 1) (upd (μ1 (m + 1)) (1456 + (wl i).val) (-1))) := fun Q' => by
    have q := m_next (Q := Q') (M := vsM M i) (μ := mu μ1 (m + 1) (upd (μ1 (m + 1)) (1456 + (wl i).val) (-1))) O (by rw [mu_s]; exact A2) i li
    rw [(vsM_f M i).2.2.1, fu_n _ _ (fun e => ni e.symm)] at q
    exact q
  simp (disch := first | omega | assumption) only [mm_op_some, true_and, and_true, mm_rc_some, mm_rc_none, pk_mul, nI_add, mm_in_t, nI_clamp, ok0, ok1, ok2, ok3, ok4, n1_0, n0_0, nI_le_, nI_lt_, if_true, if_false, not_true, not_false_eq_true, ce_lt, ce_cl, hf_lt, hf_cl, wp_al0 (y := zX6_vanishes) dX6_vanishes_52, wp_getf (y := zX6_vanishes) kF6_9 dX6_vanishes_53, wp_sipush (y := zX6_vanishes) (nI 1456) ks_1456 dX6_vanishes_56, wp_il3 (y := zX6_vanishes) dX6_vanishes_59, wp_iconst (y := zX6_vanishes) (nI 2) ki_2 dX6_vanishes_60, wp_idiv' (y := zX6_vanishes) dX6_vanishes_61, wp_iadd (y := zX6_vanishes) dX6_vanishes_62, wp_iconst (y := zX6_vanishes) ((-1)) ki_m1 dX6_vanishes_63, wp_iast (y := zX6_vanishes) dX6_vanishes_64, wp_al0 (y := zX6_vanishes) dX6_vanishes_65, wp_il3 (y := zX6_vanishes) dX6_vanishes_66, wp_cv1 (y := zX6_vanishes) kM6_90 (by decide) dX6_vanishes_67, (show yo zX6_next = 6 from rfl), wp_is3 (y := zX6_vanishes) dX6_vanishes_70, wp_inc4 (y := zX6_vanishes) (nI 1) ki_1 dX6_vanishes_71, wp_goto (y := zX6_vanishes) 11 (by decide) dX6_vanishes_74, O.oc, O.g0, O.g1, O.g2, O.g3, O.g4, O.g5, O.g6, O.g7, O.g9, O.g10, O.g11, O.p0, O.p7, O.a1, O.a2, O.a3, O.a4, O.a5, O.a6, O.a7, O.a8, O.a9, wd, E3]
  exact kk _ (by rw [mu_s]; exact A2) (FrR_mu F1 _ _ (by omega) (by omega))
theorem MeR.kill {r : Nat → Int32} (A : MeR M r) (w : Wa) (hw : lv M w = true → ln M w = -1) : MeR (sLv M w false) r := by
  refine A.to (fun h lh => ?_) (fun v => ?_) rfl (fun _ _ => rfl)
  · have lg : fu (lv M) w false (wl h) = true := lh
    have z : wl h ≠ w := fun e => by rw [e, fu_s] at lg; cases lg
    rw [fu_n _ _ z] at lg
    exact ⟨lg, rfl, rfl, rfl, rfl, rfl⟩
  · show (if fu (lv M) w false v = true then ln M v else -1) = _
    by_cases z : v = w
    · rw [z, fu_s, if_neg (by decide)]
      by_cases y : lv M w = true
      · rw [if_pos y, hw y]
      · rw [if_neg y]
    · rw [fu_n _ _ z]
end MVA
