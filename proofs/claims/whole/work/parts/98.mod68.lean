section MCL
variable {sh : mm_Sh} {m : Nat} {M : Ms} {μ : mm_U} {s : Fo} {Q : Option Value → mm_U → Prop}
def lnn (M : Ms) (w : Wa) : Nat := (ln M w).toNatClampNeg
theorem Inv.lnE (J : Inv M) {w : Wa} (hl : lv M w = true) : ln M w = nI (lnn M w) ∧ lnn M w ≤ 99 := by
  obtain ⟨n, hn, e⟩ := J.lnb w hl
  unfold lnn
  rw [e, nI_clamp (by omega)]
  exact ⟨rfl, hn⟩
theorem sH_N (M : Ms) (c : Ce) (f : Hf → Nat) : sH M c (fun h => nI (f h)) = nI (sm 288 (fun i => if fib M c (hI i) = true then f (hI i) else 0)) := by
  rw [← it_sm (fun i => fib M c (hI i) = true) (fun i => f (hI i)) 288]
  unfold sH
  refine it_congr 288 0 _ (fun j a _ _ => ?_)
  by_cases z : fib M c (hI j) = true
  · have z' : lv M (wl (hI j)) = true ∧ ow M (hI j) = c := fib_iff.mp z
    rw [if_pos z, if_pos z']
  · have z' : ¬ (lv M (wl (hI j)) = true ∧ ow M (hI j) = c) := fun q => z (fib_iff.mpr q)
    rw [if_neg z, if_neg z']
theorem Inv.sHl (J : Inv M) (c : Ce) : sH M c (fun h => ln M (wl h)) = nI (sm 288 (fun i => if fib M c (hI i) = true then lnn M (wl (hI i)) else 0)) := by
  rw [← sH_N M c (fun h => lnn M (wl h))]
  unfold sH
  refine it_congr 288 0 _ (fun j a _ _ => ?_)
  by_cases z : lv M (wl (hI j)) = true ∧ ow M (hI j) = c
  · rw [if_pos z, if_pos z]
    show a + ln M (wl (hI j)) = a + nI (lnn M (wl (hI j)))
    rw [(J.lnE z.1).1]
  · rw [if_neg z, if_neg z]
theorem m_lengthsOf (O : MoSh sh m) (A : MeR M (μ (m + 1))) (J : Inv M) (c : Ce) (hc : 0 < sd M c) : cl sh zX6_lengthsOf [.ref m, .int (nI c.val)] μ Q = Q (some (.int (sH M c (fun h => ln M (wl h))))) μ := by
  obtain ⟨f, fh, _⟩ := J.hasF c hc
  obtain ⟨lf, of⟩ := fH_ow fh
  have E0 : ∀ Q', cl sh zX6_firstSide [.ref m, .int (nI c.val)] μ Q' = Q' (some (.int (nI f.val))) μ := fun Q' => m_firstSide O A J.lnb c f fh
  have E1 : ∀ Q', cl sh zX6_sidesOf [.ref m, .int (nI c.val)] μ Q' = Q' (some (.int (nI (sd M c)))) μ := fun Q' => m_sidesOf O A c
  have b := J.sdb c
  have k2 : ¬ nI 2 = 0 := by decide
  have eab : sm 288 (fun i => if fib M c (hI i) = true then lnn M (wl (hI i)) else 0) = sm (sd M c) (fun j => lnn M (wl (itn (nx M) j f))) := by
    have q := J.cys (fun h => lnn M (wl h)) lf
    rw [of] at q
    exact q
  rw [J.sHl c, eab]
  have key : ∀ d i, i + d = sd M c → wp sh zX6_lengthsOf 11 [.ref m, .int (nI c.val), .int (nI (sm i (fun j => lnn M (wl (itn (nx M) j f))))), .int (nI (itn (nx M) i f).val), .int (nI i)] [] μ Q = Q (some (.int (nI (sm (sd M c) (fun j => lnn M (wl (itn (nx M) j f))))))) μ := by
    intro d
    induction d with
    | zero =>
      intro i hi
      have e : i = sd M c := by omega
      rw [e, wp_il4 (y := zX6_lengthsOf) dX6_lengthsOf_11]
      simp (disch := first | omega | assumption) only [mm_op_some, true_and, and_true, mm_rc_some, mm_rc_none, pk_mul, nI_add, mm_in_t, nI_clamp, ok0, ok1, ok2, ok3, ok4, n1_0, n0_0, nI_le_, nI_lt_, if_true, if_false, not_true, not_false_eq_true, ce_lt, ce_cl, hf_lt, hf_cl, wp_al0 (y := zX6_lengthsOf) dX6_lengthsOf_13, wp_il1 (y := zX6_lengthsOf) dX6_lengthsOf_14, wp_cv1 (y := zX6_lengthsOf) kM6_115 (by decide) dX6_lengthsOf_15, (show yo zX6_sidesOf = 6 from rfl), wp_icmp_ge (y := zX6_lengthsOf) 48 (by decide) dX6_lengthsOf_18, wp_il2 (y := zX6_lengthsOf) dX6_lengthsOf_48, wp_ireti (y := zX6_lengthsOf) rfl dX6_lengthsOf_49, O.oc, O.g0, O.g1, O.g2, O.g3, O.g4, O.g5, O.g6, O.g7, O.g9, O.g10, O.g11, O.p0, O.p7, O.a1, O.a2, O.a3, O.a4, O.a5, O.a6, O.a7, O.a8, O.a9, E1, Nat.le_refl]
    | succ d ih =>
      intro i hi
      have h9 : (sd M c ≤ i) = False := eq_false (by omega)
      have lh := (J.1.lit i f lf).1
      have k := ih (i + 1) (by omega)
      rw [itn_s] at k
      have sm1 : sm (i + 1) (fun j => lnn M (wl (itn (nx M) j f))) = sm i (fun j => lnn M (wl (itn (nx M) j f))) + lnn M (wl (itn (nx M) i f)) := rfl
      rw [sm1] at k
      generalize sm i (fun j => lnn M (wl (itn (nx M) j f))) = acc at k ⊢
      generalize itn (nx M) i f = g at k lh ⊢
      have dv := wl_div g
      have rl := A.lnv lh
      rw [(J.lnE lh).1] at rl
      have wb := (wl g).isLt
      have E4 : ∀ Q', cl sh zX6_next [.ref m, .int (nI g.val)] μ Q' = Q' (some (.int (nI (nx M g).val))) μ := fun Q' => m_next O A _ lh
      rw [wp_il4 (y := zX6_lengthsOf) dX6_lengthsOf_11]
      simp (disch := first | omega | assumption) only [mm_op_some, true_and, and_true, mm_rc_some, mm_rc_none, pk_mul, nI_add, mm_in_t, nI_clamp, ok0, ok1, ok2, ok3, ok4, n1_0, n0_0, nI_le_, nI_lt_, if_true, if_false, not_true, not_false_eq_true, ce_lt, ce_cl, hf_lt, hf_cl, wp_al0 (y := zX6_lengthsOf) dX6_lengthsOf_13, wp_il1 (y := zX6_lengthsOf) dX6_lengthsOf_14, wp_cv1 (y := zX6_lengthsOf) kM6_115 (by decide) dX6_lengthsOf_15, (show yo zX6_sidesOf = 6 from rfl), wp_icmp_ge (y := zX6_lengthsOf) 48 (by decide) dX6_lengthsOf_18, wp_il2 (y := zX6_lengthsOf) dX6_lengthsOf_21, wp_al0 (y := zX6_lengthsOf) dX6_lengthsOf_22, wp_getf (y := zX6_lengthsOf) kF6_9 dX6_lengthsOf_23, wp_sipush (y := zX6_lengthsOf) (nI 1456) ks_1456 dX6_lengthsOf_26, wp_il3 (y := zX6_lengthsOf) dX6_lengthsOf_29, wp_iconst (y := zX6_lengthsOf) (nI 2) ki_2 dX6_lengthsOf_30, wp_idiv' (y := zX6_lengthsOf) dX6_lengthsOf_31, wp_iadd (y := zX6_lengthsOf) dX6_lengthsOf_32, wp_iald (y := zX6_lengthsOf) dX6_lengthsOf_33, wp_iadd (y := zX6_lengthsOf) dX6_lengthsOf_34, wp_is2 (y := zX6_lengthsOf) dX6_lengthsOf_35, wp_al0 (y := zX6_lengthsOf) dX6_lengthsOf_36, wp_il3 (y := zX6_lengthsOf) dX6_lengthsOf_37, wp_cv1 (y := zX6_lengthsOf) kM6_90 (by decide) dX6_lengthsOf_38, (show yo zX6_next = 6 from rfl), wp_is3 (y := zX6_lengthsOf) dX6_lengthsOf_41, wp_inc4 (y := zX6_lengthsOf) (nI 1) ki_1 dX6_lengthsOf_42, wp_goto (y := zX6_lengthsOf) 11 (by decide) dX6_lengthsOf_45, O.oc, O.g0, O.g1, O.g2, O.g3, O.g4, O.g5, O.g6, O.g7, O.g9, O.g10, O.g11, O.p0, O.p7, O.a1, O.a2, O.a3, O.a4, O.a5, O.a6, O.a7, O.a8, O.a9, E1, E4, h9, k2, dv, rl]
      exact k
  show wp sh zX6_lengthsOf 0 [.ref m, .int (nI c.val), .null, .null, .null] [] μ Q = _
  simp (disch := first | omega | assumption) only [mm_op_some, true_and, and_true, mm_rc_some, mm_rc_none, pk_mul, nI_add, mm_in_t, nI_clamp, ok0, ok1, ok2, ok3, ok4, n1_0, n0_0, nI_le_, nI_lt_, if_true, if_false, not_true, not_false_eq_true, ce_lt, ce_cl, hf_lt, hf_cl, wp_iconst (y := zX6_lengthsOf) (nI 0) ki_0 dX6_lengthsOf_0, wp_is2 (y := zX6_lengthsOf) dX6_lengthsOf_1, wp_al0 (y := zX6_lengthsOf) dX6_lengthsOf_2, wp_il1 (y := zX6_lengthsOf) dX6_lengthsOf_3, wp_cv1 (y := zX6_lengthsOf) kM6_87 (by decide) dX6_lengthsOf_4, (show yo zX6_firstSide = 6 from rfl), wp_is3 (y := zX6_lengthsOf) dX6_lengthsOf_7, wp_iconst (y := zX6_lengthsOf) (nI 0) ki_0 dX6_lengthsOf_8, wp_is4 (y := zX6_lengthsOf) dX6_lengthsOf_9, O.oc, O.g0, O.g1, O.g2, O.g3, O.g4, O.g5, O.g6, O.g7, O.g9, O.g10, O.g11, O.p0, O.p7, O.a1, O.a2, O.a3, O.a4, O.a5, O.a6, O.a7, O.a8, O.a9, E0]
  exact key (sd M c) 0 (by omega)
/-- the class counts those beside by their least wall -/
def unl (M : Ms) (c : Ce) : Int32 := it (fun i a => if fd (fun j => bt M (wI j) c (cI i)) 144 0 = none then a else a + nI 1) 48 0 (nI 0)
theorem Inv.unE (J : Inv M) (c : Ce) : it (fun i a => if 0 < sd M (cI i) then (if 0 < wB M c (cI i) then a + nI 1 else a) else a) 48 0 (nI 0) = unl M c := by
  unfold unl
  refine it_congr 48 0 _ (fun i a _ _ => ?_)
  by_cases z : 0 < wB M c (cI i)
  · obtain ⟨w, hw⟩ := wB_ex z
    have nn : ¬ fd (fun j => bt M (wI j) c (cI i)) 144 0 = none := fun q => by
      have := fd_none q w.val (Nat.zero_le _) (by have := w.isLt; omega)
      rw [wI_val, hw] at this
      cases this
    rw [if_pos (J.wB_l z).2.1, if_pos z, if_neg nn]
  · have nn : fd (fun j => bt M (wI j) c (cI i)) 144 0 = none := by
      cases q : fd (fun j => bt M (wI j) c (cI i)) 144 0 with
      | none => rfl
      | some j => exact absurd (wB_in (fd_some q).1) z
    rw [if_pos nn, if_neg z, ite_self]
def a_cell (M : Ms) (c : Ce) (what : Int32) : Int32 := if what = nI 0 then nI (sd M c) else if what = nI 1 then ar M c else if what = nI 2 then nI 6 - nI (sd M c) else if what = nI 3 then sH M c (fun h => ln M (wl h)) else if what = nI 4 then sH M c (fun h => nI (sd M (ow M (tw h)))) else if what = nI 5 then unl M c else -2147483648
/-- what is left when a cell isn't there -/
def MX (m : Nat) (μ : mm_U) (s : Fo) : Option Value → mm_U → Prop := fun r μ' => r = some (.int (nI 0)) ∧ RepM s μ' m ∧ μ' m 7 = nI 0 ∧ μ' m 0 = nI 1 ∧ ∀ a, m + 3 ≤ a → a ≤ m + 6 → μ' a = μ a
theorem mx_of (g0 : μ m 7 = nI 0) (R : RepM s μ m) : MX m μ s (some (.int (nI 0))) (mu μ m (upd (μ m) 0 (nI 1))) := ⟨rfl, R.mu0 (nI 1), by rw [mu_s, upd_n _ _ (by omega)]; exact g0, by rw [mu_s, upd_s], fun a h1 h2 => by rw [mu_n _ _ (by omega)]⟩
theorem m_isThereN (O : MoSh sh m) (A : MeR M (μ (m + 1))) (J : Inv M) {x : Int32} (h : ceO M x = none) : cl sh zX6_isThere [.ref m, .int x] μ Q = Q (some (.int (nI 0))) (mu μ m (upd (μ m) 0 (nI 1))) := by
  have E1 : ∀ Q', cl sh zX6_isCell [.ref m, .int x] μ Q' = Q' (some (.int (nI 0))) μ := fun Q' => m_isCellN O A J.sdb h
  show wp sh zX6_isThere 0 [.ref m, .int x] [] μ Q = _
  simp (disch := first | omega | assumption) only [mm_op_some, true_and, and_true, mm_rc_some, mm_rc_none, pk_mul, nI_add, mm_in_t, nI_clamp, ok0, ok1, ok2, ok3, ok4, n1_0, n0_0, nI_le_, nI_lt_, if_true, if_false, not_true, not_false_eq_true, ce_lt, ce_cl, hf_lt, hf_cl, n0_zz, n1_zz, wp_al0 (y := zX6_isThere) dX6_isThere_0, wp_al0 (y := zX6_isThere) dX6_isThere_1, wp_il1 (y := zX6_isThere) dX6_isThere_2, wp_cv1 (y := zX6_isThere) kM6_93 (by decide) dX6_isThere_3, (show yo zX6_isCell = 6 from rfl), wp_if_eq (y := zX6_isThere) 13 (by decide) dX6_isThere_6, wp_iconst (y := zX6_isThere) (nI 1) ki_1 dX6_isThere_13, wp_putf (y := zX6_isThere) kF6_44 rfl dX6_isThere_14, wp_al0 (y := zX6_isThere) dX6_isThere_17, wp_getf (y := zX6_isThere) kF6_44 dX6_isThere_18, wp_if_ne (y := zX6_isThere) 28 (by decide) dX6_isThere_21, wp_iconst (y := zX6_isThere) (nI 0) ki_0 dX6_isThere_28, wp_iretz (y := zX6_isThere) rfl dX6_isThere_29, O.oc, O.g0, O.g1, O.g2, O.g3, O.g4, O.g5, O.g6, O.g7, O.g9, O.g10, O.g11, O.p0, O.p7, O.a1, O.a2, O.a3, O.a4, O.a5, O.a6, O.a7, O.a8, O.a9, E1, mu_s, upd_s, true_or]
theorem m_isThereS (O : MoSh sh m) (A : MeR M (μ (m + 1))) (J : Inv M) {c : Ce} (h : 0 < sd M c) : cl sh zX6_isThere [.ref m, .int (nI c.val)] μ Q = Q (some (.int (nI 1))) (mu μ m (upd (μ m) 0 (nI 0))) := by
  have n11 : (nI 1 = (1 : Int32)) = True := eq_true rfl
  have E1 : ∀ Q', cl sh zX6_isCell [.ref m, .int (nI c.val)] μ Q' = Q' (some (.int (nI 1))) μ := fun Q' => m_isCellS O A J.sdb h
  show wp sh zX6_isThere 0 [.ref m, .int (nI c.val)] [] μ Q = _
  simp (disch := first | omega | assumption) only [mm_op_some, true_and, and_true, mm_rc_some, mm_rc_none, pk_mul, nI_add, mm_in_t, nI_clamp, ok0, ok1, ok2, ok3, ok4, n1_0, n0_0, nI_le_, nI_lt_, if_true, if_false, not_true, not_false_eq_true, ce_lt, ce_cl, hf_lt, hf_cl, n0_zz, n1_zz, wp_al0 (y := zX6_isThere) dX6_isThere_0, wp_al0 (y := zX6_isThere) dX6_isThere_1, wp_il1 (y := zX6_isThere) dX6_isThere_2, wp_cv1 (y := zX6_isThere) kM6_93 (by decide) dX6_isThere_3, (show yo zX6_isCell = 6 from rfl), wp_if_eq (y := zX6_isThere) 13 (by decide) dX6_isThere_6, wp_iconst (y := zX6_isThere) (nI 0) ki_0 dX6_isThere_9, wp_goto (y := zX6_isThere) 14 (by decide) dX6_isThere_10, wp_putf (y := zX6_isThere) kF6_44 rfl dX6_isThere_14, wp_al0 (y := zX6_isThere) dX6_isThere_17, wp_getf (y := zX6_isThere) kF6_44 dX6_isThere_18, wp_if_ne (y := zX6_isThere) 28 (by decide) dX6_isThere_21, wp_iconst (y := zX6_isThere) (nI 1) ki_1 dX6_isThere_24, wp_goto (y := zX6_isThere) 29 (by decide) dX6_isThere_25, wp_iretz (y := zX6_isThere) rfl dX6_isThere_29, O.oc, O.g0, O.g1, O.g2, O.g3, O.g4, O.g5, O.g6, O.g7, O.g9, O.g10, O.g11, O.p0, O.p7, O.a1, O.a2, O.a3, O.a4, O.a5, O.a6, O.a7, O.a8, O.a9, E1, mu_s, upd_s, false_or, n11]
theorem m_thrown (O : MoSh sh m) : cl sh zX6_thrown [.ref m] μ Q = Q (some (.int (μ m 0))) μ := by
  show wp sh zX6_thrown 0 [.ref m] [] μ Q = _
  simp (disch := first | omega | assumption) only [mm_op_some, true_and, and_true, mm_rc_some, mm_rc_none, pk_mul, nI_add, mm_in_t, nI_clamp, ok0, ok1, ok2, ok3, ok4, n1_0, n0_0, nI_le_, nI_lt_, if_true, if_false, not_true, not_false_eq_true, ce_lt, ce_cl, hf_lt, hf_cl, wp_al0 (y := zX6_thrown) dX6_thrown_0, wp_getf (y := zX6_thrown) kF6_44 dX6_thrown_1, wp_ireti (y := zX6_thrown) rfl dX6_thrown_4, O.oc, O.g0, O.g1, O.g2, O.g3, O.g4, O.g5, O.g6, O.g7, O.g9, O.g10, O.g11, O.p0, O.p7, O.a1, O.a2, O.a3, O.a4, O.a5, O.a6, O.a7, O.a8, O.a9]
theorem m_cellN (O : MoSh sh m) (R : RepM s μ m) (J : Inv s.1) (g0 : μ m 7 = nI 0) (x what : Int32) (h : ceO s.1 x = none) : cl sh zX6_cell [.ref m, .int x, .int what] μ (MX m μ s) := by
  have E1 : ∀ Q', cl sh zX6_isThere [.ref m, .int x] μ Q' = Q' (some (.int (nI 0))) (mu μ m (upd (μ m) 0 (nI 1))) := fun Q' => m_isThereN O R.1 J h
  have fin := mx_of g0 R
  show wp sh zX6_cell 0 [.ref m, .int x, .int what] [] μ _
  generalize MX m μ s = QQ at fin ⊢
  simp (disch := first | omega | assumption) only [mm_op_some, true_and, and_true, mm_rc_some, mm_rc_none, pk_mul, nI_add, mm_in_t, nI_clamp, ok0, ok1, ok2, ok3, ok4, n1_0, n0_0, nI_le_, nI_lt_, if_true, if_false, not_true, not_false_eq_true, ce_lt, ce_cl, hf_lt, hf_cl, n0_zz, n1_zz, wp_al0 (y := zX6_cell) dX6_cell_0, wp_il1 (y := zX6_cell) dX6_cell_1, wp_cv1 (y := zX6_cell) kM6_240 (by decide) dX6_cell_2, (show yo zX6_isThere = 6 from rfl), wp_if_ne (y := zX6_cell) 10 (by decide) dX6_cell_5, wp_iconst (y := zX6_cell) (nI 0) ki_0 dX6_cell_8, wp_ireti (y := zX6_cell) rfl dX6_cell_9, O.oc, O.g0, O.g1, O.g2, O.g3, O.g4, O.g5, O.g6, O.g7, O.g9, O.g10, O.g11, O.p0, O.p7, O.a1, O.a2, O.a3, O.a4, O.a5, O.a6, O.a7, O.a8, O.a9, E1]
  exact fin
theorem m_sideN (O : MoSh sh m) (R : RepM s μ m) (J : Inv s.1) (g0 : μ m 7 = nI 0) (x y what : Int32) (h : ceO s.1 x = none) : cl sh zX6_side [.ref m, .int x, .int y, .int what] μ (MX m μ s) := by
  have E1 : ∀ Q', cl sh zX6_isThere [.ref m, .int x] μ Q' = Q' (some (.int (nI 0))) (mu μ m (upd (μ m) 0 (nI 1))) := fun Q' => m_isThereN O R.1 J h
  have fin := mx_of g0 R
  show wp sh zX6_side 0 [.ref m, .int x, .int y, .int what, .null] [] μ _
  generalize MX m μ s = QQ at fin ⊢
  simp (disch := first | omega | assumption) only [mm_op_some, true_and, and_true, mm_rc_some, mm_rc_none, pk_mul, nI_add, mm_in_t, nI_clamp, ok0, ok1, ok2, ok3, ok4, n1_0, n0_0, nI_le_, nI_lt_, if_true, if_false, not_true, not_false_eq_true, ce_lt, ce_cl, hf_lt, hf_cl, n0_zz, n1_zz, wp_al0 (y := zX6_side) dX6_side_0, wp_il1 (y := zX6_side) dX6_side_1, wp_cv1 (y := zX6_side) kM6_240 (by decide) dX6_side_2, (show yo zX6_isThere = 6 from rfl), wp_if_ne (y := zX6_side) 10 (by decide) dX6_side_5, wp_iconst (y := zX6_side) (nI 0) ki_0 dX6_side_8, wp_ireti (y := zX6_side) rfl dX6_side_9, O.oc, O.g0, O.g1, O.g2, O.g3, O.g4, O.g5, O.g6, O.g7, O.g9, O.g10, O.g11, O.p0, O.p7, O.a1, O.a2, O.a3, O.a4, O.a5, O.a6, O.a7, O.a8, O.a9, E1]
  exact fin
theorem m_cellS (O : MoSh sh m) (R : RepM s μ m) (J : Inv s.1) (g0 : μ m 7 = nI 0) (c : Ce) (what : Int32) (hc : 0 < sd s.1 c) : cl sh zX6_cell [.ref m, .int (nI c.val), .int what] μ (MT m μ (a_cell s.1 c what, s)) := by
  have R0 := R.mu0 (nI 0)
  have A := R0.1
  have E1 : ∀ Q', cl sh zX6_isThere [.ref m, .int (nI c.val)] μ Q' = Q' (some (.int (nI 1))) (mu μ m (upd (μ m) 0 (nI 0))) := fun Q' => m_isThereS O R.1 J hc
  have ES : ∀ Q', cl sh zX6_sidesOf [.ref m, .int (nI c.val)] (mu μ m (upd (μ m) 0 (nI 0))) Q' = Q' (some (.int (nI (sd s.1 c)))) (mu μ m (upd (μ m) 0 (nI 0))) := fun Q' => m_sidesOf O A c
  have ET : ∀ Q', cl sh zX6_turn [.ref m, .int (nI c.val)] (mu μ m (upd (μ m) 0 (nI 0))) Q' = Q' (some (.int (nI 6 - nI (sd s.1 c)))) (mu μ m (upd (μ m) 0 (nI 0))) := fun Q' => m_turn O A c
  have EL : ∀ Q', cl sh zX6_lengthsOf [.ref m, .int (nI c.val)] (mu μ m (upd (μ m) 0 (nI 0))) Q' = Q' (some (.int (sH s.1 c (fun h => ln s.1 (wl h))))) (mu μ m (upd (μ m) 0 (nI 0))) := fun Q' => m_lengthsOf O A J c hc
  have EA : ∀ Q', cl sh zX6_aboutOf [.ref m, .int (nI c.val)] (mu μ m (upd (μ m) 0 (nI 0))) Q' = Q' (some (.int (sH s.1 c (fun h => nI (sd s.1 (ow s.1 (tw h))))))) (mu μ m (upd (μ m) 0 (nI 0))) := fun Q' => by
    rw [sH_N]
    exact m_aboutOf O A J c hc
  have EN : ∀ Q', cl sh zX6_neighbours [.ref m, .int (nI c.val)] (mu μ m (upd (μ m) 0 (nI 0))) Q' = Q' (some (.int (unl s.1 c))) (mu μ m (upd (μ m) 0 (nI 0))) := fun Q' => by
    rw [← J.unE c]
    exact m_neighbours O A J c
  have ra := A.2.2.2 c hc
  have cb := c.isLt
  have fin : ∀ v, MT m μ (v, s) (some (.int v)) (mu μ m (upd (μ m) 0 (nI 0))) := fun v => mt_ro g0 rfl (RO.refl _ _) rfl R0 J
  show wp sh zX6_cell 0 [.ref m, .int (nI c.val), .int what] [] μ _
  have pre : ∀ QQ, wp sh zX6_cell 0 [.ref m, .int (nI c.val), .int what] [] μ QQ = wp sh zX6_cell 11 [.ref m, .int (nI c.val), .int what] [.int what] (mu μ m (upd (μ m) 0 (nI 0))) QQ := by
    intro QQ
    simp (disch := first | omega | assumption) only [mm_op_some, true_and, and_true, mm_rc_some, mm_rc_none, pk_mul, nI_add, mm_in_t, nI_clamp, ok0, ok1, ok2, ok3, ok4, n1_0, n0_0, nI_le_, nI_lt_, if_true, if_false, not_true, not_false_eq_true, ce_lt, ce_cl, hf_lt, hf_cl, n0_zz, n1_zz, wp_al0 (y := zX6_cell) dX6_cell_0, wp_il1 (y := zX6_cell) dX6_cell_1, wp_cv1 (y := zX6_cell) kM6_240 (by decide) dX6_cell_2, (show yo zX6_isThere = 6 from rfl), wp_if_ne (y := zX6_cell) 10 (by decide) dX6_cell_5, wp_il2 (y := zX6_cell) dX6_cell_10, O.oc, O.g0, O.g1, O.g2, O.g3, O.g4, O.g5, O.g6, O.g7, O.g9, O.g10, O.g11, O.p0, O.p7, O.a1, O.a2, O.a3, O.a4, O.a5, O.a6, O.a7, O.a8, O.a9, E1]
  unfold a_cell
  rw [pre]
  by_cases w0 : what = nI 0
  · subst w0
    rw [if_pos rfl, wp_tsIn (y := zX6_cell) 48 dX6_cell_11 (by decide) rfl (by decide)]
    have fin := fin (nI (sd s.1 c))
    generalize MT m μ (nI (sd s.1 c), s) = QQ at fin ⊢
    have fin : ∀ _ : Unit, QQ (some (.int (nI (sd s.1 c)))) (mu μ m (upd (μ m) 0 (nI 0))) := fun _ => fin
    simp (disch := first | omega | assumption) only [mm_op_some, true_and, and_true, mm_rc_some, mm_rc_none, pk_mul, nI_add, mm_in_t, nI_clamp, ok0, ok1, ok2, ok3, ok4, n1_0, n0_0, nI_le_, nI_lt_, if_true, if_false, not_true, not_false_eq_true, ce_lt, ce_cl, hf_lt, hf_cl, n0_zz, n1_zz, true_and, wp_al0 (y := zX6_cell) dX6_cell_48, wp_il1 (y := zX6_cell) dX6_cell_49, wp_cv1 (y := zX6_cell) kM6_115 (by decide) dX6_cell_50, (show yo zX6_sidesOf = 6 from rfl), wp_ireti (y := zX6_cell) rfl dX6_cell_53, O.oc, O.g0, O.g1, O.g2, O.g3, O.g4, O.g5, O.g6, O.g7, O.g9, O.g10, O.g11, O.p0, O.p7, O.a1, O.a2, O.a3, O.a4, O.a5, O.a6, O.a7, O.a8, O.a9, ES]
    exact fin ()
  · rw [if_neg w0]
    by_cases w1 : what = nI 1
    · subst w1
      rw [if_pos rfl, wp_tsIn (y := zX6_cell) 54 dX6_cell_11 (by decide) rfl (by decide)]
      have fin := fin (ar s.1 c)
      generalize MT m μ (ar s.1 c, s) = QQ at fin ⊢
      have fin : ∀ _ : Unit, QQ (some (.int (ar s.1 c))) (mu μ m (upd (μ m) 0 (nI 0))) := fun _ => fin
      simp (disch := first | omega | assumption) only [mm_op_some, true_and, and_true, mm_rc_some, mm_rc_none, pk_mul, nI_add, mm_in_t, nI_clamp, ok0, ok1, ok2, ok3, ok4, n1_0, n0_0, nI_le_, nI_lt_, if_true, if_false, not_true, not_false_eq_true, ce_lt, ce_cl, hf_lt, hf_cl, n0_zz, n1_zz, true_and, wp_al0 (y := zX6_cell) dX6_cell_54, wp_getf (y := zX6_cell) kF6_9 dX6_cell_55, wp_sipush (y := zX6_cell) (nI 1600) ks_1600 dX6_cell_58, wp_il1 (y := zX6_cell) dX6_cell_61, wp_iadd (y := zX6_cell) dX6_cell_62, wp_iald (y := zX6_cell) dX6_cell_63, wp_ireti (y := zX6_cell) rfl dX6_cell_64, O.oc, O.g0, O.g1, O.g2, O.g3, O.g4, O.g5, O.g6, O.g7, O.g9, O.g10, O.g11, O.p0, O.p7, O.a1, O.a2, O.a3, O.a4, O.a5, O.a6, O.a7, O.a8, O.a9, ra]
      exact fin ()
    · rw [if_neg w1]
      by_cases w2 : what = nI 2
      · subst w2
        rw [if_pos rfl, wp_tsIn (y := zX6_cell) 65 dX6_cell_11 (by decide) rfl (by decide)]
        have fin := fin (nI 6 - nI (sd s.1 c))
        generalize MT m μ (nI 6 - nI (sd s.1 c), s) = QQ at fin ⊢
        have fin : ∀ _ : Unit, QQ (some (.int (nI 6 - nI (sd s.1 c)))) (mu μ m (upd (μ m) 0 (nI 0))) := fun _ => fin
        simp (disch := first | omega | assumption) only [mm_op_some, true_and, and_true, mm_rc_some, mm_rc_none, pk_mul, nI_add, mm_in_t, nI_clamp, ok0, ok1, ok2, ok3, ok4, n1_0, n0_0, nI_le_, nI_lt_, if_true, if_false, not_true, not_false_eq_true, ce_lt, ce_cl, hf_lt, hf_cl, n0_zz, n1_zz, true_and, wp_al0 (y := zX6_cell) dX6_cell_65, wp_il1 (y := zX6_cell) dX6_cell_66, wp_cv1 (y := zX6_cell) kM6_118 (by decide) dX6_cell_67, (show yo zX6_turn = 6 from rfl), wp_ireti (y := zX6_cell) rfl dX6_cell_70, O.oc, O.g0, O.g1, O.g2, O.g3, O.g4, O.g5, O.g6, O.g7, O.g9, O.g10, O.g11, O.p0, O.p7, O.a1, O.a2, O.a3, O.a4, O.a5, O.a6, O.a7, O.a8, O.a9, ET]
        exact fin ()
      · rw [if_neg w2]
        by_cases w3 : what = nI 3
        · subst w3
          rw [if_pos rfl, wp_tsIn (y := zX6_cell) 71 dX6_cell_11 (by decide) rfl (by decide)]
          have fin := fin (sH s.1 c (fun h => ln s.1 (wl h)))
          generalize MT m μ (sH s.1 c (fun h => ln s.1 (wl h)), s) = QQ at fin ⊢
          have fin : ∀ _ : Unit, QQ (some (.int (sH s.1 c (fun h => ln s.1 (wl h))))) (mu μ m (upd (μ m) 0 (nI 0))) := fun _ => fin
          simp (disch := first | omega | assumption) only [mm_op_some, true_and, and_true, mm_rc_some, mm_rc_none, pk_mul, nI_add, mm_in_t, nI_clamp, ok0, ok1, ok2, ok3, ok4, n1_0, n0_0, nI_le_, nI_lt_, if_true, if_false, not_true, not_false_eq_true, ce_lt, ce_cl, hf_lt, hf_cl, n0_zz, n1_zz, true_and, wp_al0 (y := zX6_cell) dX6_cell_71, wp_il1 (y := zX6_cell) dX6_cell_72, wp_cv1 (y := zX6_cell) kM6_243 (by decide) dX6_cell_73, (show yo zX6_lengthsOf = 6 from rfl), wp_ireti (y := zX6_cell) rfl dX6_cell_76, O.oc, O.g0, O.g1, O.g2, O.g3, O.g4, O.g5, O.g6, O.g7, O.g9, O.g10, O.g11, O.p0, O.p7, O.a1, O.a2, O.a3, O.a4, O.a5, O.a6, O.a7, O.a8, O.a9, EL]
          exact fin ()
        · rw [if_neg w3]
          by_cases w4 : what = nI 4
          · subst w4
            rw [if_pos rfl, wp_tsIn (y := zX6_cell) 77 dX6_cell_11 (by decide) rfl (by decide)]
            have fin := fin (sH s.1 c (fun h => nI (sd s.1 (ow s.1 (tw h)))))
            generalize MT m μ (sH s.1 c (fun h => nI (sd s.1 (ow s.1 (tw h)))), s) = QQ at fin ⊢
            have fin : ∀ _ : Unit, QQ (some (.int (sH s.1 c (fun h => nI (sd s.1 (ow s.1 (tw h))))))) (mu μ m (upd (μ m) 0 (nI 0))) := fun _ => fin
            simp (disch := first | omega | assumption) only [mm_op_some, true_and, and_true, mm_rc_some, mm_rc_none, pk_mul, nI_add, mm_in_t, nI_clamp, ok0, ok1, ok2, ok3, ok4, n1_0, n0_0, nI_le_, nI_lt_, if_true, if_false, not_true, not_false_eq_true, ce_lt, ce_cl, hf_lt, hf_cl, n0_zz, n1_zz, true_and, wp_al0 (y := zX6_cell) dX6_cell_77, wp_il1 (y := zX6_cell) dX6_cell_78, wp_cv1 (y := zX6_cell) kM6_246 (by decide) dX6_cell_79, (show yo zX6_aboutOf = 6 from rfl), wp_ireti (y := zX6_cell) rfl dX6_cell_82, O.oc, O.g0, O.g1, O.g2, O.g3, O.g4, O.g5, O.g6, O.g7, O.g9, O.g10, O.g11, O.p0, O.p7, O.a1, O.a2, O.a3, O.a4, O.a5, O.a6, O.a7, O.a8, O.a9, EA]
            exact fin ()
          · rw [if_neg w4]
            by_cases w5 : what = nI 5
            · subst w5
              rw [if_pos rfl, wp_tsIn (y := zX6_cell) 83 dX6_cell_11 (by decide) rfl (by decide)]
              have fin := fin (unl s.1 c)
              generalize MT m μ (unl s.1 c, s) = QQ at fin ⊢
              have fin : ∀ _ : Unit, QQ (some (.int (unl s.1 c))) (mu μ m (upd (μ m) 0 (nI 0))) := fun _ => fin
              simp (disch := first | omega | assumption) only [mm_op_some, true_and, and_true, mm_rc_some, mm_rc_none, pk_mul, nI_add, mm_in_t, nI_clamp, ok0, ok1, ok2, ok3, ok4, n1_0, n0_0, nI_le_, nI_lt_, if_true, if_false, not_true, not_false_eq_true, ce_lt, ce_cl, hf_lt, hf_cl, n0_zz, n1_zz, true_and, wp_al0 (y := zX6_cell) dX6_cell_83, wp_il1 (y := zX6_cell) dX6_cell_84, wp_cv1 (y := zX6_cell) kM6_249 (by decide) dX6_cell_85, (show yo zX6_neighbours = 6 from rfl), wp_ireti (y := zX6_cell) rfl dX6_cell_88, O.oc, O.g0, O.g1, O.g2, O.g3, O.g4, O.g5, O.g6, O.g7, O.g9, O.g10, O.g11, O.p0, O.p7, O.a1, O.a2, O.a3, O.a4, O.a5, O.a6, O.a7, O.a8, O.a9, EN]
              exact fin ()
            · rw [if_neg w5]
              have hts : what.toInt < 0 ∨ 5 < what.toInt := by
                rcases Int.lt_or_le what.toInt 0 with q | q
                · exact Or.inl q
                · rcases Int.lt_or_le 5 what.toInt with q2 | q2
                  · exact Or.inr q2
                  · exfalso
                    have hh : ∀ j : Nat, j < 6 → what.toInt = j → what = nI j := fun j hj e => Int32.toInt_inj.mp (by rw [e, nI_toInt (by omega)])
                    have : what.toInt = 0 ∨ what.toInt = 1 ∨ what.toInt = 2 ∨ what.toInt = 3 ∨ what.toInt = 4 ∨ what.toInt = 5 := by omega
                    rcases this with e | e | e | e | e | e
                    · exact w0 (hh 0 (by omega) e)
                    · exact w1 (hh 1 (by omega) e)
                    · exact w2 (hh 2 (by omega) e)
                    · exact w3 (hh 3 (by omega) e)
                    · exact w4 (hh 4 (by omega) e)
                    · exact w5 (hh 5 (by omega) e)
              rw [wp_tsOut (y := zX6_cell) 89 dX6_cell_11 (by decide) hts]
              have fin := fin (-2147483648)
              generalize MT m μ ((-2147483648 : Int32), s) = QQ at fin ⊢
              simp (disch := first | omega | assumption) only [mm_op_some, true_and, and_true, mm_rc_some, mm_rc_none, pk_mul, nI_add, mm_in_t, nI_clamp, ok0, ok1, ok2, ok3, ok4, n1_0, n0_0, nI_le_, nI_lt_, if_true, if_false, not_true, not_false_eq_true, ce_lt, ce_cl, hf_lt, hf_cl, n0_zz, n1_zz, wp_ldc (y := zX6_cell) kC6_252 dX6_cell_89, wp_ireti (y := zX6_cell) rfl dX6_cell_91]
              exact fin
def a_side (M : Ms) (c : Ce) (y what : Int32) : Int32 := if y < 0 ∨ nI (sd M c) ≤ y then -1 else if what = nI 0 then nI (wl (nxi M y.toNatClampNeg (hI ((fH M c).getD 0)))).val else if what = nI 1 then nI (ow M (tw (nxi M y.toNatClampNeg (hI ((fH M c).getD 0))))).val else if what = nI 2 then nI (en M (nxi M y.toNatClampNeg (hI ((fH M c).getD 0)))).val else -1
theorem m_sideS (O : MoSh sh m) (R : RepM s μ m) (J : Inv s.1) (g0 : μ m 7 = nI 0) (c : Ce) (y what : Int32) (hc : 0 < sd s.1 c) : cl sh zX6_side [.ref m, .int (nI c.val), .int y, .int what] μ (MT m μ (a_side s.1 c y what, s)) := by
  have R0 := R.mu0 (nI 0)
  have A := R0.1
  have E1 : ∀ Q', cl sh zX6_isThere [.ref m, .int (nI c.val)] μ Q' = Q' (some (.int (nI 1))) (mu μ m (upd (μ m) 0 (nI 0))) := fun Q' => m_isThereS O R.1 J hc
  have ES : ∀ Q', cl sh zX6_sidesOf [.ref m, .int (nI c.val)] (mu μ m (upd (μ m) 0 (nI 0))) Q' = Q' (some (.int (nI (sd s.1 c)))) (mu μ m (upd (μ m) 0 (nI 0))) := fun Q' => m_sidesOf O A c
  have fin : ∀ v, MT m μ (v, s) (some (.int v)) (mu μ m (upd (μ m) 0 (nI 0))) := fun v => mt_ro g0 rfl (RO.refl _ _) rfl R0 J
  have sb := J.sdb c
  have hi := sd_hi hc sb
  have z0 : (0 : Int64).toInt = 0 := rfl
  have z00 : (0 : Int32).toInt = 0 := rfl
  show wp sh zX6_side 0 [.ref m, .int (nI c.val), .int y, .int what, .null] [] μ _
  unfold a_side
  by_cases hy : y < 0 ∨ nI (sd s.1 c) ≤ y
  · rw [if_pos hy]
    have i0 : mm_isin y.toInt64 0 ((nI (sd s.1 c)).toInt64 - 1) = nI 0 := isin_f (fun q => by
      rw [z0, hi] at q
      rw [Int32.lt_iff_toInt_lt, Int32.le_iff_toInt_le, nI_toInt (by omega), z00] at hy
      omega)
    have fin := fin (-1)
    generalize MT m μ ((-1 : Int32), s) = QQ at fin ⊢
    simp (disch := first | omega | assumption) only [mm_op_some, true_and, and_true, mm_rc_some, mm_rc_none, pk_mul, nI_add, mm_in_t, nI_clamp, ok0, ok1, ok2, ok3, ok4, n1_0, n0_0, nI_le_, nI_lt_, if_true, if_false, not_true, not_false_eq_true, ce_lt, ce_cl, hf_lt, hf_cl, n0_zz, n1_zz, wp_al0 (y := zX6_side) dX6_side_0, wp_il1 (y := zX6_side) dX6_side_1, wp_cv1 (y := zX6_side) kM6_240 (by decide) dX6_side_2, (show yo zX6_isThere = 6 from rfl), wp_if_ne (y := zX6_side) 10 (by decide) dX6_side_5, wp_il2 (y := zX6_side) dX6_side_10, wp_i2l (y := zX6_side) dX6_side_11, wp_lconst (y := zX6_side) (0) kl_0 dX6_side_12, wp_al0 (y := zX6_side) dX6_side_13, wp_il1 (y := zX6_side) dX6_side_14, wp_cv1 (y := zX6_side) kM6_115 (by decide) dX6_side_15, (show yo zX6_sidesOf = 6 from rfl), wp_i2l (y := zX6_side) dX6_side_18, wp_lconst (y := zX6_side) (1) kl_1 dX6_side_19, wp_lsub (y := zX6_side) dX6_side_20, wp_in (y := zX6_side) rfl kP6_48 (by decide) dX6_side_21, wp_if_eq (y := zX6_side) 39 (by decide) dX6_side_24, wp_iconst (y := zX6_side) ((-1)) ki_m1 dX6_side_39, wp_ireti (y := zX6_side) rfl dX6_side_40, O.oc, O.g0, O.g1, O.g2, O.g3, O.g4, O.g5, O.g6, O.g7, O.g9, O.g10, O.g11, O.p0, O.p7, O.a1, O.a2, O.a3, O.a4, O.a5, O.a6, O.a7, O.a8, O.a9, E1, ES, i0]
    exact fin
  · rw [if_neg hy]
    have i0 : mm_isin y.toInt64 0 ((nI (sd s.1 c)).toInt64 - 1) = nI 1 := isin_t (by
      rw [z0, hi]
      rw [Int32.lt_iff_toInt_lt, Int32.le_iff_toInt_le, nI_toInt (by omega), z00] at hy
      omega)
    obtain ⟨n, hn, rfl⟩ : ∃ n, n < sd s.1 c ∧ y = nI n := by
      rw [Int32.lt_iff_toInt_lt, Int32.le_iff_toInt_le, nI_toInt (by omega), z00] at hy
      refine ⟨y.toInt.toNat, by omega, Int32.toInt_inj.mp ?_⟩
      rw [nI_toInt (by omega)]
      omega
    rw [nI_clamp (by omega)]
    obtain ⟨f, fh, lf, of⟩ := J.hasf c hc
    have EA : ∀ Q', cl sh zX6_sideAt [.ref m, .int (nI c.val), .int (nI n)] (mu μ m (upd (μ m) 0 (nI 0))) Q' = Q' (some (.int (nI (nxi s.1 n f).val))) (mu μ m (upd (μ m) 0 (nI 0))) := fun Q' => m_sideAt O A J c f fh n (by omega)
    have lg : LvH s.1 (nxi s.1 n f) := by rw [nxi_itn]; exact (J.1.lit n f lf).1
    rw [show hI ((fH s.1 c).getD 0) = f by rw [fh]; exact hI_val f]
    generalize nxi s.1 n f = g at EA lg ⊢
    have gb := g.isLt
    have dv := wl_div g
    have k2 : ¬ nI 2 = 0 := by decide
    have EO : ∀ Q', cl sh zX6_over [.ref m, .int (nI g.val)] (mu μ m (upd (μ m) 0 (nI 0))) Q' = Q' (some (.int (nI (ow s.1 (tw g)).val))) (mu μ m (upd (μ m) 0 (nI 0))) := fun Q' => m_over O A g lg
    have EN : ∀ Q', cl sh zX6_next [.ref m, .int (nI g.val)] (mu μ m (upd (μ m) 0 (nI 0))) Q' = Q' (some (.int (nI (nx s.1 g).val))) (mu μ m (upd (μ m) 0 (nI 0))) := fun Q' => m_next O A g lg
    have EP : ∀ Q', cl sh zX6_over [.ref m, .int (nI (nx s.1 g).val)] (mu μ m (upd (μ m) 0 (nI 0))) Q' = Q' (some (.int (nI (en s.1 g).val))) (mu μ m (upd (μ m) 0 (nI 0))) := fun Q' => m_over O A _ (J.nl lg)
    by_cases w0 : what = nI 0
    · subst w0
      have j0 : mm_isin (nI 0).toInt64 0 2 = nI 1 := by decide
      rw [if_pos rfl]
      have fin := fin (nI (wl g).val)
      generalize MT m μ (nI (wl g).val, s) = QQ at fin ⊢
      simp (disch := first | omega | assumption) only [mm_op_some, true_and, and_true, mm_rc_some, mm_rc_none, pk_mul, nI_add, mm_in_t, nI_clamp, ok0, ok1, ok2, ok3, ok4, n1_0, n0_0, nI_le_, nI_lt_, if_true, if_false, not_true, not_false_eq_true, ce_lt, ce_cl, hf_lt, hf_cl, n0_zz, n1_zz, wp_al0 (y := zX6_side) dX6_side_0, wp_il1 (y := zX6_side) dX6_side_1, wp_cv1 (y := zX6_side) kM6_240 (by decide) dX6_side_2, (show yo zX6_isThere = 6 from rfl), wp_if_ne (y := zX6_side) 10 (by decide) dX6_side_5, wp_il2 (y := zX6_side) dX6_side_10, wp_i2l (y := zX6_side) dX6_side_11, wp_lconst (y := zX6_side) (0) kl_0 dX6_side_12, wp_al0 (y := zX6_side) dX6_side_13, wp_il1 (y := zX6_side) dX6_side_14, wp_cv1 (y := zX6_side) kM6_115 (by decide) dX6_side_15, (show yo zX6_sidesOf = 6 from rfl), wp_i2l (y := zX6_side) dX6_side_18, wp_lconst (y := zX6_side) (1) kl_1 dX6_side_19, wp_lsub (y := zX6_side) dX6_side_20, wp_in (y := zX6_side) rfl kP6_48 (by decide) dX6_side_21, wp_if_eq (y := zX6_side) 39 (by decide) dX6_side_24, wp_il3 (y := zX6_side) dX6_side_27, wp_i2l (y := zX6_side) dX6_side_28, wp_lconst (y := zX6_side) (0) kl_0 dX6_side_29, wp_ldc2 (y := zX6_side) kL6_253 dX6_side_30, wp_in (y := zX6_side) rfl kP6_48 (by decide) dX6_side_33, wp_if_ne (y := zX6_side) 41 (by decide) dX6_side_36, wp_al0 (y := zX6_side) dX6_side_41, wp_il1 (y := zX6_side) dX6_side_42, wp_il2 (y := zX6_side) dX6_side_43, wp_cv2 (y := zX6_side) kM6_173 (by decide) dX6_side_44, (show yo zX6_sideAt = 6 from rfl), wp_is4 (y := zX6_side) dX6_side_47, wp_il3 (y := zX6_side) dX6_side_49, wp_if_ne (y := zX6_side) 60 (by decide) dX6_side_50, wp_il4 (y := zX6_side) dX6_side_53, wp_iconst (y := zX6_side) (nI 2) ki_2 dX6_side_55, wp_idiv' (y := zX6_side) dX6_side_56, wp_goto (y := zX6_side) 84 (by decide) dX6_side_57, wp_ireti (y := zX6_side) rfl dX6_side_84, O.oc, O.g0, O.g1, O.g2, O.g3, O.g4, O.g5, O.g6, O.g7, O.g9, O.g10, O.g11, O.p0, O.p7, O.a1, O.a2, O.a3, O.a4, O.a5, O.a6, O.a7, O.a8, O.a9, E1, ES, i0, j0, EA, k2, dv]
      exact fin
    · rw [if_neg w0]
      have w0' : (what = 0) = False := eq_false w0
      by_cases w1 : what = nI 1
      · subst w1
        have j0 : mm_isin (nI 1).toInt64 0 2 = nI 1 := by decide
        have e11 : (nI 1 = nI 1) = True := eq_true rfl
        rw [if_pos rfl]
        have fin := fin (nI (ow s.1 (tw g)).val)
        generalize MT m μ (nI (ow s.1 (tw g)).val, s) = QQ at fin ⊢
        simp (disch := first | omega | assumption) only [mm_op_some, true_and, and_true, mm_rc_some, mm_rc_none, pk_mul, nI_add, mm_in_t, nI_clamp, ok0, ok1, ok2, ok3, ok4, n1_0, n0_0, nI_le_, nI_lt_, if_true, if_false, not_true, not_false_eq_true, ce_lt, ce_cl, hf_lt, hf_cl, n0_zz, n1_zz, wp_al0 (y := zX6_side) dX6_side_0, wp_il1 (y := zX6_side) dX6_side_1, wp_cv1 (y := zX6_side) kM6_240 (by decide) dX6_side_2, (show yo zX6_isThere = 6 from rfl), wp_if_ne (y := zX6_side) 10 (by decide) dX6_side_5, wp_il2 (y := zX6_side) dX6_side_10, wp_i2l (y := zX6_side) dX6_side_11, wp_lconst (y := zX6_side) (0) kl_0 dX6_side_12, wp_al0 (y := zX6_side) dX6_side_13, wp_il1 (y := zX6_side) dX6_side_14, wp_cv1 (y := zX6_side) kM6_115 (by decide) dX6_side_15, (show yo zX6_sidesOf = 6 from rfl), wp_i2l (y := zX6_side) dX6_side_18, wp_lconst (y := zX6_side) (1) kl_1 dX6_side_19, wp_lsub (y := zX6_side) dX6_side_20, wp_in (y := zX6_side) rfl kP6_48 (by decide) dX6_side_21, wp_if_eq (y := zX6_side) 39 (by decide) dX6_side_24, wp_il3 (y := zX6_side) dX6_side_27, wp_i2l (y := zX6_side) dX6_side_28, wp_lconst (y := zX6_side) (0) kl_0 dX6_side_29, wp_ldc2 (y := zX6_side) kL6_253 dX6_side_30, wp_in (y := zX6_side) rfl kP6_48 (by decide) dX6_side_33, wp_if_ne (y := zX6_side) 41 (by decide) dX6_side_36, wp_al0 (y := zX6_side) dX6_side_41, wp_il1 (y := zX6_side) dX6_side_42, wp_il2 (y := zX6_side) dX6_side_43, wp_cv2 (y := zX6_side) kM6_173 (by decide) dX6_side_44, (show yo zX6_sideAt = 6 from rfl), wp_is4 (y := zX6_side) dX6_side_47, wp_il3 (y := zX6_side) dX6_side_49, wp_if_ne (y := zX6_side) 60 (by decide) dX6_side_50, wp_il3 (y := zX6_side) dX6_side_60, wp_iconst (y := zX6_side) (nI 1) ki_1 dX6_side_61, wp_icmp_ne (y := zX6_side) 74 (by decide) dX6_side_62, wp_al0 (y := zX6_side) dX6_side_65, wp_il4 (y := zX6_side) dX6_side_66, wp_cv1 (y := zX6_side) kM6_105 (by decide) dX6_side_68, (show yo zX6_over = 6 from rfl), wp_goto (y := zX6_side) 84 (by decide) dX6_side_71, wp_ireti (y := zX6_side) rfl dX6_side_84, O.oc, O.g0, O.g1, O.g2, O.g3, O.g4, O.g5, O.g6, O.g7, O.g9, O.g10, O.g11, O.p0, O.p7, O.a1, O.a2, O.a3, O.a4, O.a5, O.a6, O.a7, O.a8, O.a9, E1, ES, i0, j0, EA, EO, e11]
        exact fin
      · rw [if_neg w1]
        have w1' := eq_false w1
        by_cases w2 : what = nI 2
        · subst w2
          have j0 : mm_isin (nI 2).toInt64 0 2 = nI 1 := by decide
          rw [if_pos rfl]
          have fin := fin (nI (en s.1 g).val)
          generalize MT m μ (nI (en s.1 g).val, s) = QQ at fin ⊢
          simp (disch := first | omega | assumption) only [mm_op_some, true_and, and_true, mm_rc_some, mm_rc_none, pk_mul, nI_add, mm_in_t, nI_clamp, ok0, ok1, ok2, ok3, ok4, n1_0, n0_0, nI_le_, nI_lt_, if_true, if_false, not_true, not_false_eq_true, ce_lt, ce_cl, hf_lt, hf_cl, n0_zz, n1_zz, wp_al0 (y := zX6_side) dX6_side_0, wp_il1 (y := zX6_side) dX6_side_1, wp_cv1 (y := zX6_side) kM6_240 (by decide) dX6_side_2, (show yo zX6_isThere = 6 from rfl), wp_if_ne (y := zX6_side) 10 (by decide) dX6_side_5, wp_il2 (y := zX6_side) dX6_side_10, wp_i2l (y := zX6_side) dX6_side_11, wp_lconst (y := zX6_side) (0) kl_0 dX6_side_12, wp_al0 (y := zX6_side) dX6_side_13, wp_il1 (y := zX6_side) dX6_side_14, wp_cv1 (y := zX6_side) kM6_115 (by decide) dX6_side_15, (show yo zX6_sidesOf = 6 from rfl), wp_i2l (y := zX6_side) dX6_side_18, wp_lconst (y := zX6_side) (1) kl_1 dX6_side_19, wp_lsub (y := zX6_side) dX6_side_20, wp_in (y := zX6_side) rfl kP6_48 (by decide) dX6_side_21, wp_if_eq (y := zX6_side) 39 (by decide) dX6_side_24, wp_il3 (y := zX6_side) dX6_side_27, wp_i2l (y := zX6_side) dX6_side_28, wp_lconst (y := zX6_side) (0) kl_0 dX6_side_29, wp_ldc2 (y := zX6_side) kL6_253 dX6_side_30, wp_in (y := zX6_side) rfl kP6_48 (by decide) dX6_side_33, wp_if_ne (y := zX6_side) 41 (by decide) dX6_side_36, wp_al0 (y := zX6_side) dX6_side_41, wp_il1 (y := zX6_side) dX6_side_42, wp_il2 (y := zX6_side) dX6_side_43, wp_cv2 (y := zX6_side) kM6_173 (by decide) dX6_side_44, (show yo zX6_sideAt = 6 from rfl), wp_is4 (y := zX6_side) dX6_side_47, wp_il3 (y := zX6_side) dX6_side_49, wp_if_ne (y := zX6_side) 60 (by decide) dX6_side_50, wp_il3 (y := zX6_side) dX6_side_60, wp_iconst (y := zX6_side) (nI 1) ki_1 dX6_side_61, wp_icmp_ne (y := zX6_side) 74 (by decide) dX6_side_62, wp_al0 (y := zX6_side) dX6_side_74, wp_al0 (y := zX6_side) dX6_side_75, wp_il4 (y := zX6_side) dX6_side_76, wp_cv1 (y := zX6_side) kM6_90 (by decide) dX6_side_78, (show yo zX6_next = 6 from rfl), wp_cv1 (y := zX6_side) kM6_105 (by decide) dX6_side_81, (show yo zX6_over = 6 from rfl), wp_ireti (y := zX6_side) rfl dX6_side_84, O.oc, O.g0, O.g1, O.g2, O.g3, O.g4, O.g5, O.g6, O.g7, O.g9, O.g10, O.g11, O.p0, O.p7, O.a1, O.a2, O.a3, O.a4, O.a5, O.a6, O.a7, O.a8, O.a9, E1, ES, i0, j0, EA, EN, EP, w0', w1']
          exact fin
        · rw [if_neg w2]
          have j0 : mm_isin what.toInt64 0 2 = nI 0 := isin_f (fun q => by
            have z2 : (2 : Int64).toInt = 2 := rfl
            rw [z0, z2] at q
            have : what.toInt = 0 ∨ what.toInt = 1 ∨ what.toInt = 2 := by omega
            rcases this with e | e | e
            · exact w0 (Int32.toInt_inj.mp (by rw [e]; rfl))
            · exact w1 (Int32.toInt_inj.mp (by rw [e]; rfl))
            · exact w2 (Int32.toInt_inj.mp (by rw [e]; rfl)))
          have fin := fin (-1)
          generalize MT m μ ((-1 : Int32), s) = QQ at fin ⊢
          simp (disch := first | omega | assumption) only [mm_op_some, true_and, and_true, mm_rc_some, mm_rc_none, pk_mul, nI_add, mm_in_t, nI_clamp, ok0, ok1, ok2, ok3, ok4, n1_0, n0_0, nI_le_, nI_lt_, if_true, if_false, not_true, not_false_eq_true, ce_lt, ce_cl, hf_lt, hf_cl, n0_zz, n1_zz, wp_al0 (y := zX6_side) dX6_side_0, wp_il1 (y := zX6_side) dX6_side_1, wp_cv1 (y := zX6_side) kM6_240 (by decide) dX6_side_2, (show yo zX6_isThere = 6 from rfl), wp_if_ne (y := zX6_side) 10 (by decide) dX6_side_5, wp_il2 (y := zX6_side) dX6_side_10, wp_i2l (y := zX6_side) dX6_side_11, wp_lconst (y := zX6_side) (0) kl_0 dX6_side_12, wp_al0 (y := zX6_side) dX6_side_13, wp_il1 (y := zX6_side) dX6_side_14, wp_cv1 (y := zX6_side) kM6_115 (by decide) dX6_side_15, (show yo zX6_sidesOf = 6 from rfl), wp_i2l (y := zX6_side) dX6_side_18, wp_lconst (y := zX6_side) (1) kl_1 dX6_side_19, wp_lsub (y := zX6_side) dX6_side_20, wp_in (y := zX6_side) rfl kP6_48 (by decide) dX6_side_21, wp_if_eq (y := zX6_side) 39 (by decide) dX6_side_24, wp_il3 (y := zX6_side) dX6_side_27, wp_i2l (y := zX6_side) dX6_side_28, wp_lconst (y := zX6_side) (0) kl_0 dX6_side_29, wp_ldc2 (y := zX6_side) kL6_253 dX6_side_30, wp_in (y := zX6_side) rfl kP6_48 (by decide) dX6_side_33, wp_if_ne (y := zX6_side) 41 (by decide) dX6_side_36, wp_iconst (y := zX6_side) ((-1)) ki_m1 dX6_side_39, wp_ireti (y := zX6_side) rfl dX6_side_40, O.oc, O.g0, O.g1, O.g2, O.g3, O.g4, O.g5, O.g6, O.g7, O.g9, O.g10, O.g11, O.p0, O.p7, O.a1, O.a2, O.a3, O.a4, O.a5, O.a6, O.a7, O.a8, O.a9, E1, ES, i0, j0]
          exact fin
end MCL
