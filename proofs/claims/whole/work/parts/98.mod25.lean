section MCX
variable {sh : mm_Sh} {m : Nat} {M : Ms} {μ : mm_U} {s : Fo} {Q : Option Value → mm_U → Prop} {a b : Hf} {c fr : Ce} {j1 j2 j3 : Wa} {n : Nat}
theorem m_cutBy (O : MoSh sh m) (A : MeR M (μ (m + 1))) (J : Inv M) (ok : SpOk M a b c fr j1 j2 j3 n) (oa : ow M a = c) (J' : Inv (spM M a b c fr j1 j2 j3 n)) (hQ : ∀ μ', MeR (spM M a b c fr j1 j2 j3 n) (μ' (m + 1)) → FrR μ μ' m → Q none μ') : cl sh zX6_cutBy [.ref m, .int (nI a.val), .int (nI b.val), .int (nI c.val), .int (nI fr.val)] μ Q := by
  obtain ⟨la, lb, _, ec, hn, eb, hne, w1, w2, w3, gX, gY, _, _, _, wab, cfr, nab⟩ := ok
  have la : LvH M a := la
  have lb : LvH M b := lb
  rw [nxi_itn] at eb
  have sf : sd M fr = 0 := by
    have := of_decide_eq_true (fd_some ec).1
    rw [cI_val] at this
    exact this
  have hl := (hoL_nx fr n M (nx M a)).2.2.1
  rw [frW_lv hl] at w1
  rw [frW_lv (N := hvM (hoL fr n M (nx M a)) j1 a fr) (M := sLv M j1 true) (by rw [hvM_lv, hl]; rfl)] at w2
  rw [frW_lv (N := spB (spA M a b c fr j1 j2 n) a b j1 j2) (M := sLv (sLv M j1 true) j2 true) (by
      rw [spB_lv]
      unfold spA
      rw [hvM_lv, hvM_lv, hl]
      rfl)] at w3
  have d1 : lv M j1 = false := by
    have := (fd_some w1).1
    rw [wI_val] at this
    simpa using this
  have d2' : fu (lv M) j1 true j2 = false := by
    have := (fd_some w2).1
    rw [wI_val] at this
    have : (!(fu (lv M) j1 true j2)) = true := this
    simpa using this
  have d3' : fu (fu (lv M) j1 true) j2 true j3 = false := by
    have := (fd_some w3).1
    rw [wI_val] at this
    have : (!(fu (fu (lv M) j1 true) j2 true j3)) = true := this
    simpa using this
  have j12 : j1 ≠ j2 := fun e => by rw [← e, fu_s] at d2'; cases d2'
  have d2 : lv M j2 = false := by rw [fu_n _ _ (fun e => j12 e.symm)] at d2'; exact d2'
  have j23 : j2 ≠ j3 := fun e => by rw [← e, fu_s] at d3'; cases d3'
  rw [fu_n _ _ (fun e => j23 e.symm)] at d3'
  have j13 : j1 ≠ j3 := fun e => by rw [← e, fu_s] at d3'; cases d3'
  rw [fu_n _ _ (fun e => j13 e.symm)] at d3'
  have l : ∀ h, LvH M h → wl h ≠ j1 ∧ wl h ≠ j2 ∧ wl h ≠ j3 := fun h lh => by
    have lh : lv M (wl h) = true := lh
    exact ⟨fun e => (by rw [e, d1] at lh; cases lh), fun e => (by rw [e, d2] at lh; cases lh), fun e => (by rw [e, d3'] at lh; cases lh)⟩
  have arc : ∀ k, ow M (itn (nx M) k (nx M a)) = c := fun k => ((J.1.lit k _ (J.nl la)).2).trans ((J.on la).trans oa)
  have ob : ow M b = c := by rw [← eb]; exact arc n
  obtain ⟨n1, h1n, e1⟩ := J.lnb (wl a) la
  obtain ⟨n2, h2n, e2⟩ := J.lnb (wl b) lb
  have hz : n = 0 ↔ nx M a = b := by
    constructor
    · intro z
      rw [z] at eb
      exact eb
    · intro z
      rcases Nat.eq_zero_or_pos n with y | y
      · exact y
      · exact absurd z (hne 0 y)
  have lta : LvH M (tw a) := LvH_tw.mpr la
  have ltb : LvH M (tw b) := LvH_tw.mpr lb
  have en : nx M (pv M (tw a)) = tw a := (J.1.1 _ lta).2.2.1
  have ot : ow M (pv M (tw a)) = ow M (tw a) := J.op lta
  obtain ⟨_, oa2, _⟩ := J.orb a la
  rw [oa] at oa2
  have hna : ∀ k, k < n → itn (nx M) k (nx M a) ≠ a := fun k hk e => oa2 0 (k + 1) (by omega) (by omega) e.symm
  have Ha := (hoL_own fr n M (nx M a) a).2 hna
  have So := spM_ow M a b c fr j1 j2 j3 n
  have h01 : ∀ j : Wa, h0 j ≠ h1 j := fun j e => tw_ne (h0 j) (by rw [tw_h0]; exact e.symm)
  have hd : ∀ {x y : Wa}, x ≠ y → h0 x ≠ h0 y ∧ h0 x ≠ h1 y ∧ h1 x ≠ h0 y ∧ h1 x ≠ h1 y := fun {x y} h => ⟨fun e => h (by have := congrArg wl e; rw [wl_h0, wl_h0] at this; exact this), fun e => h (by have := congrArg wl e; rw [wl_h0, wl_h1] at this; exact this), fun e => h (by have := congrArg wl e; rw [wl_h1, wl_h0] at this; exact this), fun e => h (by have := congrArg wl e; rw [wl_h1, wl_h1] at this; exact this)⟩
  obtain ⟨x12a, x12b, x12c, x12d⟩ := hd j12
  obtain ⟨x13a, x13b, x13c, x13d⟩ := hd j13
  obtain ⟨x23a, x23b, x23c, x23d⟩ := hd j23
  obtain ⟨la1, la2, la3⟩ := l _ la
  have S1 : ow (spM M a b c fr j1 j2 j3 n) (h0 j1) = fr := by rw [So, fu_n _ _ x13b, fu_n _ _ x13a, fu_n _ _ x12b, fu_n _ _ x12a, fu_n _ _ (h01 j1), fu_s]
  have S3 : ow (spM M a b c fr j1 j2 j3 n) (h0 j2) = fr := by rw [So, fu_n _ _ x23b, fu_n _ _ x23a, fu_n _ _ (h01 j2), fu_s]
  have S5 : ow (spM M a b c fr j1 j2 j3 n) (h0 j3) = c := by rw [So, fu_n _ _ (h01 j3), fu_s]
  have S6 : ow (spM M a b c fr j1 j2 j3 n) (h1 j3) = fr := by rw [So, fu_s]
  have Sa : ow (spM M a b c fr j1 j2 j3 n) a = c := by
    rw [So, fu_n _ _ (fun e => la3 (by rw [e, wl_h1])), fu_n _ _ (fun e => la3 (by rw [e, wl_h0])), fu_n _ _ (fun e => la2 (by rw [e, wl_h1])), fu_n _ _ (fun e => la2 (by rw [e, wl_h0])), fu_n _ _ (fun e => la1 (by rw [e, wl_h1])), fu_n _ _ (fun e => la1 (by rw [e, wl_h0])), Ha, oa]
  have Slv := spM_lv M a b c fr j1 j2 j3 n
  have L0 : LvH (spM M a b c fr j1 j2 j3 n) (h0 j1) := by
    unfold LvH
    rw [Slv, wl_h0, fu_n _ _ j13, fu_n _ _ j12, fu_s]
  have L2 : LvH (spM M a b c fr j1 j2 j3 n) (h0 j2) := by
    unfold LvH
    rw [Slv, wl_h0, fu_n _ _ j23, fu_s]
  have L3 : LvH (spM M a b c fr j1 j2 j3 n) (h0 j3) := by
    unfold LvH
    rw [Slv, wl_h0, fu_s]
  have L4 : LvH (spM M a b c fr j1 j2 j3 n) (h1 j3) := by
    unfold LvH
    rw [Slv, wl_h1, fu_s]
  have La : LvH (spM M a b c fr j1 j2 j3 n) a := by
    unfold LvH
    rw [Slv, fu_n _ _ la3, fu_n _ _ la2, fu_n _ _ la1]
    exact la
  have Nx := ct6_nx (pv M (tw a)) c fr (nI ((n1 + 1) / 2)) (nI (n1 / 2)) (nI ((n2 + 1) / 2)) (nI (n2 / 2)) n rfl en l j12 j13 j23 lb (J.pl lb)
  have Sl : ∀ h, LvH (spM M a b c fr j1 j2 j3 n) h → LvH (ct6 M a b (pv M (tw a)) j1 j2 j3 (nI ((n1 + 1) / 2)) (nI (n1 / 2)) (nI ((n2 + 1) / 2)) (nI (n2 / 2)) n) h := fun h lh => by
    unfold LvH at lh ⊢
    rw [(ct6_f M a b (pv M (tw a)) j1 j2 j3 (nI ((n1 + 1) / 2)) (nI (n1 / 2)) (nI ((n2 + 1) / 2)) (nI (n2 / 2)) n).1, ← Slv]
    exact lh
  have s5 : 0 < sd (ct5 M a b (pv M (tw a)) j1 j2 j3 (nI ((n1 + 1) / 2)) (nI (n1 / 2)) (nI ((n2 + 1) / 2)) (nI (n2 / 2))) c := by
    rw [(ct5_f M a b (pv M (tw a)) j1 j2 j3 (nI ((n1 + 1) / 2)) (nI (n1 / 2)) (nI ((n2 + 1) / 2)) (nI (n2 / 2))).2.2.2.2.2.2.1, fu_n (ow M) _ (show tw b ≠ h1 j1 from fun e => (l _ ltb).1 (by rw [e, wl_h1])), fu_n _ _ (fun e => gY e.symm), fu_n _ _ (fun e => gX (by rw [← ot]; exact e.symm))]
    omega
  refine ct_go1 O A J la lb oa ob l j12 j13 j23 wab gX gY w1 w2 w3 n1 n2 h1n h2n e1 e2 (fun μ1 A1 F1 => ?_)
  refine ct_go2 O J la lb oa ob l gX gY hz μ A1 F1 (fun μ2 v8 v9 v10 A2 F2 => ?_)
  refine ct_go3 O J' Nx la lb l cfr L0 La Sa S1 ⟨S3, L2⟩ ⟨S5, L3⟩ ⟨S6, L4⟩ Sl s5 v8 v9 v10 μ A2 F2 (fun μ3 A3 F3 => ?_)
  exact hQ μ3 (ct8_to J J' la lb oa ob rfl l j12 j13 j23 hn wab gX gY cfr sf h1n h2n e1 e2 A3) F3
theorem sd_hi {k : Nat} (h : 0 < k) (h2 : k ≤ 288) : ((nI k).toInt64 - 1).toInt = (k : Int) - 1 := by
  rw [Int64.toInt_sub, Int32.toInt_toInt64, nI_toInt (by omega)]
  have e1 : (1 : Int64).toInt = 1 := rfl
  rw [e1, Int.bmod_def]
  omega
/-- CUT -/
theorem m_cut (O : MoSh sh m) (R : RepM s μ m) (J : Inv s.1) (g0 : μ m 7 = nI 0) (x i j : Int32) : cl sh zX6_cut [.ref m, .int x, .int i, .int j] μ (MT m μ (a_cut s x i j)) := by
  have R0 := R.mu0 (nI 0)
  show wp sh zX6_cut 0 [.ref m, .int x, .int i, .int j, .null] [] μ _
  unfold a_cut
  cases e : ceO s.1 x with
  | none =>
    have E1 : ∀ Q', cl sh zX6_isCell [.ref m, .int x] (mu μ m (upd (μ m) 0 (nI 0))) Q' = Q' (some (.int (nI 0))) (mu μ m (upd (μ m) 0 (nI 0))) := fun Q' => m_isCellN O R0.1 J.sdb e
    generalize hv : (((-2 : Int32), fRf s 1) : Int32 × Fo) = v
    generalize hq : MT m μ v = QQ
    simp (disch := first | omega | assumption) only [mm_op_some, true_and, and_true, mm_rc_some, mm_rc_none, pk_mul, nI_add, mm_in_t, nI_clamp, ok0, ok1, ok2, ok3, ok4, n1_0, n0_0, nI_le_, nI_lt_, if_true, if_false, not_true, not_false_eq_true, ce_lt, ce_cl, hf_lt, hf_cl, n0_zz, wp_al0 (y := zX6_cut) dX6_cut_0, wp_iconst (y := zX6_cut) (nI 0) ki_0 dX6_cut_1, wp_putf (y := zX6_cut) kF6_44 rfl dX6_cut_2, wp_al0 (y := zX6_cut) dX6_cut_5, wp_il1 (y := zX6_cut) dX6_cut_6, wp_cv1 (y := zX6_cut) kM6_93 (by decide) dX6_cut_7, (show yo zX6_isCell = 6 from rfl), wp_if_ne (y := zX6_cut) 20 (by decide) dX6_cut_10, wp_al0 (y := zX6_cut) dX6_cut_13, wp_bipush (y := zX6_cut) ((-2)) kb_m2 dX6_cut_14, wp_cv1 (y := zX6_cut) kM6_72 (by decide) dX6_cut_16, (show yo zX6_refuse = 6 from rfl), O.oc, O.g0, O.g1, O.g2, O.g3, O.g4, O.g5, O.g6, O.g7, O.g9, O.g10, O.g11, O.p0, O.p7, O.a1, O.a2, O.a3, O.a4, O.a5, O.a6, O.a7, O.a8, O.a9, E1]
    refine cl_mono (m_ref2 O R0) ?_
    rintro r μ1 ⟨rfl, R1, F1⟩
    simp (disch := first | omega | assumption) only [mm_op_some, true_and, and_true, mm_rc_some, mm_rc_none, pk_mul, nI_add, mm_in_t, nI_clamp, ok0, ok1, ok2, ok3, ok4, n1_0, n0_0, nI_le_, nI_lt_, if_true, if_false, not_true, not_false_eq_true, ce_lt, ce_cl, hf_lt, hf_cl, wp_ireti (y := zX6_cut) rfl dX6_cut_19]
    rw [← hq, ← hv]
    exact mt_ro g0 rfl F1 rfl R1 J
  | some k =>
    obtain ⟨rfl, hc⟩ := ceO_some e
    obtain ⟨f, fh, hl⟩ := J.hasF k hc
    have bs := J.sdb k
    have E1 : ∀ Q', cl sh zX6_isCell [.ref m, .int (nI k.val)] (mu μ m (upd (μ m) 0 (nI 0))) Q' = Q' (some (.int (nI 1))) (mu μ m (upd (μ m) 0 (nI 0))) := fun Q' => m_isCellS O R0.1 J.sdb hc
    have E2 : ∀ Q', cl sh zX6_sidesOf [.ref m, .int (nI k.val)] (mu μ m (upd (μ m) 0 (nI 0))) Q' = Q' (some (.int (nI (sd s.1 k)))) (mu μ m (upd (μ m) 0 (nI 0))) := fun Q' => m_sidesOf O R0.1 k
    dsimp only
    rw [fH_hI fh]
    have bad : ∀ QQ, QQ = MT m μ (-1, fRf s 0) → wp sh zX6_cut 59 [.ref m, .int (nI k.val), .int i, .int j, .null] [] (mu μ m (upd (μ m) 0 (nI 0))) QQ := by
      intro QQ hq
      simp (disch := first | omega | assumption) only [mm_op_some, true_and, and_true, mm_rc_some, mm_rc_none, pk_mul, nI_add, mm_in_t, nI_clamp, ok0, ok1, ok2, ok3, ok4, n1_0, n0_0, nI_le_, nI_lt_, if_true, if_false, not_true, not_false_eq_true, ce_lt, ce_cl, hf_lt, hf_cl, wp_al0 (y := zX6_cut) dX6_cut_59, wp_iconst (y := zX6_cut) ((-1)) ki_m1 dX6_cut_60, wp_cv1 (y := zX6_cut) kM6_72 (by decide) dX6_cut_61, (show yo zX6_refuse = 6 from rfl), O.oc, O.g0, O.g1, O.g2, O.g3, O.g4, O.g5, O.g6, O.g7, O.g9, O.g10, O.g11, O.p0, O.p7, O.a1, O.a2, O.a3, O.a4, O.a5, O.a6, O.a7, O.a8, O.a9]
      refine cl_mono (m_ref1 O R0) ?_
      rintro r μ1 ⟨rfl, R1, F1⟩
      simp (disch := first | omega | assumption) only [mm_op_some, true_and, and_true, mm_rc_some, mm_rc_none, pk_mul, nI_add, mm_in_t, nI_clamp, ok0, ok1, ok2, ok3, ok4, n1_0, n0_0, nI_le_, nI_lt_, if_true, if_false, not_true, not_false_eq_true, ce_lt, ce_cl, hf_lt, hf_cl, wp_ireti (y := zX6_cut) rfl dX6_cut_64]
      rw [hq]
      exact mt_ro g0 rfl F1 rfl R1 J
    have hi := sd_hi hc bs
    have z0 : (0 : Int64).toInt = 0 := rfl
    have out : ∀ y : Int32, (y < 0 ∨ nI (sd s.1 k) ≤ y) → mm_isin y.toInt64 0 ((nI (sd s.1 k)).toInt64 - 1) = nI 0 := fun y hy => isin_f (fun q => by
      rw [hi, z0] at q
      rcases hy with hy | hy
      · rw [Int32.lt_iff_toInt_lt] at hy
        have e0 : (0 : Int32).toInt = 0 := rfl
        omega
      · rw [Int32.le_iff_toInt_le, nI_toInt (by omega)] at hy
        omega)
    have inn : ∀ n, n < sd s.1 k → mm_isin (nI n).toInt64 0 ((nI (sd s.1 k)).toInt64 - 1) = nI 1 := fun n hn => isin_t (by
      rw [hi, z0, nI_toInt (by omega)]
      omega)
    have hA : ∀ y : Int32, (y < 0 ∨ nI (sd s.1 k) ≤ y) ∨ ∃ n, n < sd s.1 k ∧ y = nI n := fun y => by
      rcases pk_ix y (n := sd s.1 k) (by omega) with z | z | z
      · exact Or.inl (Or.inl z)
      · exact Or.inl (Or.inr z)
      · exact Or.inr z
    rcases hA i with z | ⟨p, hp, rfl⟩
    · have E3 := out i z
      rw [if_pos (by rcases z with z | z <;> simp only [z, true_or, or_true])]
      have bad := bad _ rfl
      generalize MT m μ _ = QQ at bad ⊢
      simp (disch := first | omega | assumption) only [mm_op_some, true_and, and_true, mm_rc_some, mm_rc_none, pk_mul, nI_add, mm_in_t, nI_clamp, ok0, ok1, ok2, ok3, ok4, n1_0, n0_0, nI_le_, nI_lt_, if_true, if_false, not_true, not_false_eq_true, ce_lt, ce_cl, hf_lt, hf_cl, n0_zz, n1_zz, wp_al0 (y := zX6_cut) dX6_cut_0, wp_iconst (y := zX6_cut) (nI 0) ki_0 dX6_cut_1, wp_putf (y := zX6_cut) kF6_44 rfl dX6_cut_2, wp_al0 (y := zX6_cut) dX6_cut_5, wp_il1 (y := zX6_cut) dX6_cut_6, wp_cv1 (y := zX6_cut) kM6_93 (by decide) dX6_cut_7, (show yo zX6_isCell = 6 from rfl), wp_if_ne (y := zX6_cut) 20 (by decide) dX6_cut_10, wp_il2 (y := zX6_cut) dX6_cut_20, wp_i2l (y := zX6_cut) dX6_cut_21, wp_lconst (y := zX6_cut) (0) kl_0 dX6_cut_22, wp_al0 (y := zX6_cut) dX6_cut_23, wp_il1 (y := zX6_cut) dX6_cut_24, wp_cv1 (y := zX6_cut) kM6_115 (by decide) dX6_cut_25, (show yo zX6_sidesOf = 6 from rfl), wp_i2l (y := zX6_cut) dX6_cut_28, wp_lconst (y := zX6_cut) (1) kl_1 dX6_cut_29, wp_lsub (y := zX6_cut) dX6_cut_30, wp_in (y := zX6_cut) rfl kP6_48 (by decide) dX6_cut_31, wp_if_eq (y := zX6_cut) 59 (by decide) dX6_cut_34, O.oc, O.g0, O.g1, O.g2, O.g3, O.g4, O.g5, O.g6, O.g7, O.g9, O.g10, O.g11, O.p0, O.p7, O.a1, O.a2, O.a3, O.a4, O.a5, O.a6, O.a7, O.a8, O.a9, E1, E2, E3]
      exact bad
    · have E3 := inn p hp
      rcases hA j with z' | ⟨q, hq, rfl⟩
      · have E4 := out j z'
        rw [if_pos (by rcases z' with z | z <;> simp only [z, true_or, or_true])]
        have bad := bad _ rfl
        generalize MT m μ _ = QQ at bad ⊢
        simp (disch := first | omega | assumption) only [mm_op_some, true_and, and_true, mm_rc_some, mm_rc_none, pk_mul, nI_add, mm_in_t, nI_clamp, ok0, ok1, ok2, ok3, ok4, n1_0, n0_0, nI_le_, nI_lt_, if_true, if_false, not_true, not_false_eq_true, ce_lt, ce_cl, hf_lt, hf_cl, n0_zz, n1_zz, wp_al0 (y := zX6_cut) dX6_cut_0, wp_iconst (y := zX6_cut) (nI 0) ki_0 dX6_cut_1, wp_putf (y := zX6_cut) kF6_44 rfl dX6_cut_2, wp_al0 (y := zX6_cut) dX6_cut_5, wp_il1 (y := zX6_cut) dX6_cut_6, wp_cv1 (y := zX6_cut) kM6_93 (by decide) dX6_cut_7, (show yo zX6_isCell = 6 from rfl), wp_if_ne (y := zX6_cut) 20 (by decide) dX6_cut_10, wp_il2 (y := zX6_cut) dX6_cut_20, wp_i2l (y := zX6_cut) dX6_cut_21, wp_lconst (y := zX6_cut) (0) kl_0 dX6_cut_22, wp_al0 (y := zX6_cut) dX6_cut_23, wp_il1 (y := zX6_cut) dX6_cut_24, wp_cv1 (y := zX6_cut) kM6_115 (by decide) dX6_cut_25, (show yo zX6_sidesOf = 6 from rfl), wp_i2l (y := zX6_cut) dX6_cut_28, wp_lconst (y := zX6_cut) (1) kl_1 dX6_cut_29, wp_lsub (y := zX6_cut) dX6_cut_30, wp_in (y := zX6_cut) rfl kP6_48 (by decide) dX6_cut_31, wp_if_eq (y := zX6_cut) 59 (by decide) dX6_cut_34, wp_il3 (y := zX6_cut) dX6_cut_37, wp_i2l (y := zX6_cut) dX6_cut_38, wp_lconst (y := zX6_cut) (0) kl_0 dX6_cut_39, wp_al0 (y := zX6_cut) dX6_cut_40, wp_il1 (y := zX6_cut) dX6_cut_41, wp_cv1 (y := zX6_cut) kM6_115 (by decide) dX6_cut_42, (show yo zX6_sidesOf = 6 from rfl), wp_i2l (y := zX6_cut) dX6_cut_45, wp_lconst (y := zX6_cut) (1) kl_1 dX6_cut_46, wp_lsub (y := zX6_cut) dX6_cut_47, wp_in (y := zX6_cut) rfl kP6_48 (by decide) dX6_cut_48, wp_if_eq (y := zX6_cut) 59 (by decide) dX6_cut_51, O.oc, O.g0, O.g1, O.g2, O.g3, O.g4, O.g5, O.g6, O.g7, O.g9, O.g10, O.g11, O.p0, O.p7, O.a1, O.a2, O.a3, O.a4, O.a5, O.a6, O.a7, O.a8, O.a9, E1, E2, E3, E4]
        exact bad
      · have E4 := inn q hq
        by_cases em : p = q
        · rw [if_pos (by rw [em]; simp only [or_true])]
          have e5 : (nI p = nI q) = True := eq_true (by rw [em])
          have bad := bad _ rfl
          generalize MT m μ _ = QQ at bad ⊢
          simp (disch := first | omega | assumption) only [mm_op_some, true_and, and_true, mm_rc_some, mm_rc_none, pk_mul, nI_add, mm_in_t, nI_clamp, ok0, ok1, ok2, ok3, ok4, n1_0, n0_0, nI_le_, nI_lt_, if_true, if_false, not_true, not_false_eq_true, ce_lt, ce_cl, hf_lt, hf_cl, n0_zz, n1_zz, wp_al0 (y := zX6_cut) dX6_cut_0, wp_iconst (y := zX6_cut) (nI 0) ki_0 dX6_cut_1, wp_putf (y := zX6_cut) kF6_44 rfl dX6_cut_2, wp_al0 (y := zX6_cut) dX6_cut_5, wp_il1 (y := zX6_cut) dX6_cut_6, wp_cv1 (y := zX6_cut) kM6_93 (by decide) dX6_cut_7, (show yo zX6_isCell = 6 from rfl), wp_if_ne (y := zX6_cut) 20 (by decide) dX6_cut_10, wp_il2 (y := zX6_cut) dX6_cut_20, wp_i2l (y := zX6_cut) dX6_cut_21, wp_lconst (y := zX6_cut) (0) kl_0 dX6_cut_22, wp_al0 (y := zX6_cut) dX6_cut_23, wp_il1 (y := zX6_cut) dX6_cut_24, wp_cv1 (y := zX6_cut) kM6_115 (by decide) dX6_cut_25, (show yo zX6_sidesOf = 6 from rfl), wp_i2l (y := zX6_cut) dX6_cut_28, wp_lconst (y := zX6_cut) (1) kl_1 dX6_cut_29, wp_lsub (y := zX6_cut) dX6_cut_30, wp_in (y := zX6_cut) rfl kP6_48 (by decide) dX6_cut_31, wp_if_eq (y := zX6_cut) 59 (by decide) dX6_cut_34, wp_il3 (y := zX6_cut) dX6_cut_37, wp_i2l (y := zX6_cut) dX6_cut_38, wp_lconst (y := zX6_cut) (0) kl_0 dX6_cut_39, wp_al0 (y := zX6_cut) dX6_cut_40, wp_il1 (y := zX6_cut) dX6_cut_41, wp_cv1 (y := zX6_cut) kM6_115 (by decide) dX6_cut_42, (show yo zX6_sidesOf = 6 from rfl), wp_i2l (y := zX6_cut) dX6_cut_45, wp_lconst (y := zX6_cut) (1) kl_1 dX6_cut_46, wp_lsub (y := zX6_cut) dX6_cut_47, wp_in (y := zX6_cut) rfl kP6_48 (by decide) dX6_cut_48, wp_if_eq (y := zX6_cut) 59 (by decide) dX6_cut_51, wp_il2 (y := zX6_cut) dX6_cut_54, wp_il3 (y := zX6_cut) dX6_cut_55, wp_icmp_ne (y := zX6_cut) 65 (by decide) dX6_cut_56, O.oc, O.g0, O.g1, O.g2, O.g3, O.g4, O.g5, O.g6, O.g7, O.g9, O.g10, O.g11, O.p0, O.p7, O.a1, O.a2, O.a3, O.a4, O.a5, O.a6, O.a7, O.a8, O.a9, E1, E2, E3, E4, e5]
          exact bad
        · have e5 : (nI p = nI q) = False := eq_false (by rw [nI_eq_ (by omega) (by omega)]; exact em)
          have a1 : (nI p < 0) = False := nI_lt0 (by omega)
          have a2 : (nI (sd s.1 k) ≤ nI p) = False := by rw [nI_le_ (by omega) (by omega)]; exact eq_false (by omega)
          have a3 : (nI q < 0) = False := nI_lt0 (by omega)
          have a4 : (nI (sd s.1 k) ≤ nI q) = False := by rw [nI_le_ (by omega) (by omega)]; exact eq_false (by omega)
          rw [if_neg (by simp only [a1, a2, a3, a4, e5, or_self, not_false_eq_true]), nI_clamp (by omega), nI_clamp (by omega)]
          have E5 : ∀ Q', cl sh zX6_freeCell [.ref m] (mu μ m (upd (μ m) 0 (nI 0))) Q' = Q' (some (.int (match frC s.1 with | some j => nI j | none => nI 48))) (mu μ m (upd (μ m) 0 (nI 0))) := fun Q' => m_freeCell O R0.1 J.sdb
          cases hfr : frC s.1 with
          | none =>
            rw [hfr] at E5
            have q5 : (nI 48 = nI 48) = True := eq_true rfl
            generalize hv : (((-4 : Int32), fRf s 3) : Int32 × Fo) = v
            generalize hq : MT m μ v = QQ
            simp (disch := first | omega | assumption) only [mm_op_some, true_and, and_true, mm_rc_some, mm_rc_none, pk_mul, nI_add, mm_in_t, nI_clamp, ok0, ok1, ok2, ok3, ok4, n1_0, n0_0, nI_le_, nI_lt_, if_true, if_false, not_true, not_false_eq_true, ce_lt, ce_cl, hf_lt, hf_cl, n0_zz, n1_zz, wp_al0 (y := zX6_cut) dX6_cut_0, wp_iconst (y := zX6_cut) (nI 0) ki_0 dX6_cut_1, wp_putf (y := zX6_cut) kF6_44 rfl dX6_cut_2, wp_al0 (y := zX6_cut) dX6_cut_5, wp_il1 (y := zX6_cut) dX6_cut_6, wp_cv1 (y := zX6_cut) kM6_93 (by decide) dX6_cut_7, (show yo zX6_isCell = 6 from rfl), wp_if_ne (y := zX6_cut) 20 (by decide) dX6_cut_10, wp_il2 (y := zX6_cut) dX6_cut_20, wp_i2l (y := zX6_cut) dX6_cut_21, wp_lconst (y := zX6_cut) (0) kl_0 dX6_cut_22, wp_al0 (y := zX6_cut) dX6_cut_23, wp_il1 (y := zX6_cut) dX6_cut_24, wp_cv1 (y := zX6_cut) kM6_115 (by decide) dX6_cut_25, (show yo zX6_sidesOf = 6 from rfl), wp_i2l (y := zX6_cut) dX6_cut_28, wp_lconst (y := zX6_cut) (1) kl_1 dX6_cut_29, wp_lsub (y := zX6_cut) dX6_cut_30, wp_in (y := zX6_cut) rfl kP6_48 (by decide) dX6_cut_31, wp_if_eq (y := zX6_cut) 59 (by decide) dX6_cut_34, wp_il3 (y := zX6_cut) dX6_cut_37, wp_i2l (y := zX6_cut) dX6_cut_38, wp_lconst (y := zX6_cut) (0) kl_0 dX6_cut_39, wp_al0 (y := zX6_cut) dX6_cut_40, wp_il1 (y := zX6_cut) dX6_cut_41, wp_cv1 (y := zX6_cut) kM6_115 (by decide) dX6_cut_42, (show yo zX6_sidesOf = 6 from rfl), wp_i2l (y := zX6_cut) dX6_cut_45, wp_lconst (y := zX6_cut) (1) kl_1 dX6_cut_46, wp_lsub (y := zX6_cut) dX6_cut_47, wp_in (y := zX6_cut) rfl kP6_48 (by decide) dX6_cut_48, wp_if_eq (y := zX6_cut) 59 (by decide) dX6_cut_51, wp_il2 (y := zX6_cut) dX6_cut_54, wp_il3 (y := zX6_cut) dX6_cut_55, wp_icmp_ne (y := zX6_cut) 65 (by decide) dX6_cut_56, wp_al0 (y := zX6_cut) dX6_cut_65, wp_cv0 (y := zX6_cut) kM6_170 (by decide) dX6_cut_66, (show yo zX6_freeCell = 6 from rfl), wp_is4 (y := zX6_cut) dX6_cut_69, wp_il4 (y := zX6_cut) dX6_cut_71, wp_bipush (y := zX6_cut) (nI 48) kb_48 dX6_cut_73, wp_icmp_ne (y := zX6_cut) 85 (by decide) dX6_cut_75, wp_al0 (y := zX6_cut) dX6_cut_78, wp_bipush (y := zX6_cut) ((-4)) kb_m4 dX6_cut_79, wp_cv1 (y := zX6_cut) kM6_72 (by decide) dX6_cut_81, (show yo zX6_refuse = 6 from rfl), O.oc, O.g0, O.g1, O.g2, O.g3, O.g4, O.g5, O.g6, O.g7, O.g9, O.g10, O.g11, O.p0, O.p7, O.a1, O.a2, O.a3, O.a4, O.a5, O.a6, O.a7, O.a8, O.a9, E1, E2, E3, E4, e5, E5, q5]
            refine cl_mono (m_ref4 O R0) ?_
            rintro r μ1 ⟨rfl, R1, F1⟩
            simp (disch := first | omega | assumption) only [mm_op_some, true_and, and_true, mm_rc_some, mm_rc_none, pk_mul, nI_add, mm_in_t, nI_clamp, ok0, ok1, ok2, ok3, ok4, n1_0, n0_0, nI_le_, nI_lt_, if_true, if_false, not_true, not_false_eq_true, ce_lt, ce_cl, hf_lt, hf_cl, wp_ireti (y := zX6_cut) rfl dX6_cut_84]
            rw [← hq, ← hv]
            exact mt_ro g0 rfl F1 rfl R1 J
          | some r0 =>
            have hr0 := (fd_some hfr).2.2.1
            have hr0' : r0 < 48 := by omega
            rw [hfr] at E5
            have q5 : (nI r0 = nI 48) = False := eq_false (by rw [nI_eq_ (by omega) (by omega)]; omega)
            have hv0 : (cI r0).val = r0 := cI_lt hr0'
            obtain ⟨ok, JC, _⟩ := (J.cutok (fr := cI r0) fh hp hq em).2 (by rw [hv0]; exact hfr)
            have E6 : ∀ Q', cl sh zX6_sideAt [.ref m, .int (nI k.val), .int (nI p)] (mu μ m (upd (μ m) 0 (nI 0))) Q' = Q' (some (.int (nI (nxi s.1 p f).val))) (mu μ m (upd (μ m) 0 (nI 0))) := fun Q' => m_sideAt O R0.1 J k f fh p (by omega)
            have E7 : ∀ Q', cl sh zX6_sideAt [.ref m, .int (nI k.val), .int (nI q)] (mu μ m (upd (μ m) 0 (nI 0))) Q' = Q' (some (.int (nI (nxi s.1 q f).val))) (mu μ m (upd (μ m) 0 (nI 0))) := fun Q' => m_sideAt O R0.1 J k f fh q (by omega)
            dsimp only
            dsimp only at E5
            have fin : ∀ μ', RepM (fEv s (cuM s.1 k f p q (cI r0)) 2 9 (nI k.val)) μ' m → RO (mu μ m (upd (μ m) 0 (nI 0))) μ' m → MT m μ (nI r0, fEv s (cuM s.1 k f p q (cI r0)) 2 9 (nI k.val)) (some (.int (nI r0))) μ' := fun μ' R1 F1 => mt_ro g0 rfl F1 rfl R1 JC
            generalize MT m μ (nI r0, fEv s (cuM s.1 k f p q (cI r0)) 2 9 (nI k.val)) = QQ at fin ⊢
            simp (disch := first | omega | assumption) only [mm_op_some, true_and, and_true, mm_rc_some, mm_rc_none, pk_mul, nI_add, mm_in_t, nI_clamp, ok0, ok1, ok2, ok3, ok4, n1_0, n0_0, nI_le_, nI_lt_, if_true, if_false, not_true, not_false_eq_true, ce_lt, ce_cl, hf_lt, hf_cl, n0_zz, n1_zz, wp_al0 (y := zX6_cut) dX6_cut_0, wp_iconst (y := zX6_cut) (nI 0) ki_0 dX6_cut_1, wp_putf (y := zX6_cut) kF6_44 rfl dX6_cut_2, wp_al0 (y := zX6_cut) dX6_cut_5, wp_il1 (y := zX6_cut) dX6_cut_6, wp_cv1 (y := zX6_cut) kM6_93 (by decide) dX6_cut_7, (show yo zX6_isCell = 6 from rfl), wp_if_ne (y := zX6_cut) 20 (by decide) dX6_cut_10, wp_il2 (y := zX6_cut) dX6_cut_20, wp_i2l (y := zX6_cut) dX6_cut_21, wp_lconst (y := zX6_cut) (0) kl_0 dX6_cut_22, wp_al0 (y := zX6_cut) dX6_cut_23, wp_il1 (y := zX6_cut) dX6_cut_24, wp_cv1 (y := zX6_cut) kM6_115 (by decide) dX6_cut_25, (show yo zX6_sidesOf = 6 from rfl), wp_i2l (y := zX6_cut) dX6_cut_28, wp_lconst (y := zX6_cut) (1) kl_1 dX6_cut_29, wp_lsub (y := zX6_cut) dX6_cut_30, wp_in (y := zX6_cut) rfl kP6_48 (by decide) dX6_cut_31, wp_if_eq (y := zX6_cut) 59 (by decide) dX6_cut_34, wp_il3 (y := zX6_cut) dX6_cut_37, wp_i2l (y := zX6_cut) dX6_cut_38, wp_lconst (y := zX6_cut) (0) kl_0 dX6_cut_39, wp_al0 (y := zX6_cut) dX6_cut_40, wp_il1 (y := zX6_cut) dX6_cut_41, wp_cv1 (y := zX6_cut) kM6_115 (by decide) dX6_cut_42, (show yo zX6_sidesOf = 6 from rfl), wp_i2l (y := zX6_cut) dX6_cut_45, wp_lconst (y := zX6_cut) (1) kl_1 dX6_cut_46, wp_lsub (y := zX6_cut) dX6_cut_47, wp_in (y := zX6_cut) rfl kP6_48 (by decide) dX6_cut_48, wp_if_eq (y := zX6_cut) 59 (by decide) dX6_cut_51, wp_il2 (y := zX6_cut) dX6_cut_54, wp_il3 (y := zX6_cut) dX6_cut_55, wp_icmp_ne (y := zX6_cut) 65 (by decide) dX6_cut_56, wp_al0 (y := zX6_cut) dX6_cut_65, wp_cv0 (y := zX6_cut) kM6_170 (by decide) dX6_cut_66, (show yo zX6_freeCell = 6 from rfl), wp_is4 (y := zX6_cut) dX6_cut_69, wp_il4 (y := zX6_cut) dX6_cut_71, wp_bipush (y := zX6_cut) (nI 48) kb_48 dX6_cut_73, wp_icmp_ne (y := zX6_cut) 85 (by decide) dX6_cut_75, wp_al0 (y := zX6_cut) dX6_cut_85, wp_al0 (y := zX6_cut) dX6_cut_86, wp_il1 (y := zX6_cut) dX6_cut_87, wp_il2 (y := zX6_cut) dX6_cut_88, wp_cv2 (y := zX6_cut) kM6_173 (by decide) dX6_cut_89, (show yo zX6_sideAt = 6 from rfl), wp_al0 (y := zX6_cut) dX6_cut_92, wp_il1 (y := zX6_cut) dX6_cut_93, wp_il3 (y := zX6_cut) dX6_cut_94, wp_cv2 (y := zX6_cut) kM6_173 (by decide) dX6_cut_95, (show yo zX6_sideAt = 6 from rfl), wp_il1 (y := zX6_cut) dX6_cut_98, wp_il4 (y := zX6_cut) dX6_cut_99, wp_cv4 (y := zX6_cut) kM6_177 (by decide) dX6_cut_101, (show yo zX6_cutBy = 6 from rfl), O.oc, O.g0, O.g1, O.g2, O.g3, O.g4, O.g5, O.g6, O.g7, O.g9, O.g10, O.g11, O.p0, O.p7, O.a1, O.a2, O.a3, O.a4, O.a5, O.a6, O.a7, O.a8, O.a9, E1, E2, E3, E4, e5, E5, q5, E6, E7]
            have of : ow s.1 (nxi s.1 p f) = k := by
              rw [nxi_itn]
              exact ((J.1.lit p f (fH_ow fh).1).2).trans (fH_ow fh).2
            rw [show nI r0 = nI (cI r0).val by rw [hv0]]
            refine m_cutBy O R0.1 J ok of JC (fun μ1 A1 F1 => ?_)
            have i6 : (mm_in (nI 6) 1786 = true) = True := mm_in_t (by decide) (by decide)
            have c6 : (nI 6).toNatClampNeg = 6 := rfl
            have e6 : μ1 (m + 1) 6 = s.2.2.2 9 := by rw [F1.2 6 (by omega)]; exact R0.2.2.2.2.2.2.2.1
            have hm : μ1 m = mu μ m (upd (μ m) 0 (nI 0)) m := F1.1 m (by omega)
            simp (disch := first | omega | assumption) only [mm_op_some, true_and, and_true, mm_rc_none, ok0, ok1, ok2, wp_al0 (y := zX6_cut) dX6_cut_104, wp_getf (y := zX6_cut) kF6_9 dX6_cut_105, wp_bipush (y := zX6_cut) (nI 6) kb_6 dX6_cut_108, wp_dup2 (y := zX6_cut) dX6_cut_110, wp_iald (y := zX6_cut) dX6_cut_111, wp_iconst (y := zX6_cut) (nI 1) ki_1 dX6_cut_112, wp_iadd (y := zX6_cut) dX6_cut_113, wp_iast (y := zX6_cut) dX6_cut_114, wp_al0 (y := zX6_cut) dX6_cut_115, wp_iconst (y := zX6_cut) (nI 2) ki_2 dX6_cut_116, wp_il1 (y := zX6_cut) dX6_cut_117, wp_cv2 (y := zX6_cut) kM6_138 (by decide) dX6_cut_118, (show yo zX6_notes = 6 from rfl), O.oc, O.g0, O.g1, O.g2, O.g3, O.g4, O.g5, O.g6, O.g7, O.g9, O.g10, O.g11, O.p0, O.p7, O.a1, O.a2, O.a3, O.a4, O.a5, O.a6, O.a7, O.a8, O.a9, i6, c6, e6]
            have R2 : RepM (cuM s.1 k f p q (cI r0), s.2.1, s.2.2.1, upd s.2.2.2 9 (s.2.2.2 9 + nI 1)) (mu μ1 (m + 1) (upd (μ1 (m + 1)) 6 (s.2.2.2 9 + nI 1))) m := by
              refine ⟨?_, ?_⟩
              · rw [mu_s]
                exact A1.cg (fun k k1 k2 => upd_n _ _ (by omega))
              · rw [mu_s, mu_n _ _ (by omega), hm]
                have q := (OtR_m R0.2 (cuM s.1 k f p q (cI r0))).cg (r' := μ1 (m + 1)) F1.2
                exact q.fld 6 9 (by omega) (by omega) rfl (s.2.2.2 9 + nI 1)
            refine cl_mono (m_notes O R2 (nI 2) (nI k.val)) ?_
            rintro r μ2 ⟨rfl, R3, FX⟩
            simp (disch := first | omega | assumption) only [mm_rc_none, true_and, wp_il4 (y := zX6_cut) dX6_cut_121, wp_ireti (y := zX6_cut) rfl dX6_cut_123]
            rw [hv0]
            exact fin _ R3 ((F1.ro.trans (RO_mu (RO.refl _ _) _)).trans FX)
end MCX
