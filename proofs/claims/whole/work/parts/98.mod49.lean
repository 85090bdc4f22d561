theorem nI_s1 (e : Nat) : nI (e + 1) - nI 1 = nI e := by
  rw [← nI_add]
  grind
theorem nI_p1 (e : Nat) : nI e + (-1) = nI e - nI 1 := by
  rw [show nI 1 = 1 from rfl]
  grind
section MWY
variable {sh : mm_Sh} {m : Nat} {M : Ms} {μ : mm_U} {s : Fo} {Q : Option Value → mm_U → Prop}
theorem wB_in {c d : Ce} {w : Wa} (h : bt M w c d = true) : 0 < wB M c d := by
  have e : wB M c d = nI (sm 144 (fun i => b1 (bt M (wI i) c d))) := it_cnt (fun i => bt M (wI i) c d) 144
  have k1 : sm 144 (fun i => b1 (bt M (wI i) c d)) ≤ 144 * 1 := sm_le 144 (fun j _ => b1_le _)
  have k2 := sm_ge (f := fun i => b1 (bt M (wI i) c d)) (i := w.val) 144 w.isLt
  have k3 : b1 (bt M (wI w.val) c d) = 1 := by rw [wI_val, h]; rfl
  rw [e, Int32.lt_iff_toInt_lt, nI_toInt (by omega), show (0 : Int32).toInt = 0 from rfl]
  omega
theorem Inv.beside (J : Inv M) (c d : Ce) : 0 < wB M c d ↔ GrM M (nI 0) c d := by
  constructor
  · intro h
    obtain ⟨w, hw⟩ := wB_ex h
    unfold bt at hw
    rw [Bool.and_eq_true] at hw
    obtain ⟨hl, hd⟩ := hw
    have nl : ¬ nI (sd M d) < nI 0 := fun q => by rw [Int32.lt_iff_toInt_lt, nI_toInt (by have := J.sdb d; omega), nI_toInt (by decide)] at q; omega
    rcases of_decide_eq_true hd with ⟨a, b⟩ | ⟨a, b⟩
    · exact ⟨h0 w, LvH_h0.mpr hl, a, by rw [tw_h0]; exact b, nl⟩
    · exact ⟨h1 w, LvH_h1.mpr hl, b, by rw [tw_h1]; exact a, nl⟩
  · rintro ⟨h, lh, a, b, _⟩
    exact wB_in (bt_of lh a b).1
theorem ln_char (J : Inv M) (f : Ce → Option Nat) (cell : Ce) (e : Nat) (he : e < 1000) (bf : ∀ v x, f v = some x → x < 2 ^ 31) (hf : f cell = some (e + 1)) : ∀ k, k ≤ sd M cell → (it (fun i best => lnS f cell (ow M (tw (nxi M i (hI ((fH M cell).getD 0))))) best) k 0 cell = cell ∧ ∀ i, i < k → f (ow M (tw (nxi M i (hI ((fH M cell).getD 0))))) ≠ some e) ∨ (∃ i, i < k ∧ it (fun i best => lnS f cell (ow M (tw (nxi M i (hI ((fH M cell).getD 0))))) best) k 0 cell = ow M (tw (nxi M i (hI ((fH M cell).getD 0)))) ∧ f (ow M (tw (nxi M i (hI ((fH M cell).getD 0))))) = some e ∧ ∀ j, j < k → f (ow M (tw (nxi M j (hI ((fH M cell).getD 0))))) = some e → (ow M (tw (nxi M i (hI ((fH M cell).getD 0))))).val ≤ (ow M (tw (nxi M j (hI ((fH M cell).getD 0))))).val) := by
  intro k
  generalize hN : (fun i => ow M (tw (nxi M i (hI ((fH M cell).getD 0))))) = N
  have hn : ∀ i, ow M (tw (nxi M i (hI ((fH M cell).getD 0)))) = N i := fun i => by rw [← hN]
  simp only [hn]
  have t : ∀ o, (fo (f o) = fo (f cell) - nI 1) = (f o = some e) := fun o => by
    rw [hf]
    show (fo (f o) = nI (e + 1) - nI 1) = _
    rw [nI_s1]
    exact fo_eqd (bf o) (by omega)
  induction k with
  | zero => intro _; exact Or.inl ⟨rfl, fun i hi => absurd hi (Nat.not_lt_zero _)⟩
  | succ k ih =>
    intro hk
    rw [it_last0]
    have ih := ih (by omega)
    generalize it (fun i best => lnS f cell (N i) best) k 0 cell = B at ih
    unfold lnS
    have tk : (fo (f (N k)) = fo (f cell) - nI 1) ↔ f (N k) = some e := by rw [t]
    by_cases q : f (N k) = some e
    · rcases ih with ⟨rfl, no⟩ | ⟨i, hi, rfl, fe, le⟩
      · rw [if_pos ⟨tk.mpr q, Or.inl rfl⟩]
        exact Or.inr ⟨k, by omega, rfl, q, fun j hj qj => by
          by_cases z : j = k
          · rw [z]; exact Nat.le_refl _
          · exact absurd qj (no j (by omega))⟩
      · have nc : N i ≠ cell := fun z => by rw [z, hf] at fe; have := Option.some.inj fe; omega
        by_cases lt : (N k).val < (N i).val
        · rw [if_pos ⟨tk.mpr q, Or.inr lt⟩]
          exact Or.inr ⟨k, by omega, rfl, q, fun j hj qj => by
            by_cases z : j = k
            · rw [z]; exact Nat.le_refl _
            · have := le j (by omega) qj
              omega⟩
        · rw [if_neg (fun z => z.2.elim nc lt)]
          exact Or.inr ⟨i, by omega, rfl, fe, fun j hj qj => by
            by_cases z : j = k
            · rw [z]; omega
            · exact le j (by omega) qj⟩
    · rw [if_neg (fun z => q (tk.mp z.1))]
      rcases ih with ⟨e1, no⟩ | ⟨i, hi, e1, fe, le⟩
      · exact Or.inl ⟨e1, fun j hj => by
          by_cases z : j = k
          · rw [z]; exact q
          · exact no j (by omega)⟩
      · exact Or.inr ⟨i, by omega, e1, fe, fun j hj qj => by
          by_cases z : j = k
          · rw [z] at qj; exact absurd qj q
          · exact le j (by omega) qj⟩
/-- the least of those that are nearer -/
def nrP (M : Ms) (f : Ce → Option Nat) (at_ : Ce) (i : Nat) : Bool := decide (0 < sd M (cI i)) && (decide (fo (f (cI i)) = fo (f at_) - nI 1) && decide (0 < wB M at_ (cI i)))
theorem Inv.nearer (J : Inv M) {f : Ce → Option Nat} {c cell : Ce} {e : Nat} (D : DsG (GrM M (nI 0)) c f) (he : e < 1000) (bf : ∀ v x, f v = some x → x < 2 ^ 31) (hf : f cell = some (e + 1)) : fd (nrP M f cell) 48 0 = some (lnN M f cell).val ∧ f (lnN M f cell) = some e := by
  have t : ∀ o, (fo (f o) = fo (f cell) - nI 1) = (f o = some e) := fun o => by
    rw [hf]
    show (fo (f o) = nI (e + 1) - nI 1) = _
    rw [nI_s1]
    exact fo_eqd (bf o) (by omega)
  have P : ∀ o : Ce, nrP M f cell o.val = true ↔ (f o = some e ∧ GrM M (nI 0) cell o) := fun o => by
    unfold nrP
    rw [cI_val, Bool.and_eq_true, Bool.and_eq_true, decide_eq_true_iff, decide_eq_true_iff, decide_eq_true_iff, t, J.beside]
    exact ⟨fun q => q.2, fun q => ⟨(J.wB_l ((J.beside _ _).mpr q.2)).2.1, q⟩⟩
  have R : ∀ o : Ce, GrM M (nI 0) cell o ↔ ∃ i, i < sd M cell ∧ ow M (tw (nxi M i (hI ((fH M cell).getD 0)))) = o := fun o => by
    constructor
    · rintro ⟨h, lh, oh, rfl, _⟩
      obtain ⟨i, hi, q⟩ := (J.rnd cell h).mp ⟨lh, oh⟩
      exact ⟨i, hi, by rw [q]⟩
    · rintro ⟨i, hi, rfl⟩
      obtain ⟨lh, oh⟩ := (J.rnd cell _).mpr ⟨i, hi, rfl⟩
      exact ⟨_, lh, oh, rfl, fun q => by rw [Int32.lt_iff_toInt_lt, nI_toInt (by have := J.sdb (ow M (tw (nxi M i (hI ((fH M cell).getD 0))))); omega), nI_toInt (by decide)] at q; omega⟩
  have ex : ∃ i, i < sd M cell ∧ f (ow M (tw (nxi M i (hI ((fH M cell).getD 0))))) = some e := by
    obtain ⟨u, fu_, g, lg, og, og2, _⟩ := D.2.1 cell e hf
    have : GrM M (nI 0) cell u := ⟨tw g, LvH_tw.mpr lg, og2, by rw [tw_tw]; exact og, fun q => by rw [Int32.lt_iff_toInt_lt, nI_toInt (by have := J.sdb u; omega), nI_toInt (by decide)] at q; omega⟩
    obtain ⟨i, hi, q⟩ := (R u).mp this
    exact ⟨i, hi, by rw [q]; exact fu_⟩
  rcases ln_char J f cell e he bf hf (sd M cell) (Nat.le_refl _) with ⟨_, no⟩ | ⟨i, hi, e1, fe, le⟩
  · obtain ⟨i, hi, q⟩ := ex
    exact absurd q (no i hi)
  · have eL : lnN M f cell = ow M (tw (nxi M i (hI ((fH M cell).getD 0)))) := e1
    rw [eL]
    refine ⟨?_, fe⟩
    have pi := (P _).mpr ⟨fe, (R _).mpr ⟨i, hi, rfl⟩⟩
    generalize ow M (tw (nxi M i (hI ((fH M cell).getD 0)))) = o at fe le pi
    obtain ⟨j, hj⟩ := fd_ex o.isLt pi
    rw [hj]
    obtain ⟨p1, _, p3, p4⟩ := fd_some hj
    have j48 : j < 48 := by omega
    have jv := cI_lt j48
    have pj : nrP M f cell (cI j).val = true := by rw [jv]; exact p1
    obtain ⟨fj, gj⟩ := (P _).mp pj
    obtain ⟨k, hk, ek⟩ := (R _).mp gj
    have l1 := le k hk (by rw [ek]; exact fj)
    rw [ek, jv] at l1
    by_cases lt : o.val < j
    · rw [p4 o.val (Nat.zero_le _) lt] at pi
      cases pi
    · rw [show j = o.val by omega]
theorem m_way (O : MoSh sh m) (R : RepM s μ m) (J : Inv s.1) (g0 : μ m 7 = nI 0) (x y z : Int32) : cl sh zX6_way [.ref m, .int x, .int y, .int z] μ (MT m μ (a_way s x y z, s)) := by
  have R0 := R.mu0 (nI 0)
  have A := R0.1
  show wp sh zX6_way 0 [.ref m, .int x, .int y, .int z, .null, .null, .null, .null] [] μ _
  unfold a_way
  cases ex : ceO s.1 x with
  | none =>
    have E1 : ∀ Q', cl sh zX6_isCell [.ref m, .int x] (mu μ m (upd (μ m) 0 (nI 0))) Q' = Q' (some (.int (nI 0))) (mu μ m (upd (μ m) 0 (nI 0))) := fun Q' => m_isCellN O A J.sdb ex
    have fin : MT m μ ((-1 : Int32), s) (some (.int (-1))) (mu μ m (upd (μ m) 0 (nI 0))) := mt_fa (b := m + 7) (by omega) g0 R J (FrA.refl _ _)
    dsimp only
    generalize MT m μ ((-1 : Int32), s) = QQ at fin ⊢
    simp (disch := first | omega | assumption) only [mm_op_some, true_and, and_true, mm_rc_some, mm_rc_none, pk_mul, nI_add, mm_in_t, nI_clamp, ok0, ok1, ok2, ok3, ok4, n1_0, n0_0, nI_le_, nI_lt_, if_true, if_false, not_true, not_false_eq_true, ce_lt, ce_cl, hf_lt, hf_cl, n0_zz, wp_al0 (y := zX6_way) dX6_way_0, wp_iconst (y := zX6_way) (nI 0) ki_0 dX6_way_1, wp_putf (y := zX6_way) kF6_44 rfl dX6_way_2, wp_al0 (y := zX6_way) dX6_way_5, wp_il1 (y := zX6_way) dX6_way_6, wp_cv1 (y := zX6_way) kM6_93 (by decide) dX6_way_7, (show yo zX6_isCell = 6 from rfl), wp_if_eq (y := zX6_way) 21 (by decide) dX6_way_10, wp_iconst (y := zX6_way) ((-1)) ki_m1 dX6_way_21, wp_ireti (y := zX6_way) rfl dX6_way_22, O.oc, O.g0, O.g1, O.g2, O.g3, O.g4, O.g5, O.g6, O.g7, O.g9, O.g10, O.g11, O.p0, O.p7, O.a1, O.a2, O.a3, O.a4, O.a5, O.a6, O.a7, O.a8, O.a9, E1]
    exact fin
  | some a =>
    obtain ⟨rfl, ha⟩ := ceO_some ex
    have E1 : ∀ Q', cl sh zX6_isCell [.ref m, .int (nI a.val)] (mu μ m (upd (μ m) 0 (nI 0))) Q' = Q' (some (.int (nI 1))) (mu μ m (upd (μ m) 0 (nI 0))) := fun Q' => m_isCellS O A J.sdb ha
    cases ey : ceO s.1 y with
    | none =>
      have E2 : ∀ Q', cl sh zX6_isCell [.ref m, .int y] (mu μ m (upd (μ m) 0 (nI 0))) Q' = Q' (some (.int (nI 0))) (mu μ m (upd (μ m) 0 (nI 0))) := fun Q' => m_isCellN O A J.sdb ey
      have fin : MT m μ ((-1 : Int32), s) (some (.int (-1))) (mu μ m (upd (μ m) 0 (nI 0))) := mt_fa (b := m + 7) (by omega) g0 R J (FrA.refl _ _)
      dsimp only
      generalize MT m μ ((-1 : Int32), s) = QQ at fin ⊢
      simp (disch := first | omega | assumption) only [mm_op_some, true_and, and_true, mm_rc_some, mm_rc_none, pk_mul, nI_add, mm_in_t, nI_clamp, ok0, ok1, ok2, ok3, ok4, n1_0, n0_0, nI_le_, nI_lt_, if_true, if_false, not_true, not_false_eq_true, ce_lt, ce_cl, hf_lt, hf_cl, n0_zz, n1_zz, wp_al0 (y := zX6_way) dX6_way_0, wp_iconst (y := zX6_way) (nI 0) ki_0 dX6_way_1, wp_putf (y := zX6_way) kF6_44 rfl dX6_way_2, wp_al0 (y := zX6_way) dX6_way_5, wp_il1 (y := zX6_way) dX6_way_6, wp_cv1 (y := zX6_way) kM6_93 (by decide) dX6_way_7, (show yo zX6_isCell = 6 from rfl), wp_if_eq (y := zX6_way) 21 (by decide) dX6_way_10, wp_al0 (y := zX6_way) dX6_way_13, wp_il2 (y := zX6_way) dX6_way_14, wp_cv1 (y := zX6_way) kM6_93 (by decide) dX6_way_15, (show yo zX6_isCell = 6 from rfl), wp_if_ne (y := zX6_way) 23 (by decide) dX6_way_18, wp_iconst (y := zX6_way) ((-1)) ki_m1 dX6_way_21, wp_ireti (y := zX6_way) rfl dX6_way_22, O.oc, O.g0, O.g1, O.g2, O.g3, O.g4, O.g5, O.g6, O.g7, O.g9, O.g10, O.g11, O.p0, O.p7, O.a1, O.a2, O.a3, O.a4, O.a5, O.a6, O.a7, O.a8, O.a9, E1, E2]
      exact fin
    | some b =>
      obtain ⟨rfl, hb⟩ := ceO_some ey
      have E2 : ∀ Q', cl sh zX6_isCell [.ref m, .int (nI b.val)] (mu μ m (upd (μ m) 0 (nI 0))) Q' = Q' (some (.int (nI 1))) (mu μ m (upd (μ m) 0 (nI 0))) := fun Q' => m_isCellS O A J.sdb hb
      have fin : ∀ v μ', FrA (mu μ m (upd (μ m) 0 (nI 0))) μ' (m + 7) → MT m μ (v, s) (some (.int v)) μ' := fun v μ' F => mt_fa (b := m + 7) (by omega) g0 R J F
      dsimp only
      have D := J.spd (least := nI 0) b
      have lay := m_layFar O A J b
      have spp : ∀ v e, (spF s.1 (nI 0) b (fun _ => none)).1 v = some e → 0 < sd s.1 v := fun v e q => J.spp hb q
      generalize (spF s.1 (nI 0) b (fun _ => none)).1 = f at D lay spp ⊢
      generalize hv : (if z < 0 then (-1 : Int32) else if z ≤ fo (f a) then nI (cmN s.1 f z.toNatClampNeg 0 a).val else -1) = v
      have fin := fin v
      generalize MT m μ (v, s) = QQ at fin ⊢
      simp (disch := first | omega | assumption) only [mm_op_some, true_and, and_true, mm_rc_some, mm_rc_none, pk_mul, nI_add, mm_in_t, nI_clamp, ok0, ok1, ok2, ok3, ok4, n1_0, n0_0, nI_le_, nI_lt_, if_true, if_false, not_true, not_false_eq_true, ce_lt, ce_cl, hf_lt, hf_cl, n0_zz, n1_zz, wp_al0 (y := zX6_way) dX6_way_0, wp_iconst (y := zX6_way) (nI 0) ki_0 dX6_way_1, wp_putf (y := zX6_way) kF6_44 rfl dX6_way_2, wp_al0 (y := zX6_way) dX6_way_5, wp_il1 (y := zX6_way) dX6_way_6, wp_cv1 (y := zX6_way) kM6_93 (by decide) dX6_way_7, (show yo zX6_isCell = 6 from rfl), wp_if_eq (y := zX6_way) 21 (by decide) dX6_way_10, wp_al0 (y := zX6_way) dX6_way_13, wp_il2 (y := zX6_way) dX6_way_14, wp_cv1 (y := zX6_way) kM6_93 (by decide) dX6_way_15, (show yo zX6_isCell = 6 from rfl), wp_if_ne (y := zX6_way) 23 (by decide) dX6_way_18, wp_al0 (y := zX6_way) dX6_way_23, wp_il2 (y := zX6_way) dX6_way_24, wp_cv1 (y := zX6_way) kM6_261 (by decide) dX6_way_25, (show yo zX6_layFar = 6 from rfl), O.oc, O.g0, O.g1, O.g2, O.g3, O.g4, O.g5, O.g6, O.g7, O.g9, O.g10, O.g11, O.p0, O.p7, O.a1, O.a2, O.a3, O.a4, O.a5, O.a6, O.a7, O.a8, O.a9, E1, E2]
      refine cl_mono lay ?_
      rintro r μ1 ⟨rfl, F1, r1, b1⟩
      have bf : ∀ v x, f v = some x → x < 2 ^ 31 := fun v x q => by have := b1 v x q; omega
      have A1 : MeR s.1 (μ1 (m + 1)) := by rw [F1 (m + 1) (by omega)]; exact A
      have q1 := r1 a
      have z0 : (0 : Int64).toInt = 0 := rfl
      have z00 : (0 : Int32).toInt = 0 := rfl
      by_cases hz : z < 0 ∨ ¬ z ≤ fo (f a)
      · have hv' : (-1 : Int32) = v := by
          rw [← hv]
          rcases hz with q | q
          · rw [if_pos q]
          · rw [if_neg q, ite_self]
        have ei : mm_isin z.toInt64 0 (fo (f a)).toInt64 = nI 0 := isin_f (fun q => by
          rw [z0, Int32.toInt_toInt64] at q
          rw [Int32.lt_iff_toInt_lt, Int32.le_iff_toInt_le, z00] at hz
          omega)
        simp (disch := first | omega | assumption) only [mm_op_some, true_and, and_true, mm_rc_some, mm_rc_none, pk_mul, nI_add, mm_in_t, nI_clamp, ok0, ok1, ok2, ok3, ok4, n1_0, n0_0, nI_le_, nI_lt_, if_true, if_false, not_true, not_false_eq_true, ce_lt, ce_cl, hf_lt, hf_cl, n0_zz, n1_zz, wp_il3 (y := zX6_way) dX6_way_28, wp_i2l (y := zX6_way) dX6_way_29, wp_lconst (y := zX6_way) (0) kl_0 dX6_way_30, wp_al0 (y := zX6_way) dX6_way_31, wp_getf (y := zX6_way) kF6_31 dX6_way_32, wp_il1 (y := zX6_way) dX6_way_35, wp_iald (y := zX6_way) dX6_way_36, wp_i2l (y := zX6_way) dX6_way_37, wp_in (y := zX6_way) rfl kP6_48 (by decide) dX6_way_38, wp_if_ne (y := zX6_way) 46 (by decide) dX6_way_41, wp_iconst (y := zX6_way) ((-1)) ki_m1 dX6_way_44, wp_ireti (y := zX6_way) rfl dX6_way_45, O.oc, O.g0, O.g1, O.g2, O.g3, O.g4, O.g5, O.g6, O.g7, O.g9, O.g10, O.g11, O.p0, O.p7, O.a1, O.a2, O.a3, O.a4, O.a5, O.a6, O.a7, O.a8, O.a9, q1, ei]
        rw [← hv'] at fin
        exact fin _ F1
      · have hz1 : ¬ z < 0 := fun q => hz (Or.inl q)
        have hz2 : z ≤ fo (f a) := Classical.byContradiction (fun q => hz (Or.inr q))
        rw [if_neg hz1, if_pos hz2] at hv
        have ei : mm_isin z.toInt64 0 (fo (f a)).toInt64 = nI 1 := isin_t (by
          rw [z0, Int32.toInt_toInt64]
          rw [Int32.lt_iff_toInt_lt, z00] at hz1
          rw [Int32.le_iff_toInt_le] at hz2
          omega)
        obtain ⟨e0, he0⟩ : ∃ e0, f a = some e0 := by
          cases q : f a with
          | none =>
            rw [q, Int32.le_iff_toInt_le] at hz2
            rw [Int32.lt_iff_toInt_lt, z00] at hz1
            have : (fo none).toInt = -1 := by decide
            omega
          | some e => exact ⟨e, rfl⟩
        have e48 := b1 a e0 he0
        obtain ⟨n, hn, rfl⟩ : ∃ n, n ≤ e0 ∧ z = nI n := by
          rw [he0, Int32.le_iff_toInt_le] at hz2
          rw [Int32.lt_iff_toInt_lt, z00] at hz1
          have : (fo (some e0)).toInt = e0 := nI_toInt (by omega)
          refine ⟨z.toInt.toNat, by omega, Int32.toInt_inj.mp ?_⟩
          rw [nI_toInt (by omega)]
          omega
        rw [nI_clamp (by omega)] at hv
        have inn : ∀ (k : Nat) (w : Ce) (e : Nat), f w = some e → ∀ j, j ≤ 48 → wp sh zX6_way 65 [.ref m, .int (nI a.val), .int (nI b.val), .int (nI n), .int (nI w.val), .int (nI k), .int (fo (fd (nrP s.1 f w) (48 - j) j)), .int (nI j - nI 1)] [] μ1 QQ = wp sh zX6_way 124 [.ref m, .int (nI a.val), .int (nI b.val), .int (nI n), .int (nI w.val), .int (nI k), .int (fo (fd (nrP s.1 f w) 48 0)), .int (-1)] [] μ1 QQ := by
          intro k w e hw j
          have q2 := r1 w
          induction j with
          | zero =>
            intro _
            rw [show nI 0 - nI 1 = (-1 : Int32) by decide, wp_il7 (y := zX6_way) dX6_way_65]
            have e1 : ((-1 : Int32) < 0) = True := eq_true (by decide)
            simp (disch := first | omega | assumption) only [mm_op_some, true_and, and_true, mm_rc_some, mm_rc_none, pk_mul, nI_add, mm_in_t, nI_clamp, ok0, ok1, ok2, ok3, ok4, n1_0, n0_0, nI_le_, nI_lt_, if_true, if_false, not_true, not_false_eq_true, ce_lt, ce_cl, hf_lt, hf_cl, wp_if_lt (y := zX6_way) 124 (by decide) dX6_way_67, e1]
          | succ j ih =>
            intro hj
            have hj' : j < 48 := by omega
            have jv := cI_lt hj'
            have ih := ih (by omega)
            rw [show 48 - j = (48 - (j + 1)) + 1 by omega] at ih
            unfold fd at ih
            rw [nI_s1, wp_il7 (y := zX6_way) dX6_way_65]
            have e1 : (nI j < 0) = False := eq_false (nI_pos (by omega))
            have q3 := r1 (cI j)
            rw [jv] at q3
            have w1 : nrP s.1 f w j = (decide (0 < sd s.1 (cI j)) && (decide (fo (f (cI j)) = fo (f w) - nI 1) && decide (0 < wB s.1 w (cI j)))) := rfl
            rw [w1] at ih
            by_cases hl : 0 < sd s.1 (cI j)
            · have E0 : ∀ Q', cl sh zX6_isCell [.ref m, .int (nI j)] μ1 Q' = Q' (some (.int (nI 1))) μ1 := fun Q' => m_isCell1 O A1 J.sdb hj' hl
              rw [decide_eq_true hl, Bool.true_and] at ih
              by_cases p : fo (f (cI j)) = fo (f w) - nI 1
              · have p' := eq_true p
                rw [decide_eq_true p, Bool.true_and] at ih
                have E3 : ∀ Q', cl sh zX6_areBeside [.ref m, .int (nI w.val), .int (nI j)] μ1 Q' = Q' (some (.int (bI (decide (0 < wB s.1 w (cI j)))))) μ1 := fun Q' => by
                  have := m_areBeside (Q := Q') O A1 J w (cI j)
                  rw [jv] at this
                  exact this
                by_cases p2 : 0 < wB s.1 w (cI j)
                · rw [decide_eq_true p2, if_pos rfl] at ih
                  rw [decide_eq_true p2, bI_t] at E3
                  simp (disch := first | omega | assumption) only [mm_op_some, true_and, and_true, mm_rc_some, mm_rc_none, pk_mul, nI_add, mm_in_t, nI_clamp, ok0, ok1, ok2, ok3, ok4, n1_0, n0_0, nI_le_, nI_lt_, if_true, if_false, not_true, not_false_eq_true, ce_lt, ce_cl, hf_lt, hf_cl, n0_zz, n1_zz, wp_if_lt (y := zX6_way) 124 (by decide) dX6_way_67, wp_al0 (y := zX6_way) dX6_way_70, wp_il7 (y := zX6_way) dX6_way_71, wp_cv1 (y := zX6_way) kM6_93 (by decide) dX6_way_73, (show yo zX6_isCell = 6 from rfl), wp_if_eq (y := zX6_way) 114 (by decide) dX6_way_76, wp_al0 (y := zX6_way) dX6_way_79, wp_getf (y := zX6_way) kF6_31 dX6_way_80, wp_il7 (y := zX6_way) dX6_way_83, wp_iald (y := zX6_way) dX6_way_85, wp_al0 (y := zX6_way) dX6_way_86, wp_getf (y := zX6_way) kF6_31 dX6_way_87, wp_il4 (y := zX6_way) dX6_way_90, wp_iald (y := zX6_way) dX6_way_92, wp_iconst (y := zX6_way) (nI 1) ki_1 dX6_way_93, wp_isub (y := zX6_way) dX6_way_94, wp_icmp_ne (y := zX6_way) 114 (by decide) dX6_way_95, wp_al0 (y := zX6_way) dX6_way_98, wp_il4 (y := zX6_way) dX6_way_99, wp_il7 (y := zX6_way) dX6_way_101, wp_cv2 (y := zX6_way) kM6_237 (by decide) dX6_way_103, (show yo zX6_areBeside = 6 from rfl), wp_if_eq (y := zX6_way) 114 (by decide) dX6_way_106, wp_il7 (y := zX6_way) dX6_way_109, wp_goto (y := zX6_way) 116 (by decide) dX6_way_111, wp_is6 (y := zX6_way) dX6_way_116, wp_inc7 (y := zX6_way) ((-1)) ki_m1 dX6_way_118, wp_goto (y := zX6_way) 65 (by decide) dX6_way_121, O.oc, O.g0, O.g1, O.g2, O.g3, O.g4, O.g5, O.g6, O.g7, O.g9, O.g10, O.g11, O.p0, O.p7, O.a1, O.a2, O.a3, O.a4, O.a5, O.a6, O.a7, O.a8, O.a9, E0, E3, e1, q2, q3, p']
                  rw [nI_p1]
                  exact ih
                · rw [decide_eq_false p2, if_neg (by decide)] at ih
                  rw [decide_eq_false p2, bI_f] at E3
                  simp (disch := first | omega | assumption) only [mm_op_some, true_and, and_true, mm_rc_some, mm_rc_none, pk_mul, nI_add, mm_in_t, nI_clamp, ok0, ok1, ok2, ok3, ok4, n1_0, n0_0, nI_le_, nI_lt_, if_true, if_false, not_true, not_false_eq_true, ce_lt, ce_cl, hf_lt, hf_cl, n0_zz, n1_zz, wp_if_lt (y := zX6_way) 124 (by decide) dX6_way_67, wp_al0 (y := zX6_way) dX6_way_70, wp_il7 (y := zX6_way) dX6_way_71, wp_cv1 (y := zX6_way) kM6_93 (by decide) dX6_way_73, (show yo zX6_isCell = 6 from rfl), wp_if_eq (y := zX6_way) 114 (by decide) dX6_way_76, wp_al0 (y := zX6_way) dX6_way_79, wp_getf (y := zX6_way) kF6_31 dX6_way_80, wp_il7 (y := zX6_way) dX6_way_83, wp_iald (y := zX6_way) dX6_way_85, wp_al0 (y := zX6_way) dX6_way_86, wp_getf (y := zX6_way) kF6_31 dX6_way_87, wp_il4 (y := zX6_way) dX6_way_90, wp_iald (y := zX6_way) dX6_way_92, wp_iconst (y := zX6_way) (nI 1) ki_1 dX6_way_93, wp_isub (y := zX6_way) dX6_way_94, wp_icmp_ne (y := zX6_way) 114 (by decide) dX6_way_95, wp_al0 (y := zX6_way) dX6_way_98, wp_il4 (y := zX6_way) dX6_way_99, wp_il7 (y := zX6_way) dX6_way_101, wp_cv2 (y := zX6_way) kM6_237 (by decide) dX6_way_103, (show yo zX6_areBeside = 6 from rfl), wp_if_eq (y := zX6_way) 114 (by decide) dX6_way_106, wp_il6 (y := zX6_way) dX6_way_114, wp_is6 (y := zX6_way) dX6_way_116, wp_inc7 (y := zX6_way) ((-1)) ki_m1 dX6_way_118, wp_goto (y := zX6_way) 65 (by decide) dX6_way_121, O.oc, O.g0, O.g1, O.g2, O.g3, O.g4, O.g5, O.g6, O.g7, O.g9, O.g10, O.g11, O.p0, O.p7, O.a1, O.a2, O.a3, O.a4, O.a5, O.a6, O.a7, O.a8, O.a9, E0, E3, e1, q2, q3, p']
                  rw [nI_p1]
                  exact ih
              · have p' := eq_false p
                rw [decide_eq_false p, Bool.false_and, if_neg (by decide)] at ih
                simp (disch := first | omega | assumption) only [mm_op_some, true_and, and_true, mm_rc_some, mm_rc_none, pk_mul, nI_add, mm_in_t, nI_clamp, ok0, ok1, ok2, ok3, ok4, n1_0, n0_0, nI_le_, nI_lt_, if_true, if_false, not_true, not_false_eq_true, ce_lt, ce_cl, hf_lt, hf_cl, n0_zz, n1_zz, wp_if_lt (y := zX6_way) 124 (by decide) dX6_way_67, wp_al0 (y := zX6_way) dX6_way_70, wp_il7 (y := zX6_way) dX6_way_71, wp_cv1 (y := zX6_way) kM6_93 (by decide) dX6_way_73, (show yo zX6_isCell = 6 from rfl), wp_if_eq (y := zX6_way) 114 (by decide) dX6_way_76, wp_al0 (y := zX6_way) dX6_way_79, wp_getf (y := zX6_way) kF6_31 dX6_way_80, wp_il7 (y := zX6_way) dX6_way_83, wp_iald (y := zX6_way) dX6_way_85, wp_al0 (y := zX6_way) dX6_way_86, wp_getf (y := zX6_way) kF6_31 dX6_way_87, wp_il4 (y := zX6_way) dX6_way_90, wp_iald (y := zX6_way) dX6_way_92, wp_iconst (y := zX6_way) (nI 1) ki_1 dX6_way_93, wp_isub (y := zX6_way) dX6_way_94, wp_icmp_ne (y := zX6_way) 114 (by decide) dX6_way_95, wp_il6 (y := zX6_way) dX6_way_114, wp_is6 (y := zX6_way) dX6_way_116, wp_inc7 (y := zX6_way) ((-1)) ki_m1 dX6_way_118, wp_goto (y := zX6_way) 65 (by decide) dX6_way_121, O.oc, O.g0, O.g1, O.g2, O.g3, O.g4, O.g5, O.g6, O.g7, O.g9, O.g10, O.g11, O.p0, O.p7, O.a1, O.a2, O.a3, O.a4, O.a5, O.a6, O.a7, O.a8, O.a9, E0, e1, q2, q3, p']
                rw [nI_p1]
                exact ih
            · have E0 : ∀ Q', cl sh zX6_isCell [.ref m, .int (nI j)] μ1 Q' = Q' (some (.int (nI 0))) μ1 := fun Q' => m_isCell0 O A1 J.sdb hj' hl
              rw [decide_eq_false hl, Bool.false_and, if_neg (by decide)] at ih
              simp (disch := first | omega | assumption) only [mm_op_some, true_and, and_true, mm_rc_some, mm_rc_none, pk_mul, nI_add, mm_in_t, nI_clamp, ok0, ok1, ok2, ok3, ok4, n1_0, n0_0, nI_le_, nI_lt_, if_true, if_false, not_true, not_false_eq_true, ce_lt, ce_cl, hf_lt, hf_cl, n0_zz, n1_zz, wp_if_lt (y := zX6_way) 124 (by decide) dX6_way_67, wp_al0 (y := zX6_way) dX6_way_70, wp_il7 (y := zX6_way) dX6_way_71, wp_cv1 (y := zX6_way) kM6_93 (by decide) dX6_way_73, (show yo zX6_isCell = 6 from rfl), wp_if_eq (y := zX6_way) 114 (by decide) dX6_way_76, wp_il6 (y := zX6_way) dX6_way_114, wp_is6 (y := zX6_way) dX6_way_116, wp_inc7 (y := zX6_way) ((-1)) ki_m1 dX6_way_118, wp_goto (y := zX6_way) 65 (by decide) dX6_way_121, O.oc, O.g0, O.g1, O.g2, O.g3, O.g4, O.g5, O.g6, O.g7, O.g9, O.g10, O.g11, O.p0, O.p7, O.a1, O.a2, O.a3, O.a4, O.a5, O.a6, O.a7, O.a8, O.a9, E0, e1]
              rw [nI_p1]
              exact ih
        have out : ∀ d k v6 v7, k + d = n → f (cmN s.1 f k 0 a) = some (e0 - k) → wp sh zX6_way 52 [.ref m, .int (nI a.val), .int (nI b.val), .int (nI n), .int (nI (cmN s.1 f k 0 a).val), .int (nI k), v6, v7] [] μ1 QQ := by
          intro d
          induction d with
          | zero =>
            intro k v6 v7 hk hf
            have e : k = n := by omega
            subst e
            rw [wp_il5 (y := zX6_way) dX6_way_52]
            simp (disch := first | omega | assumption) only [mm_op_some, true_and, and_true, mm_rc_some, mm_rc_none, pk_mul, nI_add, mm_in_t, nI_clamp, ok0, ok1, ok2, ok3, ok4, n1_0, n0_0, nI_le_, nI_lt_, if_true, if_false, not_true, not_false_eq_true, ce_lt, ce_cl, hf_lt, hf_cl, wp_il3 (y := zX6_way) dX6_way_54, wp_icmp_ge (y := zX6_way) 134 (by decide) dX6_way_55, wp_il4 (y := zX6_way) dX6_way_134, wp_ireti (y := zX6_way) rfl dX6_way_136, Nat.le_refl]
            rw [hv]
            exact fin _ F1
          | succ d ih =>
            intro k v6 v7 hk hf
            have h9 : (n ≤ k) = False := eq_false (by omega)
            obtain ⟨n1, n2⟩ := J.nearer D (e := e0 - (k + 1)) (by omega) bf (show f (cmN s.1 f k 0 a) = some (e0 - (k + 1) + 1) by rw [hf]; congr 1; omega)
            have sN : cmN s.1 f (k + 1) 0 a = lnN s.1 f (cmN s.1 f k 0 a) := it_last0 _ _ _
            have ih := ih (k + 1) (.int (nI (cmN s.1 f (k + 1) 0 a).val)) (.int (-1)) (by omega) (by rw [sN]; exact n2)
            rw [sN] at ih
            have i0 := inn k (cmN s.1 f k 0 a) _ hf 48 (Nat.le_refl _)
            rw [n1] at i0
            rw [wp_il5 (y := zX6_way) dX6_way_52]
            simp (disch := first | omega | assumption) only [mm_op_some, true_and, and_true, mm_rc_some, mm_rc_none, pk_mul, nI_add, mm_in_t, nI_clamp, ok0, ok1, ok2, ok3, ok4, n1_0, n0_0, nI_le_, nI_lt_, if_true, if_false, not_true, not_false_eq_true, ce_lt, ce_cl, hf_lt, hf_cl, wp_il3 (y := zX6_way) dX6_way_54, wp_icmp_ge (y := zX6_way) 134 (by decide) dX6_way_55, wp_iconst (y := zX6_way) ((-1)) ki_m1 dX6_way_58, wp_is6 (y := zX6_way) dX6_way_59, wp_bipush (y := zX6_way) (nI 47) kb_47 dX6_way_61, wp_is7 (y := zX6_way) dX6_way_63, h9]
            refine Eq.mpr i0 ?_
            simp (disch := first | omega | assumption) only [mm_op_some, true_and, and_true, mm_rc_some, mm_rc_none, pk_mul, nI_add, mm_in_t, nI_clamp, ok0, ok1, ok2, ok3, ok4, n1_0, n0_0, nI_le_, nI_lt_, if_true, if_false, not_true, not_false_eq_true, ce_lt, ce_cl, hf_lt, hf_cl, wp_il6 (y := zX6_way) dX6_way_124, wp_is4 (y := zX6_way) dX6_way_126, wp_inc5 (y := zX6_way) (nI 1) ki_1 dX6_way_128, wp_goto (y := zX6_way) 52 (by decide) dX6_way_131]
            exact ih
        simp (disch := first | omega | assumption) only [mm_op_some, true_and, and_true, mm_rc_some, mm_rc_none, pk_mul, nI_add, mm_in_t, nI_clamp, ok0, ok1, ok2, ok3, ok4, n1_0, n0_0, nI_le_, nI_lt_, if_true, if_false, not_true, not_false_eq_true, ce_lt, ce_cl, hf_lt, hf_cl, n0_zz, n1_zz, wp_il3 (y := zX6_way) dX6_way_28, wp_i2l (y := zX6_way) dX6_way_29, wp_lconst (y := zX6_way) (0) kl_0 dX6_way_30, wp_al0 (y := zX6_way) dX6_way_31, wp_getf (y := zX6_way) kF6_31 dX6_way_32, wp_il1 (y := zX6_way) dX6_way_35, wp_iald (y := zX6_way) dX6_way_36, wp_i2l (y := zX6_way) dX6_way_37, wp_in (y := zX6_way) rfl kP6_48 (by decide) dX6_way_38, wp_if_ne (y := zX6_way) 46 (by decide) dX6_way_41, wp_il1 (y := zX6_way) dX6_way_46, wp_is4 (y := zX6_way) dX6_way_47, wp_iconst (y := zX6_way) (nI 0) ki_0 dX6_way_49, wp_is5 (y := zX6_way) dX6_way_50, O.oc, O.g0, O.g1, O.g2, O.g3, O.g4, O.g5, O.g6, O.g7, O.g9, O.g10, O.g11, O.p0, O.p7, O.a1, O.a2, O.a3, O.a4, O.a5, O.a6, O.a7, O.a8, O.a9, q1, ei]
        exact out n 0 _ _ (by omega) he0
end MWY
