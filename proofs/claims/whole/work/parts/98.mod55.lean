section MPC
variable {sh : mm_Sh} {m : Nat} {M : Ms} {μ : mm_U} {s : Fo} {Q : Option Value → mm_U → Prop} {n : Int32}
/-- the numbers together -/
def suP (p : Ce → Option Nat) : Nat := sm 48 (fun i => (p (cI i)).getD 0)
theorem suP_lt {p : Ce → Option Nat} {v : Ce} {a b : Nat} (h : p v = some b) (lt : a < b) : suP (fu p v (some a)) < suP p := by
  unfold suP
  have e := sm_upd (f := fun i => (fu p v (some a) (cI i)).getD 0) (g := fun i => (p (cI i)).getD 0) (i := v.val) 48 v.isLt (fun j hj ne => by
    show (fu p v (some a) (cI j)).getD 0 = (p (cI j)).getD 0
    rw [fu_n _ _ (fun q => ne (by rw [← q, cI_lt hj]))])
  have e1 : (fu p v (some a) (cI v.val)).getD 0 = a := by rw [cI_val, fu_s]; rfl
  have e2 : (p (cI v.val)).getD 0 = b := by rw [cI_val, h]; rfl
  have e : sm 48 (fun i => (fu p v (some a) (cI i)).getD 0) + (p (cI v.val)).getD 0 = sm 48 (fun i => (p (cI i)).getD 0) + (fu p v (some a) (cI v.val)).getD 0 := e
  omega
/-- numbers on their way down -/
def PcI (M : Ms) (n : Int32) (p : Ce → Option Nat) : Prop := (∀ c, p c ≠ none ↔ gdC M n c) ∧ (∀ c l, p c = some l → l ≤ c.val ∧ Cn M n (cI l) c ∧ gdC M n (cI l))
theorem PcI.bd {p : Ce → Option Nat} (P : PcI M n p) (c : Ce) (l : Nat) (h : p c = some l) : l < 2 ^ 31 := by
  have := (P.2 c l h).1
  have := c.isLt
  omega
theorem m_layPieces (O : MoSh sh m) (A : MeR M (μ (m + 1))) (J : Inv M) (n : Int32) : cl sh zX6_layPieces [.ref m, .int n] μ (fun r μ' => r = none ∧ FrA μ μ' (m + 9) ∧ ∃ p, PcO M n p ∧ ∀ v : Ce, μ' (m + 9) v.val = fo (p v)) := by
  show wp sh zX6_layPieces 0 [.ref m, .int n, .null, .null] [] μ _
  have fin : ∀ (p : Ce → Option Nat) (μ' : mm_U), FrA μ μ' (m + 9) → PcO M n p → (∀ v : Ce, μ' (m + 9) v.val = fo (p v)) → (fun (r : Option Value) (μ' : mm_U) => r = none ∧ FrA μ μ' (m + 9) ∧ ∃ p, PcO M n p ∧ ∀ v : Ce, μ' (m + 9) v.val = fo (p v)) none μ' := fun p μ' h1 h2 h3 => ⟨rfl, h1, p, h2, h3⟩
  generalize (fun (r : Option Value) (μ' : mm_U) => r = none ∧ FrA μ μ' (m + 9) ∧ ∃ p, PcO M n p ∧ ∀ v : Ce, μ' (m + 9) v.val = fo (p v)) = QQ at fin ⊢
  have outer : ∀ x (p : Ce → Option Nat) (μ1 : mm_U) (v3 : Value), suP p < x → PcI M n p → FrA μ μ1 (m + 9) → (∀ v : Ce, μ1 (m + 9) v.val = fo (p v)) → wp sh zX6_layPieces 44 [.ref m, .int n, .int (nI 1), v3] [] μ1 QQ := by
    intro x
    induction x with
    | zero => intro p μ1 v3 hn; exact absurd hn (Nat.not_lt_zero _)
    | succ x ih =>
      intro p μ1 v3 hx P F1 r1
      have inner : ∀ k i (p' : Ce → Option Nat) (mo : Nat) (μ2 : mm_U), i + k = 288 → PcI M n p' → FrA μ μ2 (m + 9) → (∀ v : Ce, μ2 (m + 9) v.val = fo (p' v)) → ((mo = 0 ∧ p' = p ∧ ∀ h : Hf, h.val < i → LvH M h → ∀ a b, p (ow M h) = some a → p (ow M (tw h)) = some b → b ≤ a) ∨ (mo = 1 ∧ suP p' < suP p)) → wp sh zX6_layPieces 52 [.ref m, .int n, .int (nI mo), .int (nI i)] [] μ2 QQ := by
        intro k
        induction k with
        | zero =>
          intro i p' mo μ2 hi P2 F2 r2 hm
          have e : i = 288 := by omega
          subst e
          rw [wp_il3 (y := zX6_layPieces) dX6_layPieces_52]
          rcases hm with ⟨rfl, rfl, st⟩ | ⟨rfl, lt⟩
          · simp (disch := first | omega | assumption) only [mm_op_some, true_and, and_true, mm_rc_some, mm_rc_none, pk_mul, nI_add, mm_in_t, nI_clamp, ok0, ok1, ok2, ok3, ok4, n1_0, n0_0, nI_le_, nI_lt_, if_true, if_false, not_true, not_false_eq_true, ce_lt, ce_cl, hf_lt, hf_cl, n0_zz, n1_zz, wp_sipush (y := zX6_layPieces) (nI 288) ks_288 dX6_layPieces_53, wp_icmp_ge (y := zX6_layPieces) 134 (by decide) dX6_layPieces_56, wp_goto (y := zX6_layPieces) 44 (by decide) dX6_layPieces_134, wp_il2 (y := zX6_layPieces) dX6_layPieces_44, wp_if_eq (y := zX6_layPieces) 137 (by decide) dX6_layPieces_45, wp_vret (y := zX6_layPieces) rfl dX6_layPieces_137, O.oc, O.g0, O.g1, O.g2, O.g3, O.g4, O.g5, O.g6, O.g7, O.g9, O.g10, O.g11, O.p0, O.p7, O.a1, O.a2, O.a3, O.a4, O.a5, O.a6, O.a7, O.a8, O.a9, Nat.le_refl]
            refine fin _ _ F2 ⟨P2.1, P2.2, fun u v g hu => ?_⟩ r2
            have hv := J.grgd g
            obtain ⟨h, lh, ou, ov, _⟩ := g
            cases qu : p' u with
            | none => exact absurd qu ((P2.1 u).mpr hu)
            | some a =>
              cases qv : p' v with
              | none => exact absurd qv ((P2.1 v).mpr hv)
              | some b =>
                have s1 := st h h.isLt lh a b (by rw [ou]; exact qu) (by rw [ov]; exact qv)
                have s2 := st (tw h) (tw h).isLt (LvH_tw.mpr lh) b a (by rw [ov]; exact qv) (by rw [tw_tw, ou]; exact qu)
                rw [show a = b by omega]
          · simp (disch := first | omega | assumption) only [mm_op_some, true_and, and_true, mm_rc_some, mm_rc_none, pk_mul, nI_add, mm_in_t, nI_clamp, ok0, ok1, ok2, ok3, ok4, n1_0, n0_0, nI_le_, nI_lt_, if_true, if_false, not_true, not_false_eq_true, ce_lt, ce_cl, hf_lt, hf_cl, n0_zz, n1_zz, wp_sipush (y := zX6_layPieces) (nI 288) ks_288 dX6_layPieces_53, wp_icmp_ge (y := zX6_layPieces) 134 (by decide) dX6_layPieces_56, wp_goto (y := zX6_layPieces) 44 (by decide) dX6_layPieces_134, O.oc, O.g0, O.g1, O.g2, O.g3, O.g4, O.g5, O.g6, O.g7, O.g9, O.g10, O.g11, O.p0, O.p7, O.a1, O.a2, O.a3, O.a4, O.a5, O.a6, O.a7, O.a8, O.a9, Nat.le_refl]
            exact ih p' μ2 _ (by omega) P2 F2 r2
        | succ k ihk =>
          intro i p' mo μ2 hi P2 F2 r2 hm
          have hi' : i < 288 := by omega
          have h9 : (288 ≤ i) = False := eq_false (by omega)
          have dv := nI_div2 hi'
          have k2 : ¬ nI 2 = 0 := by decide
          have A2 : MeR M (μ2 (m + 1)) := by rw [F2 (m + 1) (by omega)]; exact A
          have iv := hI_lt hi'
          have wv : (wl (hI i)).val = i / 2 := by rw [wl_val, iv]
          have keep : (LvH M (hI i) → ∀ a b, p' (ow M (hI i)) = some a → p' (ow M (tw (hI i))) = some b → b ≤ a) → wp sh zX6_layPieces 52 [.ref m, .int n, .int (nI mo), .int (nI (i + 1))] [] μ2 QQ := fun sq => by
            refine ihk (i + 1) p' mo μ2 (by omega) P2 F2 r2 ?_
            rcases hm with ⟨e1, e2, st⟩ | q
            · refine Or.inl ⟨e1, e2, fun h hh lh a b qa qb => ?_⟩
              by_cases z : h = hI i
              · rw [z] at lh qa qb
                rw [e2] at sq
                exact sq lh a b qa qb
              · exact st h (by
                  have : h.val ≠ i := fun q => z (by rw [← q, hI_val])
                  omega) lh a b qa qb
            · exact Or.inr q
          rw [wp_il3 (y := zX6_layPieces) dX6_layPieces_52]
          by_cases hl : lv M (wl (hI i)) = true
          · have E0 : ∀ Q', cl sh zX6_isWall [.ref m, .int (nI (i / 2))] μ2 Q' = Q' (some (.int (nI 1))) μ2 := fun Q' => by
              rw [← wv]
              exact m_isWallS O A2 J.lnb hl
            have E1 : ∀ Q', cl sh zX6_cellOf [.ref m, .int (nI i)] μ2 Q' = Q' (some (.int (nI (ow M (hI i)).val))) μ2 := fun Q' => by
              have := m_cellOf (Q := Q') O A2 (hI i) hl
              rw [iv] at this
              exact this
            have E2 : ∀ Q', cl sh zX6_over [.ref m, .int (nI i)] μ2 Q' = Q' (some (.int (nI (ow M (tw (hI i))).val))) μ2 := fun Q' => by
              have := m_over (Q := Q') O A2 (hI i) hl
              rw [iv] at this
              exact this
            have q1 := r2 (ow M (hI i))
            have q2 := r2 (ow M (tw (hI i)))
            cases pa : p' (ow M (hI i)) with
            | none =>
              rw [pa] at q1
              have q1 : μ2 (m + 9) (ow M (hI i)).val = -1 := q1
              have t1 : ((-1 : Int32) = -1) = True := eq_true rfl
              simp (disch := first | omega | assumption) only [mm_op_some, true_and, and_true, mm_rc_some, mm_rc_none, pk_mul, nI_add, mm_in_t, nI_clamp, ok0, ok1, ok2, ok3, ok4, n1_0, n0_0, nI_le_, nI_lt_, if_true, if_false, not_true, not_false_eq_true, ce_lt, ce_cl, hf_lt, hf_cl, n0_zz, n1_zz, wp_sipush (y := zX6_layPieces) (nI 288) ks_288 dX6_layPieces_53, wp_icmp_ge (y := zX6_layPieces) 134 (by decide) dX6_layPieces_56, wp_al0 (y := zX6_layPieces) dX6_layPieces_59, wp_il3 (y := zX6_layPieces) dX6_layPieces_60, wp_iconst (y := zX6_layPieces) (nI 2) ki_2 dX6_layPieces_61, wp_idiv' (y := zX6_layPieces) dX6_layPieces_62, wp_cv1 (y := zX6_layPieces) kM6_80 (by decide) dX6_layPieces_63, (show yo zX6_isWall = 6 from rfl), wp_if_eq (y := zX6_layPieces) 128 (by decide) dX6_layPieces_66, wp_al0 (y := zX6_layPieces) dX6_layPieces_69, wp_getf (y := zX6_layPieces) kF6_37 dX6_layPieces_70, wp_al0 (y := zX6_layPieces) dX6_layPieces_73, wp_il3 (y := zX6_layPieces) dX6_layPieces_74, wp_cv1 (y := zX6_layPieces) kM6_84 (by decide) dX6_layPieces_75, (show yo zX6_cellOf = 6 from rfl), wp_iald (y := zX6_layPieces) dX6_layPieces_78, wp_iconst (y := zX6_layPieces) ((-1)) ki_m1 dX6_layPieces_79, wp_icmp_eq (y := zX6_layPieces) 128 (by decide) dX6_layPieces_80, wp_inc3 (y := zX6_layPieces) (nI 1) ki_1 dX6_layPieces_128, wp_goto (y := zX6_layPieces) 52 (by decide) dX6_layPieces_131, O.oc, O.g0, O.g1, O.g2, O.g3, O.g4, O.g5, O.g6, O.g7, O.g9, O.g10, O.g11, O.p0, O.p7, O.a1, O.a2, O.a3, O.a4, O.a5, O.a6, O.a7, O.a8, O.a9, E0, E1, E2, h9, k2, dv, q1, t1]
              exact keep (fun _ a b qa => by rw [pa] at qa; cases qa)
            | some a =>
              rw [pa] at q1
              have q1 : μ2 (m + 9) (ow M (hI i)).val = nI a := q1
              have ab := P2.bd _ a pa
              have t1 : (nI a = (-1 : Int32)) = False := nI_m1 ab
              cases pb : p' (ow M (tw (hI i))) with
              | none =>
                rw [pb] at q2
                have q2 : μ2 (m + 9) (ow M (tw (hI i))).val = -1 := q2
                have t2 : ((-1 : Int32) ≤ nI a) = True := eq_true (by rw [Int32.le_iff_toInt_le, nI_toInt ab, show (-1 : Int32).toInt = -1 by decide]; omega)
                simp (disch := first | omega | assumption) only [mm_op_some, true_and, and_true, mm_rc_some, mm_rc_none, pk_mul, nI_add, mm_in_t, nI_clamp, ok0, ok1, ok2, ok3, ok4, n1_0, n0_0, nI_le_, nI_lt_, if_true, if_false, not_true, not_false_eq_true, ce_lt, ce_cl, hf_lt, hf_cl, n0_zz, n1_zz, wp_sipush (y := zX6_layPieces) (nI 288) ks_288 dX6_layPieces_53, wp_icmp_ge (y := zX6_layPieces) 134 (by decide) dX6_layPieces_56, wp_al0 (y := zX6_layPieces) dX6_layPieces_59, wp_il3 (y := zX6_layPieces) dX6_layPieces_60, wp_iconst (y := zX6_layPieces) (nI 2) ki_2 dX6_layPieces_61, wp_idiv' (y := zX6_layPieces) dX6_layPieces_62, wp_cv1 (y := zX6_layPieces) kM6_80 (by decide) dX6_layPieces_63, (show yo zX6_isWall = 6 from rfl), wp_if_eq (y := zX6_layPieces) 128 (by decide) dX6_layPieces_66, wp_al0 (y := zX6_layPieces) dX6_layPieces_69, wp_getf (y := zX6_layPieces) kF6_37 dX6_layPieces_70, wp_al0 (y := zX6_layPieces) dX6_layPieces_73, wp_il3 (y := zX6_layPieces) dX6_layPieces_74, wp_cv1 (y := zX6_layPieces) kM6_84 (by decide) dX6_layPieces_75, (show yo zX6_cellOf = 6 from rfl), wp_iald (y := zX6_layPieces) dX6_layPieces_78, wp_iconst (y := zX6_layPieces) ((-1)) ki_m1 dX6_layPieces_79, wp_icmp_eq (y := zX6_layPieces) 128 (by decide) dX6_layPieces_80, wp_al0 (y := zX6_layPieces) dX6_layPieces_83, wp_getf (y := zX6_layPieces) kF6_37 dX6_layPieces_84, wp_al0 (y := zX6_layPieces) dX6_layPieces_87, wp_il3 (y := zX6_layPieces) dX6_layPieces_88, wp_cv1 (y := zX6_layPieces) kM6_105 (by decide) dX6_layPieces_89, (show yo zX6_over = 6 from rfl), wp_iald (y := zX6_layPieces) dX6_layPieces_92, wp_al0 (y := zX6_layPieces) dX6_layPieces_93, wp_getf (y := zX6_layPieces) kF6_37 dX6_layPieces_94, wp_al0 (y := zX6_layPieces) dX6_layPieces_97, wp_il3 (y := zX6_layPieces) dX6_layPieces_98, wp_cv1 (y := zX6_layPieces) kM6_84 (by decide) dX6_layPieces_99, (show yo zX6_cellOf = 6 from rfl), wp_iald (y := zX6_layPieces) dX6_layPieces_102, wp_icmp_le (y := zX6_layPieces) 128 (by decide) dX6_layPieces_103, wp_inc3 (y := zX6_layPieces) (nI 1) ki_1 dX6_layPieces_128, wp_goto (y := zX6_layPieces) 52 (by decide) dX6_layPieces_131, O.oc, O.g0, O.g1, O.g2, O.g3, O.g4, O.g5, O.g6, O.g7, O.g9, O.g10, O.g11, O.p0, O.p7, O.a1, O.a2, O.a3, O.a4, O.a5, O.a6, O.a7, O.a8, O.a9, E0, E1, E2, h9, k2, dv, q1, q2, t1, t2]
                exact keep (fun _ a b qa qb => by rw [pb] at qb; cases qb)
              | some b =>
                rw [pb] at q2
                have q2 : μ2 (m + 9) (ow M (tw (hI i))).val = nI b := q2
                have bb := P2.bd _ b pb
                by_cases lt : b ≤ a
                · have t2 : (b ≤ a) = True := eq_true lt
                  simp (disch := first | omega | assumption) only [mm_op_some, true_and, and_true, mm_rc_some, mm_rc_none, pk_mul, nI_add, mm_in_t, nI_clamp, ok0, ok1, ok2, ok3, ok4, n1_0, n0_0, nI_le_, nI_lt_, if_true, if_false, not_true, not_false_eq_true, ce_lt, ce_cl, hf_lt, hf_cl, n0_zz, n1_zz, wp_sipush (y := zX6_layPieces) (nI 288) ks_288 dX6_layPieces_53, wp_icmp_ge (y := zX6_layPieces) 134 (by decide) dX6_layPieces_56, wp_al0 (y := zX6_layPieces) dX6_layPieces_59, wp_il3 (y := zX6_layPieces) dX6_layPieces_60, wp_iconst (y := zX6_layPieces) (nI 2) ki_2 dX6_layPieces_61, wp_idiv' (y := zX6_layPieces) dX6_layPieces_62, wp_cv1 (y := zX6_layPieces) kM6_80 (by decide) dX6_layPieces_63, (show yo zX6_isWall = 6 from rfl), wp_if_eq (y := zX6_layPieces) 128 (by decide) dX6_layPieces_66, wp_al0 (y := zX6_layPieces) dX6_layPieces_69, wp_getf (y := zX6_layPieces) kF6_37 dX6_layPieces_70, wp_al0 (y := zX6_layPieces) dX6_layPieces_73, wp_il3 (y := zX6_layPieces) dX6_layPieces_74, wp_cv1 (y := zX6_layPieces) kM6_84 (by decide) dX6_layPieces_75, (show yo zX6_cellOf = 6 from rfl), wp_iald (y := zX6_layPieces) dX6_layPieces_78, wp_iconst (y := zX6_layPieces) ((-1)) ki_m1 dX6_layPieces_79, wp_icmp_eq (y := zX6_layPieces) 128 (by decide) dX6_layPieces_80, wp_al0 (y := zX6_layPieces) dX6_layPieces_83, wp_getf (y := zX6_layPieces) kF6_37 dX6_layPieces_84, wp_al0 (y := zX6_layPieces) dX6_layPieces_87, wp_il3 (y := zX6_layPieces) dX6_layPieces_88, wp_cv1 (y := zX6_layPieces) kM6_105 (by decide) dX6_layPieces_89, (show yo zX6_over = 6 from rfl), wp_iald (y := zX6_layPieces) dX6_layPieces_92, wp_al0 (y := zX6_layPieces) dX6_layPieces_93, wp_getf (y := zX6_layPieces) kF6_37 dX6_layPieces_94, wp_al0 (y := zX6_layPieces) dX6_layPieces_97, wp_il3 (y := zX6_layPieces) dX6_layPieces_98, wp_cv1 (y := zX6_layPieces) kM6_84 (by decide) dX6_layPieces_99, (show yo zX6_cellOf = 6 from rfl), wp_iald (y := zX6_layPieces) dX6_layPieces_102, wp_icmp_le (y := zX6_layPieces) 128 (by decide) dX6_layPieces_103, wp_inc3 (y := zX6_layPieces) (nI 1) ki_1 dX6_layPieces_128, wp_goto (y := zX6_layPieces) 52 (by decide) dX6_layPieces_131, O.oc, O.g0, O.g1, O.g2, O.g3, O.g4, O.g5, O.g6, O.g7, O.g9, O.g10, O.g11, O.p0, O.p7, O.a1, O.a2, O.a3, O.a4, O.a5, O.a6, O.a7, O.a8, O.a9, E0, E1, E2, h9, k2, dv, q1, q2, t1, t2]
                  exact keep (fun _ a' b' qa qb => by
                    rw [pa] at qa
                    rw [pb] at qb
                    cases qa
                    cases qb
                    exact lt)
                · have t2 : (b ≤ a) = False := eq_false lt
                  simp (disch := first | omega | assumption) only [mm_op_some, true_and, and_true, mm_rc_some, mm_rc_none, pk_mul, nI_add, mm_in_t, nI_clamp, ok0, ok1, ok2, ok3, ok4, n1_0, n0_0, nI_le_, nI_lt_, if_true, if_false, not_true, not_false_eq_true, ce_lt, ce_cl, hf_lt, hf_cl, n0_zz, n1_zz, wp_sipush (y := zX6_layPieces) (nI 288) ks_288 dX6_layPieces_53, wp_icmp_ge (y := zX6_layPieces) 134 (by decide) dX6_layPieces_56, wp_al0 (y := zX6_layPieces) dX6_layPieces_59, wp_il3 (y := zX6_layPieces) dX6_layPieces_60, wp_iconst (y := zX6_layPieces) (nI 2) ki_2 dX6_layPieces_61, wp_idiv' (y := zX6_layPieces) dX6_layPieces_62, wp_cv1 (y := zX6_layPieces) kM6_80 (by decide) dX6_layPieces_63, (show yo zX6_isWall = 6 from rfl), wp_if_eq (y := zX6_layPieces) 128 (by decide) dX6_layPieces_66, wp_al0 (y := zX6_layPieces) dX6_layPieces_69, wp_getf (y := zX6_layPieces) kF6_37 dX6_layPieces_70, wp_al0 (y := zX6_layPieces) dX6_layPieces_73, wp_il3 (y := zX6_layPieces) dX6_layPieces_74, wp_cv1 (y := zX6_layPieces) kM6_84 (by decide) dX6_layPieces_75, (show yo zX6_cellOf = 6 from rfl), wp_iald (y := zX6_layPieces) dX6_layPieces_78, wp_iconst (y := zX6_layPieces) ((-1)) ki_m1 dX6_layPieces_79, wp_icmp_eq (y := zX6_layPieces) 128 (by decide) dX6_layPieces_80, wp_al0 (y := zX6_layPieces) dX6_layPieces_83, wp_getf (y := zX6_layPieces) kF6_37 dX6_layPieces_84, wp_al0 (y := zX6_layPieces) dX6_layPieces_87, wp_il3 (y := zX6_layPieces) dX6_layPieces_88, wp_cv1 (y := zX6_layPieces) kM6_105 (by decide) dX6_layPieces_89, (show yo zX6_over = 6 from rfl), wp_iald (y := zX6_layPieces) dX6_layPieces_92, wp_al0 (y := zX6_layPieces) dX6_layPieces_93, wp_getf (y := zX6_layPieces) kF6_37 dX6_layPieces_94, wp_al0 (y := zX6_layPieces) dX6_layPieces_97, wp_il3 (y := zX6_layPieces) dX6_layPieces_98, wp_cv1 (y := zX6_layPieces) kM6_84 (by decide) dX6_layPieces_99, (show yo zX6_cellOf = 6 from rfl), wp_iald (y := zX6_layPieces) dX6_layPieces_102, wp_icmp_le (y := zX6_layPieces) 128 (by decide) dX6_layPieces_103, wp_al0 (y := zX6_layPieces) dX6_layPieces_106, wp_getf (y := zX6_layPieces) kF6_37 dX6_layPieces_107, wp_al0 (y := zX6_layPieces) dX6_layPieces_110, wp_il3 (y := zX6_layPieces) dX6_layPieces_111, wp_cv1 (y := zX6_layPieces) kM6_105 (by decide) dX6_layPieces_112, (show yo zX6_over = 6 from rfl), wp_al0 (y := zX6_layPieces) dX6_layPieces_115, wp_getf (y := zX6_layPieces) kF6_37 dX6_layPieces_116, wp_al0 (y := zX6_layPieces) dX6_layPieces_119, wp_il3 (y := zX6_layPieces) dX6_layPieces_120, wp_cv1 (y := zX6_layPieces) kM6_84 (by decide) dX6_layPieces_121, (show yo zX6_cellOf = 6 from rfl), wp_iald (y := zX6_layPieces) dX6_layPieces_124, wp_iast (y := zX6_layPieces) dX6_layPieces_125, wp_iconst (y := zX6_layPieces) (nI 1) ki_1 dX6_layPieces_126, wp_is2 (y := zX6_layPieces) dX6_layPieces_127, wp_inc3 (y := zX6_layPieces) (nI 1) ki_1 dX6_layPieces_128, wp_goto (y := zX6_layPieces) 52 (by decide) dX6_layPieces_131, O.oc, O.g0, O.g1, O.g2, O.g3, O.g4, O.g5, O.g6, O.g7, O.g9, O.g10, O.g11, O.p0, O.p7, O.a1, O.a2, O.a3, O.a4, O.a5, O.a6, O.a7, O.a8, O.a9, E0, E1, E2, h9, k2, dv, q1, q2, t1, t2]
                  have gv := (P2.1 (ow M (tw (hI i)))).mp (by rw [pb]; exact fun q => by cases q)
                  have g : GrM M n (ow M (hI i)) (ow M (tw (hI i))) := ⟨hI i, hl, rfl, rfl, gv.2⟩
                  refine ihk (i + 1) (fu p' (ow M (tw (hI i))) (some a)) 1 _ (by omega) ⟨fun c => ?_, fun c l q => ?_⟩ (FrA_mu F2 _) (fun v => ?_) (Or.inr ⟨rfl, ?_⟩)
                  · by_cases z : c = ow M (tw (hI i))
                    · rw [z, fu_s]
                      exact ⟨fun _ => gv, fun _ q => by cases q⟩
                    · rw [fu_n _ _ z]
                      exact P2.1 c
                  · by_cases z : c = ow M (tw (hI i))
                    · rw [z, fu_s] at q
                      cases q
                      obtain ⟨a1, a2, a3⟩ := P2.2 _ a pa
                      obtain ⟨b1, _, _⟩ := P2.2 _ b pb
                      rw [z]
                      exact ⟨by omega, a2.step g, a3⟩
                    · rw [fu_n _ _ z] at q
                      exact P2.2 c l q
                  · rw [mu_s, upd_fin]
                    unfold fu
                    split
                    · rfl
                    · exact r2 v
                  · have := suP_lt pb (show a < b by omega)
                    rcases hm with ⟨_, e2, _⟩ | ⟨_, q⟩
                    · rw [e2] at this
                      rw [e2]
                      exact this
                    · omega
          · have E0 : ∀ Q', cl sh zX6_isWall [.ref m, .int (nI (i / 2))] μ2 Q' = Q' (some (.int (nI 0))) μ2 := fun Q' => by
              rw [← wv]
              exact m_isWall0 O A2 (wl (hI i)).isLt (by rw [wI_val]; exact hl)
            simp (disch := first | omega | assumption) only [mm_op_some, true_and, and_true, mm_rc_some, mm_rc_none, pk_mul, nI_add, mm_in_t, nI_clamp, ok0, ok1, ok2, ok3, ok4, n1_0, n0_0, nI_le_, nI_lt_, if_true, if_false, not_true, not_false_eq_true, ce_lt, ce_cl, hf_lt, hf_cl, n0_zz, n1_zz, wp_sipush (y := zX6_layPieces) (nI 288) ks_288 dX6_layPieces_53, wp_icmp_ge (y := zX6_layPieces) 134 (by decide) dX6_layPieces_56, wp_al0 (y := zX6_layPieces) dX6_layPieces_59, wp_il3 (y := zX6_layPieces) dX6_layPieces_60, wp_iconst (y := zX6_layPieces) (nI 2) ki_2 dX6_layPieces_61, wp_idiv' (y := zX6_layPieces) dX6_layPieces_62, wp_cv1 (y := zX6_layPieces) kM6_80 (by decide) dX6_layPieces_63, (show yo zX6_isWall = 6 from rfl), wp_if_eq (y := zX6_layPieces) 128 (by decide) dX6_layPieces_66, wp_inc3 (y := zX6_layPieces) (nI 1) ki_1 dX6_layPieces_128, wp_goto (y := zX6_layPieces) 52 (by decide) dX6_layPieces_131, O.oc, O.g0, O.g1, O.g2, O.g3, O.g4, O.g5, O.g6, O.g7, O.g9, O.g10, O.g11, O.p0, O.p7, O.a1, O.a2, O.a3, O.a4, O.a5, O.a6, O.a7, O.a8, O.a9, E0, h9, k2, dv]
            exact keep (fun lh => absurd lh hl)
      rw [wp_il2 (y := zX6_layPieces) dX6_layPieces_44]
      simp (disch := first | omega | assumption) only [mm_op_some, true_and, and_true, mm_rc_some, mm_rc_none, pk_mul, nI_add, mm_in_t, nI_clamp, ok0, ok1, ok2, ok3, ok4, n1_0, n0_0, nI_le_, nI_lt_, if_true, if_false, not_true, not_false_eq_true, ce_lt, ce_cl, hf_lt, hf_cl, n0_zz, n1_zz, wp_if_eq (y := zX6_layPieces) 137 (by decide) dX6_layPieces_45, wp_iconst (y := zX6_layPieces) (nI 0) ki_0 dX6_layPieces_48, wp_is2 (y := zX6_layPieces) dX6_layPieces_49, wp_iconst (y := zX6_layPieces) (nI 0) ki_0 dX6_layPieces_50, wp_is3 (y := zX6_layPieces) dX6_layPieces_51, O.oc, O.g0, O.g1, O.g2, O.g3, O.g4, O.g5, O.g6, O.g7, O.g9, O.g10, O.g11, O.p0, O.p7, O.a1, O.a2, O.a3, O.a4, O.a5, O.a6, O.a7, O.a8, O.a9]
      exact inner 288 0 p 0 μ1 (by omega) P F1 r1 (Or.inl ⟨rfl, rfl, fun h hh => absurd hh (Nat.not_lt_zero _)⟩)
  have first : ∀ k i (μ1 : mm_U), i + k = 48 → FrA μ μ1 (m + 9) → (∀ v : Ce, v.val < i → μ1 (m + 9) v.val = if 0 < sd M v then (if nI (sd M v) < n then -1 else nI v.val) else -1) → wp sh zX6_layPieces 2 [.ref m, .int n, .int (nI i), .null] [] μ1 QQ := by
    intro k
    induction k with
    | zero =>
      intro i μ1 hi F1 r1
      have e : i = 48 := by omega
      subst e
      rw [wp_il2 (y := zX6_layPieces) dX6_layPieces_2]
      simp (disch := first | omega | assumption) only [mm_op_some, true_and, and_true, mm_rc_some, mm_rc_none, pk_mul, nI_add, mm_in_t, nI_clamp, ok0, ok1, ok2, ok3, ok4, n1_0, n0_0, nI_le_, nI_lt_, if_true, if_false, not_true, not_false_eq_true, ce_lt, ce_cl, hf_lt, hf_cl, n0_zz, n1_zz, wp_bipush (y := zX6_layPieces) (nI 48) kb_48 dX6_layPieces_3, wp_icmp_ge (y := zX6_layPieces) 42 (by decide) dX6_layPieces_5, wp_iconst (y := zX6_layPieces) (nI 1) ki_1 dX6_layPieces_42, wp_is2 (y := zX6_layPieces) dX6_layPieces_43, O.oc, O.g0, O.g1, O.g2, O.g3, O.g4, O.g5, O.g6, O.g7, O.g9, O.g10, O.g11, O.p0, O.p7, O.a1, O.a2, O.a3, O.a4, O.a5, O.a6, O.a7, O.a8, O.a9, Nat.le_refl]
      refine outer (suP (fun c => if 0 < sd M c then (if nI (sd M c) < n then none else some c.val) else none) + 1) (fun c => if 0 < sd M c then (if nI (sd M c) < n then none else some c.val) else none) μ1 _ (Nat.lt_succ_self _) ⟨fun c => ?_, fun c l q => ?_⟩ F1 (fun v => ?_)
      · unfold gdC
        dsimp only
        by_cases z1 : 0 < sd M c
        · by_cases z2 : nI (sd M c) < n
          · rw [if_pos z1, if_pos z2]
            exact ⟨fun q => absurd rfl q, fun q => absurd z2 q.2⟩
          · rw [if_pos z1, if_neg z2]
            exact ⟨fun _ => ⟨z1, z2⟩, fun _ q => by cases q⟩
        · rw [if_neg z1]
          exact ⟨fun q => absurd rfl q, fun q => absurd q.1 z1⟩
      · dsimp only at q
        by_cases z1 : 0 < sd M c
        · by_cases z2 : nI (sd M c) < n
          · rw [if_pos z1, if_pos z2] at q
            cases q
          · rw [if_pos z1, if_neg z2] at q
            cases q
            rw [cI_val]
            exact ⟨Nat.le_refl _, Cn.refl _, z1, z2⟩
        · rw [if_neg z1] at q
          cases q
      · rw [r1 v v.isLt]
        by_cases z1 : 0 < sd M v
        · by_cases z2 : nI (sd M v) < n
          · rw [if_pos z1, if_pos z2, if_pos z1, if_pos z2]
            rfl
          · rw [if_pos z1, if_neg z2, if_pos z1, if_neg z2]
            rfl
        · rw [if_neg z1, if_neg z1]
          rfl
    | succ k ih =>
      intro i μ1 hi F1 r1
      have hi' : i < 48 := by omega
      have h9 : (48 ≤ i) = False := eq_false (by omega)
      have iv := cI_lt hi'
      have A1 : MeR M (μ1 (m + 1)) := by rw [F1 (m + 1) (by omega)]; exact A
      have nx1 : ∀ x, x = (if 0 < sd M (cI i) then (if nI (sd M (cI i)) < n then -1 else nI i) else -1) → wp sh zX6_layPieces 2 [.ref m, .int n, .int (nI (i + 1)), .null] [] (mu μ1 (m + 9) (upd (μ1 (m + 9)) i x)) QQ := fun x hx => by
        refine ih (i + 1) _ (by omega) (FrA_mu F1 _) (fun v hv => ?_)
        rw [mu_s]
        by_cases z : v.val = i
        · rw [z, upd_s, hx, show v = cI i from Fin.ext (by rw [z, iv])]
        · rw [upd_n _ _ z]
          exact r1 v (by omega)
      rw [wp_il2 (y := zX6_layPieces) dX6_layPieces_2]
      by_cases z1 : 0 < sd M (cI i)
      · rw [if_pos z1] at nx1
        have E0 : ∀ Q', cl sh zX6_isCell [.ref m, .int (nI i)] μ1 Q' = Q' (some (.int (nI 1))) μ1 := fun Q' => m_isCell1 O A1 J.sdb hi' z1
        have E1 : ∀ Q', cl sh zX6_sidesOf [.ref m, .int (nI i)] μ1 Q' = Q' (some (.int (nI (sd M (cI i))))) μ1 := fun Q' => by
          have := m_sidesOf (Q := Q') O A1 (cI i)
          rw [iv] at this
          exact this
        by_cases z2 : nI (sd M (cI i)) < n
        · have z2' := eq_true z2
          rw [if_pos z2] at nx1
          simp (disch := first | omega | assumption) only [mm_op_some, true_and, and_true, mm_rc_some, mm_rc_none, pk_mul, nI_add, mm_in_t, nI_clamp, ok0, ok1, ok2, ok3, ok4, n1_0, n0_0, nI_le_, nI_lt_, if_true, if_false, not_true, not_false_eq_true, ce_lt, ce_cl, hf_lt, hf_cl, n0_zz, n1_zz, wp_bipush (y := zX6_layPieces) (nI 48) kb_48 dX6_layPieces_3, wp_icmp_ge (y := zX6_layPieces) 42 (by decide) dX6_layPieces_5, wp_al0 (y := zX6_layPieces) dX6_layPieces_8, wp_getf (y := zX6_layPieces) kF6_37 dX6_layPieces_9, wp_il2 (y := zX6_layPieces) dX6_layPieces_12, wp_al0 (y := zX6_layPieces) dX6_layPieces_13, wp_il2 (y := zX6_layPieces) dX6_layPieces_14, wp_cv1 (y := zX6_layPieces) kM6_93 (by decide) dX6_layPieces_15, (show yo zX6_isCell = 6 from rfl), wp_if_eq (y := zX6_layPieces) 34 (by decide) dX6_layPieces_18, wp_al0 (y := zX6_layPieces) dX6_layPieces_21, wp_il2 (y := zX6_layPieces) dX6_layPieces_22, wp_cv1 (y := zX6_layPieces) kM6_115 (by decide) dX6_layPieces_23, (show yo zX6_sidesOf = 6 from rfl), wp_il1 (y := zX6_layPieces) dX6_layPieces_26, wp_icmp_lt (y := zX6_layPieces) 34 (by decide) dX6_layPieces_27, wp_iconst (y := zX6_layPieces) ((-1)) ki_m1 dX6_layPieces_34, wp_iast (y := zX6_layPieces) dX6_layPieces_35, wp_inc2 (y := zX6_layPieces) (nI 1) ki_1 dX6_layPieces_36, wp_goto (y := zX6_layPieces) 2 (by decide) dX6_layPieces_39, O.oc, O.g0, O.g1, O.g2, O.g3, O.g4, O.g5, O.g6, O.g7, O.g9, O.g10, O.g11, O.p0, O.p7, O.a1, O.a2, O.a3, O.a4, O.a5, O.a6, O.a7, O.a8, O.a9, h9, E0, E1, z2']
          exact nx1 _ rfl
        · have z2' := eq_false z2
          rw [if_neg z2] at nx1
          simp (disch := first | omega | assumption) only [mm_op_some, true_and, and_true, mm_rc_some, mm_rc_none, pk_mul, nI_add, mm_in_t, nI_clamp, ok0, ok1, ok2, ok3, ok4, n1_0, n0_0, nI_le_, nI_lt_, if_true, if_false, not_true, not_false_eq_true, ce_lt, ce_cl, hf_lt, hf_cl, n0_zz, n1_zz, wp_bipush (y := zX6_layPieces) (nI 48) kb_48 dX6_layPieces_3, wp_icmp_ge (y := zX6_layPieces) 42 (by decide) dX6_layPieces_5, wp_al0 (y := zX6_layPieces) dX6_layPieces_8, wp_getf (y := zX6_layPieces) kF6_37 dX6_layPieces_9, wp_il2 (y := zX6_layPieces) dX6_layPieces_12, wp_al0 (y := zX6_layPieces) dX6_layPieces_13, wp_il2 (y := zX6_layPieces) dX6_layPieces_14, wp_cv1 (y := zX6_layPieces) kM6_93 (by decide) dX6_layPieces_15, (show yo zX6_isCell = 6 from rfl), wp_if_eq (y := zX6_layPieces) 34 (by decide) dX6_layPieces_18, wp_al0 (y := zX6_layPieces) dX6_layPieces_21, wp_il2 (y := zX6_layPieces) dX6_layPieces_22, wp_cv1 (y := zX6_layPieces) kM6_115 (by decide) dX6_layPieces_23, (show yo zX6_sidesOf = 6 from rfl), wp_il1 (y := zX6_layPieces) dX6_layPieces_26, wp_icmp_lt (y := zX6_layPieces) 34 (by decide) dX6_layPieces_27, wp_il2 (y := zX6_layPieces) dX6_layPieces_30, wp_goto (y := zX6_layPieces) 35 (by decide) dX6_layPieces_31, wp_iast (y := zX6_layPieces) dX6_layPieces_35, wp_inc2 (y := zX6_layPieces) (nI 1) ki_1 dX6_layPieces_36, wp_goto (y := zX6_layPieces) 2 (by decide) dX6_layPieces_39, O.oc, O.g0, O.g1, O.g2, O.g3, O.g4, O.g5, O.g6, O.g7, O.g9, O.g10, O.g11, O.p0, O.p7, O.a1, O.a2, O.a3, O.a4, O.a5, O.a6, O.a7, O.a8, O.a9, h9, E0, E1, z2']
          exact nx1 _ rfl
      · rw [if_neg z1] at nx1
        have E0 : ∀ Q', cl sh zX6_isCell [.ref m, .int (nI i)] μ1 Q' = Q' (some (.int (nI 0))) μ1 := fun Q' => m_isCell0 O A1 J.sdb hi' z1
        simp (disch := first | omega | assumption) only [mm_op_some, true_and, and_true, mm_rc_some, mm_rc_none, pk_mul, nI_add, mm_in_t, nI_clamp, ok0, ok1, ok2, ok3, ok4, n1_0, n0_0, nI_le_, nI_lt_, if_true, if_false, not_true, not_false_eq_true, ce_lt, ce_cl, hf_lt, hf_cl, n0_zz, n1_zz, wp_bipush (y := zX6_layPieces) (nI 48) kb_48 dX6_layPieces_3, wp_icmp_ge (y := zX6_layPieces) 42 (by decide) dX6_layPieces_5, wp_al0 (y := zX6_layPieces) dX6_layPieces_8, wp_getf (y := zX6_layPieces) kF6_37 dX6_layPieces_9, wp_il2 (y := zX6_layPieces) dX6_layPieces_12, wp_al0 (y := zX6_layPieces) dX6_layPieces_13, wp_il2 (y := zX6_layPieces) dX6_layPieces_14, wp_cv1 (y := zX6_layPieces) kM6_93 (by decide) dX6_layPieces_15, (show yo zX6_isCell = 6 from rfl), wp_if_eq (y := zX6_layPieces) 34 (by decide) dX6_layPieces_18, wp_iconst (y := zX6_layPieces) ((-1)) ki_m1 dX6_layPieces_34, wp_iast (y := zX6_layPieces) dX6_layPieces_35, wp_inc2 (y := zX6_layPieces) (nI 1) ki_1 dX6_layPieces_36, wp_goto (y := zX6_layPieces) 2 (by decide) dX6_layPieces_39, O.oc, O.g0, O.g1, O.g2, O.g3, O.g4, O.g5, O.g6, O.g7, O.g9, O.g10, O.g11, O.p0, O.p7, O.a1, O.a2, O.a3, O.a4, O.a5, O.a6, O.a7, O.a8, O.a9, h9, E0]
        exact nx1 _ rfl
  simp (disch := first | omega | assumption) only [mm_op_some, true_and, and_true, mm_rc_some, mm_rc_none, pk_mul, nI_add, mm_in_t, nI_clamp, ok0, ok1, ok2, ok3, ok4, n1_0, n0_0, nI_le_, nI_lt_, if_true, if_false, not_true, not_false_eq_true, ce_lt, ce_cl, hf_lt, hf_cl, wp_iconst (y := zX6_layPieces) (nI 0) ki_0 dX6_layPieces_0, wp_is2 (y := zX6_layPieces) dX6_layPieces_1]
  exact first 48 0 μ (by omega) (FrA.refl _ _) (fun v hv => absurd hv (Nat.not_lt_zero _))
end MPC
