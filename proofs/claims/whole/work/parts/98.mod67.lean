section MLY
variable {sh : mm_Sh} {m : Nat} {M : Ms} {μ : mm_U} {s : Fo} {Q : Option Value → mm_U → Prop}
/-- the row wiped up to a place -/
def lyZ (old : Nat → Int32) (i : Nat) : Nat → Int32 := fun k => if k < i ∧ ¬ (k = 2 ∨ (9 ≤ k ∧ k ≤ 15)) then nI 0 else old k
theorem lyZ_keep (old : Nat → Int32) {i : Nat} (h : i = 2 ∨ (9 ≤ i ∧ i ≤ 15)) : upd (lyZ old i) i (lyZ old i i) = lyZ old (i + 1) := by
  funext k
  by_cases z : k = i
  · subst z
    rw [upd_s]
    unfold lyZ
    rw [if_neg (by omega), if_neg (by omega)]
  · rw [upd_n _ _ z]
    unfold lyZ
    by_cases y : k < i ∧ ¬ (k = 2 ∨ (9 ≤ k ∧ k ≤ 15))
    · rw [if_pos y, if_pos (by omega)]
    · rw [if_neg y, if_neg (by omega)]
theorem lyZ_wipe (old : Nat → Int32) {i : Nat} (h : ¬ (i = 2 ∨ (9 ≤ i ∧ i ≤ 15))) : upd (lyZ old i) i (nI 0) = lyZ old (i + 1) := by
  funext k
  by_cases z : k = i
  · subst z
    rw [upd_s]
    unfold lyZ
    rw [if_pos (by omega)]
  · rw [upd_n _ _ z]
    unfold lyZ
    by_cases y : k < i ∧ ¬ (k = 2 ∨ (9 ≤ k ∧ k ≤ 15))
    · rw [if_pos y, if_pos (by omega)]
    · rw [if_neg y, if_neg (by omega)]
theorem mu_mu' (μ : mm_U) (a : Nat) (f g : Nat → Int32) : mu (mu μ a f) a g = mu μ a g := by
  funext k
  by_cases z : k = a
  · rw [z, mu_s, mu_s]
  · rw [mu_n _ _ z, mu_n _ _ z, mu_n _ _ z]
/-- lengths laid up to a wall -/
def lyL (w h : Nat) (r0 r : Nat → Int32) (i : Nat) : Prop := (∀ k, (k < 1456 ∨ 1600 ≤ k) → r k = r0 k) ∧ ∀ n, n < i → r (1456 + n) = if n < 3 * (w * h) then nI 10 else -1
theorem m_lay (O : MoSh sh m) (SX : StA μ m) {w h : Nat} (hw : 3 ≤ w) (hw6 : w ≤ 6) (hh : 3 ≤ h) (hh6 : h ≤ 6) : cl sh zX6_lay [.ref m, .int (nI w), .int (nI h)] μ (fun r μ' => r = none ∧ RO μ μ' m ∧ LyI w h (μ (m + 1)) (6 * (w * h)) (w * h) (μ' (m + 1))) := by
  have e36 := wh36 hw hw6 hh hh6
  generalize hA : w * h = A at e36
  have wh : nI w * nI h = nI A := by rw [pk_mul, hA]
  have wz : ¬ nI w = 0 := fun q => by
    have := congrArg Int32.toInt q
    rw [nI_toInt (by omega), show (0 : Int32).toInt = 0 from rfl] at this
    omega
  have hz : ¬ nI h = 0 := fun q => by
    have := congrArg Int32.toInt q
    rw [nI_toInt (by omega), show (0 : Int32).toInt = 0 from rfl] at this
    omega
  show wp sh zX6_lay 0 [.ref m, .int (nI w), .int (nI h), .null, .null, .null, .null, .null, .null, .null] [] μ _
  have fin : ∀ r, LyI w h (μ (m + 1)) (6 * (w * h)) (w * h) r → (fun (r : Option Value) (μ' : mm_U) => r = none ∧ RO μ μ' m ∧ LyI w h (μ (m + 1)) (6 * A) A (μ' (m + 1))) none (mu μ (m + 1) r) := fun r L => ⟨rfl, fun a ha => mu_n _ _ ha, by rw [mu_s, ← hA]; exact L⟩
  generalize (fun (r : Option Value) (μ' : mm_U) => r = none ∧ RO μ μ' m ∧ LyI w h (μ (m + 1)) (6 * A) A (μ' (m + 1))) = QQ at fin ⊢
  have x5 : ∀ r k, k < 6 → mu μ (m + 1) r (m + 5) k = stX k := fun r k hk => by rw [mu_n _ _ (by omega)]; exact SX.1 k hk
  have x6 : ∀ r k, k < 6 → mu μ (m + 1) r (m + 6) k = stY k := fun r k hk => by rw [mu_n _ _ (by omega)]; exact SX.2 k hk
  have EH : ∀ μ x y k tx ty Q', cl sh zX6_halfOf [.int (nI w), .int (nI h), .int x, .int y, .int k, .int tx, .int ty] μ Q' = Q' (some (.int (hfI (nI w) (nI h) x y k tx ty))) μ := fun μ x y k tx ty Q' => m_halfOf _ _ _ _ _ _ _ wz hz
  have EG : ∀ μ a b c Q', cl sh zX6_sign [.int a, .int b, .int c] μ Q' = Q' (some (.int (sgI a b c))) μ := fun μ a b c Q' => m_sign a b c
  -- cells
  have cells : ∀ d c (r : Nat → Int32) v4 v5 v6 v7 v8 v9, c + d = A → LyI w h (μ (m + 1)) (6 * c) c r → wp sh zX6_lay 106 [.ref m, .int (nI w), .int (nI h), .int (nI c), v4, v5, v6, v7, v8, v9] [] (mu μ (m + 1) r) QQ := by
    intro d
    induction d with
    | zero =>
      intro c r v4 v5 v6 v7 v8 v9 hc L
      have e : c = A := by omega
      subst e
      rw [wp_il3 (y := zX6_lay) dX6_lay_106]
      simp (disch := first | omega | assumption) only [mm_op_some, true_and, and_true, mm_rc_some, mm_rc_none, mm_in_t, nI_add, pk_mul, nI_clamp, ok0, ok1, ok2, ok3, ok4, n1_0, n0_0, nI_le_, nI_lt_, if_true, if_false, not_true, not_false_eq_true, wp_il1 (y := zX6_lay) dX6_lay_107, wp_il2 (y := zX6_lay) dX6_lay_108, wp_imul (y := zX6_lay) dX6_lay_109, wp_icmp_ge (y := zX6_lay) 317 (by decide) dX6_lay_110, wp_vret (y := zX6_lay) rfl dX6_lay_317, wh, Nat.le_refl]
      rw [← hA] at L
      exact fin r L
    | succ d ih =>
      intro c r v4 v5 v6 v7 v8 v9 hc L
      have cA : c < A := by omega
      have h9 : (A ≤ c) = False := eq_false (by omega)
      have rm : nI c - nI c / nI w * nI w = nI (c % w) := nI_rem (by omega) (by omega) (by omega)
      have dv : nI c / nI w = nI (c / w) := pk_div (by omega) (by omega) (by omega)
      have rm : nI c - nI (c / w * w) = nI (c % w) := by rw [dv, pk_mul] at rm; exact rm
      have sides : ∀ d k (r : Nat → Int32) v7 v8 v9, k + d = 6 → LyI w h (μ (m + 1)) (6 * c + k) (c + 1) r → wp sh zX6_lay 150 [.ref m, .int (nI w), .int (nI h), .int (nI c), .int (nI (c % w)), .int (nI (c / w)), .int (nI k), v7, v8, v9] [] (mu μ (m + 1) r) QQ := by
        intro d
        induction d with
        | zero =>
          intro k r v7 v8 v9 hk L
          have e : k = 6 := by omega
          subst e
          rw [wp_il6 (y := zX6_lay) dX6_lay_150]
          simp (disch := first | omega | assumption) only [mm_op_some, true_and, and_true, mm_rc_some, mm_rc_none, mm_in_t, nI_add, pk_mul, nI_clamp, ok0, ok1, ok2, ok3, ok4, n1_0, n0_0, nI_le_, nI_lt_, if_true, if_false, not_true, not_false_eq_true, wp_bipush (y := zX6_lay) (nI 6) kb_6 dX6_lay_152, wp_icmp_ge (y := zX6_lay) 311 (by decide) dX6_lay_154, wp_inc3 (y := zX6_lay) (nI 1) ki_1 dX6_lay_311, wp_goto (y := zX6_lay) 106 (by decide) dX6_lay_314, Nat.le_refl]
          exact ih (c + 1) r _ _ _ _ _ _ (by omega) L
        | succ d ihs =>
          intro k r v7 v8 v9 hk L
          have k6 : k < 6 := by omega
          have h8 : (6 ≤ k) = False := eq_false (by omega)
          have hq : 6 * c + k < 6 * (w * h) := by omega
          have q1 : (6 * c + k) / 6 = c := by omega
          have q2 : (6 * c + k) % 6 = k := by omega
          have q3 : nq (6 * c + k) = 6 * c + (k + 1) % 6 := by
            unfold nq
            rw [q1, q2]
            omega
          have k1 : (k + 1) % 6 < 6 := Nat.mod_lt _ (by omega)
          have hf1 := hf_k hw hw6 hh hh6 hq
          have hf2 := hf_k hw hw6 hh hh6 (nq_lt hq)
          have L2 := L.side hw hw6 hh hh6 hq (by omega)
          have l1 := (rG_H hw hw6 hh hh6 hq).2
          have l2 := (rG_H hw hw6 hh hh6 (nq_lt hq)).2
          have z1 : (6 * c + (k + 1) % 6) / 6 = c := by omega
          have z2 : (6 * c + (k + 1) % 6) % 6 = (k + 1) % 6 := by omega
          rw [q3, z1, z2] at hf2
          rw [q1, q2] at hf1 L2
          rw [q3] at L2 l2
          have rk : nI (k + 1) - nI ((k + 1) / 6 * 6) = nI ((k + 1) % 6) := by
            have := nI_rem (a := k + 1) (c := 6) (by omega) (by omega) (by omega)
            rw [pk_div (by omega) (by omega) (by omega), pk_mul] at this
            exact this
          have dk : nI (k + 1) / nI 6 = nI ((k + 1) / 6) := pk_div (by omega) (by omega) (by omega)
          have s6 : ¬ nI 6 = 0 := by decide
          have y1 := fun r => x5 r k k6
          have y2 := fun r => x6 r k k6
          have y3 := fun r => x5 r ((k + 1) % 6) k1
          have y4 := fun r => x6 r ((k + 1) % 6) k1
          have nxt := ihs (k + 1) _ (.int (nI (rH w h (6 * c + k)))) (.int (nI ((k + 1) % 6))) (.int (nI (rH w h (6 * c + (k + 1) % 6)))) (by omega) L2
          generalize rH w h (6 * c + k) = i at nxt hf1 l1
          generalize rH w h (6 * c + (k + 1) % 6) = j at nxt hf2 l2
          rw [wp_il6 (y := zX6_lay) dX6_lay_150]
          generalize (k + 1) % 6 = k' at *
          simp (disch := first | omega | assumption) only [mm_op_some, true_and, and_true, mm_rc_some, mm_rc_none, mm_in_t, nI_add, pk_mul, nI_clamp, ok0, ok1, ok2, ok3, ok4, n1_0, n0_0, nI_le_, nI_lt_, if_true, if_false, not_true, not_false_eq_true, wp_bipush (y := zX6_lay) (nI 6) kb_6 dX6_lay_152, wp_icmp_ge (y := zX6_lay) 311 (by decide) dX6_lay_154, wp_il1 (y := zX6_lay) dX6_lay_157, wp_il2 (y := zX6_lay) dX6_lay_158, wp_il4 (y := zX6_lay) dX6_lay_159, wp_il5 (y := zX6_lay) dX6_lay_161, wp_il6 (y := zX6_lay) dX6_lay_163, wp_al0 (y := zX6_lay) dX6_lay_165, wp_getf (y := zX6_lay) kF6_25 dX6_lay_166, wp_il6 (y := zX6_lay) dX6_lay_169, wp_iald (y := zX6_lay) dX6_lay_171, wp_al0 (y := zX6_lay) dX6_lay_172, wp_getf (y := zX6_lay) kF6_28 dX6_lay_173, wp_il6 (y := zX6_lay) dX6_lay_176, wp_iald (y := zX6_lay) dX6_lay_178, wp_cs7 (y := zX6_lay) kM6_60 (by decide) dX6_lay_179, wp_is7 (y := zX6_lay) dX6_lay_182, wp_il6 (y := zX6_lay) dX6_lay_184, wp_iconst (y := zX6_lay) (nI 1) ki_1 dX6_lay_186, wp_iadd (y := zX6_lay) dX6_lay_187, wp_bipush (y := zX6_lay) (nI 6) kb_6 dX6_lay_188, wp_irem' (y := zX6_lay) dX6_lay_190, wp_is8 (y := zX6_lay) dX6_lay_191, wp_il1 (y := zX6_lay) dX6_lay_193, wp_il2 (y := zX6_lay) dX6_lay_194, wp_il4 (y := zX6_lay) dX6_lay_195, wp_il5 (y := zX6_lay) dX6_lay_197, wp_il8 (y := zX6_lay) dX6_lay_199, wp_al0 (y := zX6_lay) dX6_lay_201, wp_getf (y := zX6_lay) kF6_25 dX6_lay_202, wp_il8 (y := zX6_lay) dX6_lay_205, wp_iald (y := zX6_lay) dX6_lay_207, wp_al0 (y := zX6_lay) dX6_lay_208, wp_getf (y := zX6_lay) kF6_28 dX6_lay_209, wp_il8 (y := zX6_lay) dX6_lay_212, wp_iald (y := zX6_lay) dX6_lay_214, wp_cs7 (y := zX6_lay) kM6_60 (by decide) dX6_lay_215, wp_is9 (y := zX6_lay) dX6_lay_218, wp_al0 (y := zX6_lay) dX6_lay_220, wp_getf (y := zX6_lay) kF6_9 dX6_lay_221, wp_bipush (y := zX6_lay) (nI 16) kb_16 dX6_lay_224, wp_il7 (y := zX6_lay) dX6_lay_226, wp_iadd (y := zX6_lay) dX6_lay_228, wp_il9 (y := zX6_lay) dX6_lay_229, wp_iast (y := zX6_lay) dX6_lay_231, wp_al0 (y := zX6_lay) dX6_lay_232, wp_getf (y := zX6_lay) kF6_9 dX6_lay_233, wp_sipush (y := zX6_lay) (nI 304) ks_304 dX6_lay_236, wp_il9 (y := zX6_lay) dX6_lay_239, wp_iadd (y := zX6_lay) dX6_lay_241, wp_il7 (y := zX6_lay) dX6_lay_242, wp_iast (y := zX6_lay) dX6_lay_244, wp_al0 (y := zX6_lay) dX6_lay_245, wp_getf (y := zX6_lay) kF6_9 dX6_lay_246, wp_sipush (y := zX6_lay) (nI 592) ks_592 dX6_lay_249, wp_il7 (y := zX6_lay) dX6_lay_252, wp_iadd (y := zX6_lay) dX6_lay_254, wp_il3 (y := zX6_lay) dX6_lay_255, wp_iast (y := zX6_lay) dX6_lay_256, wp_al0 (y := zX6_lay) dX6_lay_257, wp_getf (y := zX6_lay) kF6_9 dX6_lay_258, wp_sipush (y := zX6_lay) (nI 880) ks_880 dX6_lay_261, wp_il7 (y := zX6_lay) dX6_lay_264, wp_iadd (y := zX6_lay) dX6_lay_266, wp_al0 (y := zX6_lay) dX6_lay_267, wp_getf (y := zX6_lay) kF6_25 dX6_lay_268, wp_il6 (y := zX6_lay) dX6_lay_271, wp_iald (y := zX6_lay) dX6_lay_273, wp_il4 (y := zX6_lay) dX6_lay_274, wp_il1 (y := zX6_lay) dX6_lay_276, wp_cs3 (y := zX6_lay) kM6_64 (by decide) dX6_lay_277, wp_iast (y := zX6_lay) dX6_lay_280, wp_al0 (y := zX6_lay) dX6_lay_281, wp_getf (y := zX6_lay) kF6_9 dX6_lay_282, wp_sipush (y := zX6_lay) (nI 1168) ks_1168 dX6_lay_285, wp_il7 (y := zX6_lay) dX6_lay_288, wp_iadd (y := zX6_lay) dX6_lay_290, wp_al0 (y := zX6_lay) dX6_lay_291, wp_getf (y := zX6_lay) kF6_28 dX6_lay_292, wp_il6 (y := zX6_lay) dX6_lay_295, wp_iald (y := zX6_lay) dX6_lay_297, wp_il5 (y := zX6_lay) dX6_lay_298, wp_il2 (y := zX6_lay) dX6_lay_300, wp_cs3 (y := zX6_lay) kM6_64 (by decide) dX6_lay_301, wp_iast (y := zX6_lay) dX6_lay_304, wp_inc6 (y := zX6_lay) (nI 1) ki_1 dX6_lay_305, wp_goto (y := zX6_lay) 150 (by decide) dX6_lay_308, O.oc, O.g0, O.g1, O.g2, O.g3, O.g4, O.g5, O.g6, O.g7, O.g9, O.g10, O.g11, O.p0, O.p7, O.a1, O.a2, O.a3, O.a4, O.a5, O.a6, O.a7, O.a8, O.a9, h8, EH, EG, y1, y2, y3, y4, hf1, hf2, dk, rk, s6, mu_s, mu_mu']
          exact nxt
      rw [wp_il3 (y := zX6_lay) dX6_lay_106]
      simp (disch := first | omega | assumption) only [mm_op_some, true_and, and_true, mm_rc_some, mm_rc_none, mm_in_t, nI_add, pk_mul, nI_clamp, ok0, ok1, ok2, ok3, ok4, n1_0, n0_0, nI_le_, nI_lt_, if_true, if_false, not_true, not_false_eq_true, wp_il1 (y := zX6_lay) dX6_lay_107, wp_il2 (y := zX6_lay) dX6_lay_108, wp_imul (y := zX6_lay) dX6_lay_109, wp_icmp_ge (y := zX6_lay) 317 (by decide) dX6_lay_110, wp_il3 (y := zX6_lay) dX6_lay_113, wp_il1 (y := zX6_lay) dX6_lay_114, wp_irem' (y := zX6_lay) dX6_lay_115, wp_is4 (y := zX6_lay) dX6_lay_116, wp_il3 (y := zX6_lay) dX6_lay_118, wp_il1 (y := zX6_lay) dX6_lay_119, wp_idiv' (y := zX6_lay) dX6_lay_120, wp_is5 (y := zX6_lay) dX6_lay_121, wp_al0 (y := zX6_lay) dX6_lay_123, wp_getf (y := zX6_lay) kF6_9 dX6_lay_124, wp_sipush (y := zX6_lay) (nI 1600) ks_1600 dX6_lay_127, wp_il3 (y := zX6_lay) dX6_lay_130, wp_iadd (y := zX6_lay) dX6_lay_131, wp_bipush (y := zX6_lay) (nI 100) kb_100 dX6_lay_132, wp_iast (y := zX6_lay) dX6_lay_134, wp_al0 (y := zX6_lay) dX6_lay_135, wp_getf (y := zX6_lay) kF6_9 dX6_lay_136, wp_sipush (y := zX6_lay) (nI 1648) ks_1648 dX6_lay_139, wp_il3 (y := zX6_lay) dX6_lay_142, wp_iadd (y := zX6_lay) dX6_lay_143, wp_bipush (y := zX6_lay) (nI 6) kb_6 dX6_lay_144, wp_iast (y := zX6_lay) dX6_lay_146, wp_iconst (y := zX6_lay) (nI 0) ki_0 dX6_lay_147, wp_is6 (y := zX6_lay) dX6_lay_148, O.oc, O.g0, O.g1, O.g2, O.g3, O.g4, O.g5, O.g6, O.g7, O.g9, O.g10, O.g11, O.p0, O.p7, O.a1, O.a2, O.a3, O.a4, O.a5, O.a6, O.a7, O.a8, O.a9, wh, h9, wz, dv, rm, mu_s, mu_mu']
      exact sides 6 0 _ _ _ _ (by omega) (L.cell (by omega) hw hw6 hh hh6 (by omega))
  have e3 : 3 * w * h = 3 * A := by rw [Nat.mul_assoc, hA]
  have walls : ∀ d n (r : Nat → Int32), n + d = 144 → lyL w h (upd (upd (lyZ (μ (m + 1)) 1786) 0 (nI w)) 1 (nI h)) r n → wp sh zX6_lay 66 [.ref m, .int (nI w), .int (nI h), .int (nI n), .null, .null, .null, .null, .null, .null] [] (mu μ (m + 1) r) QQ := by
    intro d
    induction d with
    | zero =>
      intro n r hn L
      have e : n = 144 := by omega
      subst e
      rw [wp_il3 (y := zX6_lay) dX6_lay_66]
      simp (disch := first | omega | assumption) only [mm_op_some, true_and, and_true, mm_rc_some, mm_rc_none, mm_in_t, nI_add, pk_mul, nI_clamp, ok0, ok1, ok2, ok3, ok4, n1_0, n0_0, nI_le_, nI_lt_, if_true, if_false, not_true, not_false_eq_true, wp_sipush (y := zX6_lay) (nI 144) ks_144 dX6_lay_67, wp_icmp_ge (y := zX6_lay) 104 (by decide) dX6_lay_70, wp_iconst (y := zX6_lay) (nI 0) ki_0 dX6_lay_104, wp_is3 (y := zX6_lay) dX6_lay_105, Nat.le_refl]
      refine cells A 0 r _ _ _ _ _ _ (by omega) ⟨fun k hk => ?_, L.2, fun d hd => ?_, fun d hd => absurd hd (Nat.not_lt_zero _), fun p hp => absurd hp (by omega)⟩
      · rw [L.1 k (Or.inl (by omega))]
        by_cases z1 : k = 1
        · rw [z1, upd_s, if_neg (by omega), if_pos rfl]
        · rw [upd_n _ _ z1]
          by_cases z0 : k = 0
          · rw [z0, upd_s, if_pos rfl]
          · rw [upd_n _ _ z0, if_neg z0, if_neg z1]
            unfold lyZ
            by_cases y : k = 2 ∨ 9 ≤ k
            · rw [if_pos y, if_neg (by omega)]
            · rw [if_neg y, if_pos (by omega)]
      · rw [L.1 (1648 + d) (Or.inr (by omega)), upd_n _ _ (by omega), upd_n _ _ (by omega), if_neg (by omega)]
        unfold lyZ
        rw [if_pos (by omega)]
    | succ d ih =>
      intro n r hn L
      have h9 : (144 ≤ n) = False := eq_false (by omega)
      have st : ∀ v, v = (if n < 3 * (w * h) then nI 10 else -1) → lyL w h (upd (upd (lyZ (μ (m + 1)) 1786) 0 (nI w)) 1 (nI h)) (upd r (1456 + n) v) (n + 1) := fun v hv => by
        refine ⟨fun k hk => by rw [upd_n _ _ (by omega)]; exact L.1 k hk, fun j hj => ?_⟩
        by_cases z : j = n
        · rw [z, upd_s]
          exact hv
        · rw [upd_n _ _ (by omega)]
          exact L.2 j (by omega)
      rw [wp_il3 (y := zX6_lay) dX6_lay_66]
      by_cases z : 3 * A ≤ n
      · have z' := eq_true z
        simp (disch := first | omega | assumption) only [mm_op_some, true_and, and_true, mm_rc_some, mm_rc_none, mm_in_t, nI_add, pk_mul, nI_clamp, ok0, ok1, ok2, ok3, ok4, n1_0, n0_0, nI_le_, nI_lt_, if_true, if_false, not_true, not_false_eq_true, wp_sipush (y := zX6_lay) (nI 144) ks_144 dX6_lay_67, wp_icmp_ge (y := zX6_lay) 104 (by decide) dX6_lay_70, wp_al0 (y := zX6_lay) dX6_lay_73, wp_getf (y := zX6_lay) kF6_9 dX6_lay_74, wp_sipush (y := zX6_lay) (nI 1456) ks_1456 dX6_lay_77, wp_il3 (y := zX6_lay) dX6_lay_80, wp_iadd (y := zX6_lay) dX6_lay_81, wp_il3 (y := zX6_lay) dX6_lay_82, wp_iconst (y := zX6_lay) (nI 3) ki_3 dX6_lay_83, wp_il1 (y := zX6_lay) dX6_lay_84, wp_imul (y := zX6_lay) dX6_lay_85, wp_il2 (y := zX6_lay) dX6_lay_86, wp_imul (y := zX6_lay) dX6_lay_87, wp_icmp_ge (y := zX6_lay) 96 (by decide) dX6_lay_88, wp_iconst (y := zX6_lay) ((-1)) ki_m1 dX6_lay_96, wp_iast (y := zX6_lay) dX6_lay_97, wp_inc3 (y := zX6_lay) (nI 1) ki_1 dX6_lay_98, wp_goto (y := zX6_lay) 66 (by decide) dX6_lay_101, O.oc, O.g0, O.g1, O.g2, O.g3, O.g4, O.g5, O.g6, O.g7, O.g9, O.g10, O.g11, O.p0, O.p7, O.a1, O.a2, O.a3, O.a4, O.a5, O.a6, O.a7, O.a8, O.a9, h9, e3, z', mu_s, mu_mu']
        exact ih (n + 1) _ (by omega) (st _ (by rw [hA, if_neg (by omega)]))
      · have z' := eq_false z
        simp (disch := first | omega | assumption) only [mm_op_some, true_and, and_true, mm_rc_some, mm_rc_none, mm_in_t, nI_add, pk_mul, nI_clamp, ok0, ok1, ok2, ok3, ok4, n1_0, n0_0, nI_le_, nI_lt_, if_true, if_false, not_true, not_false_eq_true, wp_sipush (y := zX6_lay) (nI 144) ks_144 dX6_lay_67, wp_icmp_ge (y := zX6_lay) 104 (by decide) dX6_lay_70, wp_al0 (y := zX6_lay) dX6_lay_73, wp_getf (y := zX6_lay) kF6_9 dX6_lay_74, wp_sipush (y := zX6_lay) (nI 1456) ks_1456 dX6_lay_77, wp_il3 (y := zX6_lay) dX6_lay_80, wp_iadd (y := zX6_lay) dX6_lay_81, wp_il3 (y := zX6_lay) dX6_lay_82, wp_iconst (y := zX6_lay) (nI 3) ki_3 dX6_lay_83, wp_il1 (y := zX6_lay) dX6_lay_84, wp_imul (y := zX6_lay) dX6_lay_85, wp_il2 (y := zX6_lay) dX6_lay_86, wp_imul (y := zX6_lay) dX6_lay_87, wp_icmp_ge (y := zX6_lay) 96 (by decide) dX6_lay_88, wp_bipush (y := zX6_lay) (nI 10) kb_10 dX6_lay_91, wp_goto (y := zX6_lay) 97 (by decide) dX6_lay_93, wp_iast (y := zX6_lay) dX6_lay_97, wp_inc3 (y := zX6_lay) (nI 1) ki_1 dX6_lay_98, wp_goto (y := zX6_lay) 66 (by decide) dX6_lay_101, O.oc, O.g0, O.g1, O.g2, O.g3, O.g4, O.g5, O.g6, O.g7, O.g9, O.g10, O.g11, O.p0, O.p7, O.a1, O.a2, O.a3, O.a4, O.a5, O.a6, O.a7, O.a8, O.a9, h9, e3, z', mu_s, mu_mu']
        exact ih (n + 1) _ (by omega) (st _ (by rw [hA, if_pos (by omega)]))
  have wipe : ∀ d k, k + d = 1786 → wp sh zX6_lay 2 [.ref m, .int (nI w), .int (nI h), .int (nI k), .null, .null, .null, .null, .null, .null] [] (mu μ (m + 1) (lyZ (μ (m + 1)) k)) QQ := by
    intro d
    induction d with
    | zero =>
      intro k hk
      have e : k = 1786 := by omega
      subst e
      rw [wp_il3 (y := zX6_lay) dX6_lay_2]
      simp (disch := first | omega | assumption) only [mm_op_some, true_and, and_true, mm_rc_some, mm_rc_none, mm_in_t, nI_add, pk_mul, nI_clamp, ok0, ok1, ok2, ok3, ok4, n1_0, n0_0, nI_le_, nI_lt_, if_true, if_false, not_true, not_false_eq_true, wp_sipush (y := zX6_lay) (nI 1786) ks_1786 dX6_lay_3, wp_icmp_ge (y := zX6_lay) 50 (by decide) dX6_lay_6, wp_al0 (y := zX6_lay) dX6_lay_50, wp_getf (y := zX6_lay) kF6_9 dX6_lay_51, wp_iconst (y := zX6_lay) (nI 0) ki_0 dX6_lay_54, wp_il1 (y := zX6_lay) dX6_lay_55, wp_iast (y := zX6_lay) dX6_lay_56, wp_al0 (y := zX6_lay) dX6_lay_57, wp_getf (y := zX6_lay) kF6_9 dX6_lay_58, wp_iconst (y := zX6_lay) (nI 1) ki_1 dX6_lay_61, wp_il2 (y := zX6_lay) dX6_lay_62, wp_iast (y := zX6_lay) dX6_lay_63, wp_iconst (y := zX6_lay) (nI 0) ki_0 dX6_lay_64, wp_is3 (y := zX6_lay) dX6_lay_65, O.oc, O.g0, O.g1, O.g2, O.g3, O.g4, O.g5, O.g6, O.g7, O.g9, O.g10, O.g11, O.p0, O.p7, O.a1, O.a2, O.a3, O.a4, O.a5, O.a6, O.a7, O.a8, O.a9, Nat.le_refl, mu_s, mu_mu']
      exact walls 144 0 _ (by omega) ⟨fun _ _ => rfl, fun j hj => absurd hj (Nat.not_lt_zero _)⟩
    | succ d ih =>
      intro k hk
      have h9 : (1786 ≤ k) = False := eq_false (by omega)
      have nxt := ih (k + 1) (by omega)
      rw [wp_il3 (y := zX6_lay) dX6_lay_2]
      by_cases z : k = 2
      · have z' : (k = 2) = True := eq_true z
        rw [← lyZ_keep _ (Or.inl z)] at nxt
        simp (disch := first | omega | assumption) only [mm_op_some, true_and, and_true, mm_rc_some, mm_rc_none, mm_in_t, nI_add, pk_mul, nI_clamp, ok0, ok1, ok2, ok3, ok4, n1_0, n0_0, nI_le_, nI_lt_, if_true, if_false, not_true, not_false_eq_true, nI_eq_, wp_sipush (y := zX6_lay) (nI 1786) ks_1786 dX6_lay_3, wp_icmp_ge (y := zX6_lay) 50 (by decide) dX6_lay_6, wp_al0 (y := zX6_lay) dX6_lay_9, wp_getf (y := zX6_lay) kF6_9 dX6_lay_10, wp_il3 (y := zX6_lay) dX6_lay_13, wp_il3 (y := zX6_lay) dX6_lay_14, wp_iconst (y := zX6_lay) (nI 2) ki_2 dX6_lay_15, wp_icmp_eq (y := zX6_lay) 33 (by decide) dX6_lay_16, wp_al0 (y := zX6_lay) dX6_lay_33, wp_getf (y := zX6_lay) kF6_9 dX6_lay_34, wp_il3 (y := zX6_lay) dX6_lay_37, wp_iald (y := zX6_lay) dX6_lay_38, wp_goto (y := zX6_lay) 43 (by decide) dX6_lay_39, wp_iast (y := zX6_lay) dX6_lay_43, wp_inc3 (y := zX6_lay) (nI 1) ki_1 dX6_lay_44, wp_goto (y := zX6_lay) 2 (by decide) dX6_lay_47, O.oc, O.g0, O.g1, O.g2, O.g3, O.g4, O.g5, O.g6, O.g7, O.g9, O.g10, O.g11, O.p0, O.p7, O.a1, O.a2, O.a3, O.a4, O.a5, O.a6, O.a7, O.a8, O.a9, h9, z', mu_s, mu_mu']
        exact nxt
      · have z' : (k = 2) = False := eq_false z
        by_cases y : 9 ≤ k ∧ k ≤ 15
        · have i0 : mm_isin (nI k).toInt64 9 15 = nI 1 := isin_n (a := 9) (b := 15) (by omega) rfl rfl y
          rw [← lyZ_keep _ (Or.inr y)] at nxt
          simp (disch := first | omega | assumption) only [mm_op_some, true_and, and_true, mm_rc_some, mm_rc_none, mm_in_t, nI_add, pk_mul, nI_clamp, ok0, ok1, ok2, ok3, ok4, n1_0, n0_0, nI_le_, nI_lt_, if_true, if_false, not_true, not_false_eq_true, nI_eq_, n0_zz, n1_zz, wp_sipush (y := zX6_lay) (nI 1786) ks_1786 dX6_lay_3, wp_icmp_ge (y := zX6_lay) 50 (by decide) dX6_lay_6, wp_al0 (y := zX6_lay) dX6_lay_9, wp_getf (y := zX6_lay) kF6_9 dX6_lay_10, wp_il3 (y := zX6_lay) dX6_lay_13, wp_il3 (y := zX6_lay) dX6_lay_14, wp_iconst (y := zX6_lay) (nI 2) ki_2 dX6_lay_15, wp_icmp_eq (y := zX6_lay) 33 (by decide) dX6_lay_16, wp_il3 (y := zX6_lay) dX6_lay_19, wp_i2l (y := zX6_lay) dX6_lay_20, wp_ldc2 (y := zX6_lay) kL6_56 dX6_lay_21, wp_ldc2 (y := zX6_lay) kL6_58 dX6_lay_24, wp_in (y := zX6_lay) rfl kP6_48 (by decide) dX6_lay_27, wp_if_eq (y := zX6_lay) 42 (by decide) dX6_lay_30, wp_al0 (y := zX6_lay) dX6_lay_33, wp_getf (y := zX6_lay) kF6_9 dX6_lay_34, wp_il3 (y := zX6_lay) dX6_lay_37, wp_iald (y := zX6_lay) dX6_lay_38, wp_goto (y := zX6_lay) 43 (by decide) dX6_lay_39, wp_iast (y := zX6_lay) dX6_lay_43, wp_inc3 (y := zX6_lay) (nI 1) ki_1 dX6_lay_44, wp_goto (y := zX6_lay) 2 (by decide) dX6_lay_47, O.oc, O.g0, O.g1, O.g2, O.g3, O.g4, O.g5, O.g6, O.g7, O.g9, O.g10, O.g11, O.p0, O.p7, O.a1, O.a2, O.a3, O.a4, O.a5, O.a6, O.a7, O.a8, O.a9, h9, z', i0, mu_s, mu_mu']
          exact nxt
        · have i0 : mm_isin (nI k).toInt64 9 15 = nI 0 := isin_f (fun q => by
            rw [nI_toInt (by omega), show (9 : Int64).toInt = 9 from rfl, show (15 : Int64).toInt = 15 from rfl] at q
            omega)
          rw [← lyZ_wipe _ (fun q => q.elim z y)] at nxt
          simp (disch := first | omega | assumption) only [mm_op_some, true_and, and_true, mm_rc_some, mm_rc_none, mm_in_t, nI_add, pk_mul, nI_clamp, ok0, ok1, ok2, ok3, ok4, n1_0, n0_0, nI_le_, nI_lt_, if_true, if_false, not_true, not_false_eq_true, nI_eq_, n0_zz, n1_zz, wp_sipush (y := zX6_lay) (nI 1786) ks_1786 dX6_lay_3, wp_icmp_ge (y := zX6_lay) 50 (by decide) dX6_lay_6, wp_al0 (y := zX6_lay) dX6_lay_9, wp_getf (y := zX6_lay) kF6_9 dX6_lay_10, wp_il3 (y := zX6_lay) dX6_lay_13, wp_il3 (y := zX6_lay) dX6_lay_14, wp_iconst (y := zX6_lay) (nI 2) ki_2 dX6_lay_15, wp_icmp_eq (y := zX6_lay) 33 (by decide) dX6_lay_16, wp_il3 (y := zX6_lay) dX6_lay_19, wp_i2l (y := zX6_lay) dX6_lay_20, wp_ldc2 (y := zX6_lay) kL6_56 dX6_lay_21, wp_ldc2 (y := zX6_lay) kL6_58 dX6_lay_24, wp_in (y := zX6_lay) rfl kP6_48 (by decide) dX6_lay_27, wp_if_eq (y := zX6_lay) 42 (by decide) dX6_lay_30, wp_iconst (y := zX6_lay) (nI 0) ki_0 dX6_lay_42, wp_iast (y := zX6_lay) dX6_lay_43, wp_inc3 (y := zX6_lay) (nI 1) ki_1 dX6_lay_44, wp_goto (y := zX6_lay) 2 (by decide) dX6_lay_47, O.oc, O.g0, O.g1, O.g2, O.g3, O.g4, O.g5, O.g6, O.g7, O.g9, O.g10, O.g11, O.p0, O.p7, O.a1, O.a2, O.a3, O.a4, O.a5, O.a6, O.a7, O.a8, O.a9, h9, z', i0, mu_s, mu_mu']
          exact nxt
  have e0 : lyZ (μ (m + 1)) 0 = μ (m + 1) := by
    funext k
    unfold lyZ
    rw [if_neg (by omega)]
  have w0 := wipe 1786 0 (by omega)
  rw [e0, mu_id] at w0
  simp (disch := first | omega | assumption) only [mm_op_some, true_and, and_true, mm_rc_some, mm_rc_none, mm_in_t, nI_add, pk_mul, nI_clamp, ok0, ok1, ok2, ok3, ok4, n1_0, n0_0, nI_le_, nI_lt_, if_true, if_false, not_true, not_false_eq_true, wp_iconst (y := zX6_lay) (nI 0) ki_0 dX6_lay_0, wp_is3 (y := zX6_lay) dX6_lay_1]
  exact w0
theorem m_ring (O : MoSh sh m) (SX : StA μ m) (R : RepM s μ m) (J : Inv s.1) (g0 : μ m 7 = nI 0) (x y : Int32) : cl sh zX6_ring [.ref m, .int x, .int y] μ (MT m μ (a_ring s x y)) := by
  have R0 := R.mu0 (nI 0)
  have g1 : (mu μ m (upd (μ m) 0 (nI 0))) m 7 = nI 0 := by rw [mu_s, upd_n _ _ (by omega)]; exact g0
  show wp sh zX6_ring 0 [.ref m, .int x, .int y] [] μ _
  unfold a_ring
  have bad : MT m μ ((-1 : Int32), fRf s 0) = MT m μ ((-1 : Int32), fRf s 0) → wp sh zX6_ring 33 [.ref m, .int x, .int y] [] (mu μ m (upd (μ m) 0 (nI 0))) (MT m μ ((-1 : Int32), fRf s 0)) := fun _ => by
    generalize hq : MT m μ ((-1 : Int32), fRf s 0) = QQ
    simp (disch := first | omega | assumption) only [mm_op_some, true_and, and_true, mm_rc_some, mm_rc_none, pk_mul, nI_add, mm_in_t, nI_clamp, ok0, ok1, ok2, ok3, ok4, n1_0, n0_0, nI_le_, nI_lt_, if_true, if_false, not_true, not_false_eq_true, ce_lt, ce_cl, hf_lt, hf_cl, wp_al0 (y := zX6_ring) dX6_ring_33, wp_iconst (y := zX6_ring) ((-1)) ki_m1 dX6_ring_34, wp_cv1 (y := zX6_ring) kM6_72 (by decide) dX6_ring_35, (show yo zX6_refuse = 6 from rfl), O.oc, O.g0, O.g1, O.g2, O.g3, O.g4, O.g5, O.g6, O.g7, O.g9, O.g10, O.g11, O.p0, O.p7, O.a1, O.a2, O.a3, O.a4, O.a5, O.a6, O.a7, O.a8, O.a9]
    refine cl_mono (m_ref1 O R0) ?_
    rintro r μ1 ⟨rfl, R1, F1⟩
    simp (disch := first | omega | assumption) only [mm_op_some, true_and, and_true, mm_rc_some, mm_rc_none, pk_mul, nI_add, mm_in_t, nI_clamp, ok0, ok1, ok2, ok3, ok4, n1_0, n0_0, nI_le_, nI_lt_, if_true, if_false, not_true, not_false_eq_true, ce_lt, ce_cl, hf_lt, hf_cl, wp_ireti (y := zX6_ring) rfl dX6_ring_38]
    rw [← hq]
    exact mt_ro g0 rfl F1 rfl R1 J
  have bad := bad rfl
  by_cases hx : x < nI 3 ∨ nI 6 < x
  · rw [if_pos (hx.elim Or.inl (fun q => Or.inr (Or.inl q)))]
    have i0 : mm_isin x.toInt64 3 6 = nI 0 := isin_an (lo := nI 3) (hi := nI 6) rfl rfl hx
    generalize MT m μ ((-1 : Int32), fRf s 0) = QQ at bad ⊢
    simp (disch := first | omega | assumption) only [mm_op_some, true_and, and_true, mm_rc_some, mm_rc_none, pk_mul, nI_add, mm_in_t, nI_clamp, ok0, ok1, ok2, ok3, ok4, n1_0, n0_0, nI_le_, nI_lt_, if_true, if_false, not_true, not_false_eq_true, ce_lt, ce_cl, hf_lt, hf_cl, n0_zz, n1_zz, wp_al0 (y := zX6_ring) dX6_ring_0, wp_iconst (y := zX6_ring) (nI 0) ki_0 dX6_ring_1, wp_putf (y := zX6_ring) kF6_44 rfl dX6_ring_2, wp_il1 (y := zX6_ring) dX6_ring_5, wp_i2l (y := zX6_ring) dX6_ring_6, wp_ldc2 (y := zX6_ring) kL6_68 dX6_ring_7, wp_ldc2 (y := zX6_ring) kL6_70 dX6_ring_10, wp_in (y := zX6_ring) rfl kP6_48 (by decide) dX6_ring_13, wp_if_eq (y := zX6_ring) 33 (by decide) dX6_ring_16, O.oc, O.g0, O.g1, O.g2, O.g3, O.g4, O.g5, O.g6, O.g7, O.g9, O.g10, O.g11, O.p0, O.p7, O.a1, O.a2, O.a3, O.a4, O.a5, O.a6, O.a7, O.a8, O.a9, i0]
    exact bad
  · have i0 : mm_isin x.toInt64 3 6 = nI 1 := isin_ab (lo := nI 3) (hi := nI 6) rfl rfl (fun q => hx (Or.inl q)) (fun q => hx (Or.inr q))
    by_cases hy : y < nI 3 ∨ nI 6 < y
    · rw [if_pos (Or.inr (Or.inr hy))]
      have i1 : mm_isin y.toInt64 3 6 = nI 0 := isin_an (lo := nI 3) (hi := nI 6) rfl rfl hy
      generalize MT m μ ((-1 : Int32), fRf s 0) = QQ at bad ⊢
      simp (disch := first | omega | assumption) only [mm_op_some, true_and, and_true, mm_rc_some, mm_rc_none, pk_mul, nI_add, mm_in_t, nI_clamp, ok0, ok1, ok2, ok3, ok4, n1_0, n0_0, nI_le_, nI_lt_, if_true, if_false, not_true, not_false_eq_true, ce_lt, ce_cl, hf_lt, hf_cl, n0_zz, n1_zz, wp_al0 (y := zX6_ring) dX6_ring_0, wp_iconst (y := zX6_ring) (nI 0) ki_0 dX6_ring_1, wp_putf (y := zX6_ring) kF6_44 rfl dX6_ring_2, wp_il1 (y := zX6_ring) dX6_ring_5, wp_i2l (y := zX6_ring) dX6_ring_6, wp_ldc2 (y := zX6_ring) kL6_68 dX6_ring_7, wp_ldc2 (y := zX6_ring) kL6_70 dX6_ring_10, wp_in (y := zX6_ring) rfl kP6_48 (by decide) dX6_ring_13, wp_if_eq (y := zX6_ring) 33 (by decide) dX6_ring_16, wp_il2 (y := zX6_ring) dX6_ring_19, wp_i2l (y := zX6_ring) dX6_ring_20, wp_ldc2 (y := zX6_ring) kL6_68 dX6_ring_21, wp_ldc2 (y := zX6_ring) kL6_70 dX6_ring_24, wp_in (y := zX6_ring) rfl kP6_48 (by decide) dX6_ring_27, wp_if_ne (y := zX6_ring) 39 (by decide) dX6_ring_30, O.oc, O.g0, O.g1, O.g2, O.g3, O.g4, O.g5, O.g6, O.g7, O.g9, O.g10, O.g11, O.p0, O.p7, O.a1, O.a2, O.a3, O.a4, O.a5, O.a6, O.a7, O.a8, O.a9, i0, i1]
      exact bad
    · have i1 : mm_isin y.toInt64 3 6 = nI 1 := isin_ab (lo := nI 3) (hi := nI 6) rfl rfl (fun q => hy (Or.inl q)) (fun q => hy (Or.inr q))
      rw [if_neg (fun q => q.elim (fun t => hx (Or.inl t)) (fun t => t.elim (fun t => hx (Or.inr t)) hy))]
      have nat : ∀ z : Int32, ¬ (z < nI 3 ∨ nI 6 < z) → ∃ n, 3 ≤ n ∧ n ≤ 6 ∧ z = nI n := fun z hz => by
        rw [Int32.lt_iff_toInt_lt, Int32.lt_iff_toInt_lt, show (nI 3).toInt = 3 from rfl, show (nI 6).toInt = 6 from rfl] at hz
        refine ⟨z.toInt.toNat, by omega, by omega, Int32.toInt_inj.mp ?_⟩
        rw [nI_toInt (by omega)]
        omega
      obtain ⟨w, hw, hw6, rfl⟩ := nat x hx
      obtain ⟨h, hh, hh6, rfl⟩ := nat y hy
      rw [nI_clamp (by omega), nI_clamp (by omega)]
      generalize hq : MT m μ (nI w * nI h, fBg s w h) = QQ
      have SX0 : StA (mu μ m (upd (μ m) 0 (nI 0))) m := ⟨fun k hk => by rw [mu_n _ _ (by omega)]; exact SX.1 k hk, fun k hk => by rw [mu_n _ _ (by omega)]; exact SX.2 k hk⟩
      simp (disch := first | omega | assumption) only [mm_op_some, true_and, and_true, mm_rc_some, mm_rc_none, pk_mul, nI_add, mm_in_t, nI_clamp, ok0, ok1, ok2, ok3, ok4, n1_0, n0_0, nI_le_, nI_lt_, if_true, if_false, not_true, not_false_eq_true, ce_lt, ce_cl, hf_lt, hf_cl, n0_zz, n1_zz, wp_al0 (y := zX6_ring) dX6_ring_0, wp_iconst (y := zX6_ring) (nI 0) ki_0 dX6_ring_1, wp_putf (y := zX6_ring) kF6_44 rfl dX6_ring_2, wp_il1 (y := zX6_ring) dX6_ring_5, wp_i2l (y := zX6_ring) dX6_ring_6, wp_ldc2 (y := zX6_ring) kL6_68 dX6_ring_7, wp_ldc2 (y := zX6_ring) kL6_70 dX6_ring_10, wp_in (y := zX6_ring) rfl kP6_48 (by decide) dX6_ring_13, wp_if_eq (y := zX6_ring) 33 (by decide) dX6_ring_16, wp_il2 (y := zX6_ring) dX6_ring_19, wp_i2l (y := zX6_ring) dX6_ring_20, wp_ldc2 (y := zX6_ring) kL6_68 dX6_ring_21, wp_ldc2 (y := zX6_ring) kL6_70 dX6_ring_24, wp_in (y := zX6_ring) rfl kP6_48 (by decide) dX6_ring_27, wp_if_ne (y := zX6_ring) 39 (by decide) dX6_ring_30, wp_al0 (y := zX6_ring) dX6_ring_39, wp_il1 (y := zX6_ring) dX6_ring_40, wp_il2 (y := zX6_ring) dX6_ring_41, wp_cv2 (y := zX6_ring) kM6_40 (by decide) dX6_ring_42, (show yo zX6_lay = 6 from rfl), O.oc, O.g0, O.g1, O.g2, O.g3, O.g4, O.g5, O.g6, O.g7, O.g9, O.g10, O.g11, O.p0, O.p7, O.a1, O.a2, O.a3, O.a4, O.a5, O.a6, O.a7, O.a8, O.a9, i0, i1]
      refine cl_mono (m_lay O SX0 hw hw6 hh hh6) ?_
      rintro r μ1 ⟨rfl, F1, L⟩
      simp (disch := first | omega | assumption) only [mm_op_some, true_and, and_true, mm_rc_some, mm_rc_none, ok0, ok1, ok2, ok3, ok4, if_true, if_false, wp_il1 (y := zX6_ring) dX6_ring_45, wp_il2 (y := zX6_ring) dX6_ring_46, wp_imul (y := zX6_ring) dX6_ring_47, wp_ireti (y := zX6_ring) rfl dX6_ring_48]
      rw [← hq]
      refine mt_ro (v := (nI w * nI h, fBg s w h)) g0 rfl F1 rfl ⟨L.mer hw hw6 hh hh6, ?_⟩ (Inv.ring hw hw6 hh hh6)
      rw [F1 m (by omega), g1]
      exact L.otr R0.2.2.2.1 R0.2.2.2.2.2.2.2.2.2.2.1
end MLY
