/-! ===== a mesh some of whose new halves aren't tied in yet ===== -/
def RepX (M : Ms) (μ : mm_U) (b : Nat) (XN XP XR : Hf → Prop) : Prop :=
  (∀ h : Hf, lv M (wl h) = true → μ (b + 1) h.val = nI (ow M h).val)
  ∧ (∀ h : Hf, lv M (wl h) = true → ¬ XN h → μ (b + 2) h.val = nI (nx M h).val)
  ∧ (∀ h : Hf, lv M (wl h) = true → ¬ XP h → μ (b + 3) h.val = nI (pv M h).val)
  ∧ (∀ h : Hf, lv M (wl h) = true → ¬ XR h → μ (b + 4) h.val = rx M h ∧ μ (b + 5) h.val = ry M h)
  ∧ (∀ h : Hf, lv M (wl h) = false → μ (b + 1) h.val = -1)
  ∧ (∀ w : Wa, lv M w = true → μ (b + 6) w.val = ln M w)
  ∧ (∀ c : Ce, μ (b + 7) c.val = nI (sd M c))
  ∧ (∀ c : Ce, 0 < sd M c → μ (b + 8) c.val = ar M c)
section REPX
variable {sh : mm_Sh} {b : Nat} {M : Ms} {μ : mm_U} {XN XP XR : Hf → Prop} {Q : Option Value → mm_U → Prop}
theorem RepC.x (R : RepC M μ b) : RepX M μ b (fun _ => False) (fun _ => False) (fun _ => False) :=
  ⟨fun h hl => (R.1 h hl).1, fun h hl _ => (R.1 h hl).2.1, fun h hl _ => (R.1 h hl).2.2.1, fun h hl _ => (R.1 h hl).2.2.2, R.2.1, R.2.2.1, R.2.2.2.1, R.2.2.2.2⟩
theorem RepX.c (R : RepX M μ b XN XP XR) (h1 : ∀ h, ¬ XN h) (h2 : ∀ h, ¬ XP h) (h3 : ∀ h, ¬ XR h) : RepC M μ b :=
  ⟨fun h hl => ⟨R.1 h hl, R.2.1 h hl (h1 h), R.2.2.1 h hl (h2 h), R.2.2.2.1 h hl (h3 h)⟩, R.2.2.2.2.1, R.2.2.2.2.2.1, R.2.2.2.2.2.2.1, R.2.2.2.2.2.2.2⟩
theorem RepX.wNx (R : RepX M μ b XN XP XR) (h v : Hf) : RepX (sNx M h v) (mu μ (b + 2) (upd (μ (b + 2)) h.val (nI v.val))) b (fun k => XN k ∧ k ≠ h) XP XR := by
  obtain ⟨r1, r2, r3, r4, r5, r6, r7, r8⟩ := R
  refine ⟨fun k hk => ?_, fun k hk hx => ?_, fun k hk hx => ?_, fun k hk hx => ?_, fun k hk => ?_, fun w hw => ?_, fun c => ?_, fun c hc => ?_⟩
  · rw [mu_n _ _ (by omega)]; exact r1 k hk
  · rw [mu_s, upd_fin]
    show _ = nI (fu (nx M) h v k).val
    unfold fu
    split
    · rfl
    · rename_i e
      exact r2 k hk (fun q => hx ⟨q, e⟩)
  · rw [mu_n _ _ (by omega)]; exact r3 k hk hx
  · rw [mu_n _ _ (by omega), mu_n _ _ (by omega)]; exact r4 k hk hx
  · rw [mu_n _ _ (by omega)]; exact r5 k hk
  · rw [mu_n _ _ (by omega)]; exact r6 w hw
  · rw [mu_n _ _ (by omega)]; exact r7 c
  · rw [mu_n _ _ (by omega)]; exact r8 c hc
theorem RepX.wPv (R : RepX M μ b XN XP XR) (h v : Hf) : RepX (sPv M h v) (mu μ (b + 3) (upd (μ (b + 3)) h.val (nI v.val))) b XN (fun k => XP k ∧ k ≠ h) XR := by
  obtain ⟨r1, r2, r3, r4, r5, r6, r7, r8⟩ := R
  refine ⟨fun k hk => ?_, fun k hk hx => ?_, fun k hk hx => ?_, fun k hk hx => ?_, fun k hk => ?_, fun w hw => ?_, fun c => ?_, fun c hc => ?_⟩
  · rw [mu_n _ _ (by omega)]; exact r1 k hk
  · rw [mu_n _ _ (by omega)]; exact r2 k hk hx
  · rw [mu_s, upd_fin]
    show _ = nI (fu (pv M) h v k).val
    unfold fu
    split
    · rfl
    · rename_i e
      exact r3 k hk (fun q => hx ⟨q, e⟩)
  · rw [mu_n _ _ (by omega), mu_n _ _ (by omega)]; exact r4 k hk hx
  · rw [mu_n _ _ (by omega)]; exact r5 k hk
  · rw [mu_n _ _ (by omega)]; exact r6 w hw
  · rw [mu_n _ _ (by omega)]; exact r7 c
  · rw [mu_n _ _ (by omega)]; exact r8 c hc
/-- both rounds of a half -/
theorem RepX.wRd (R : RepX M μ b XN XP XR) (h : Hf) (x y : Int32) : RepX (sRy (sRx M h x) h y) (mu (mu μ (b + 4) (upd (μ (b + 4)) h.val x)) (b + 5) (upd (μ (b + 5)) h.val y)) b XN XP (fun k => XR k ∧ k ≠ h) := by
  obtain ⟨r1, r2, r3, r4, r5, r6, r7, r8⟩ := R
  refine ⟨fun k hk => ?_, fun k hk hx => ?_, fun k hk hx => ?_, fun k hk hx => ?_, fun k hk => ?_, fun w hw => ?_, fun c => ?_, fun c hc => ?_⟩
  · rw [mu_n _ _ (by omega), mu_n _ _ (by omega)]; exact r1 k hk
  · rw [mu_n _ _ (by omega), mu_n _ _ (by omega)]; exact r2 k hk hx
  · rw [mu_n _ _ (by omega), mu_n _ _ (by omega)]; exact r3 k hk hx
  · rw [mu_s, mu_n _ _ (by omega), mu_s, upd_fin, upd_fin]
    show _ = fu (rx M) h x k ∧ _ = fu (ry M) h y k
    unfold fu
    by_cases e : k = h
    · simp only [if_pos e]
      exact ⟨trivial, trivial⟩
    · simp only [if_neg e]
      exact r4 k hk (fun q => hx ⟨q, e⟩)
  · rw [mu_n _ _ (by omega), mu_n _ _ (by omega)]; exact r5 k hk
  · rw [mu_n _ _ (by omega), mu_n _ _ (by omega)]; exact r6 w hw
  · rw [mu_n _ _ (by omega), mu_n _ _ (by omega)]; exact r7 c
  · rw [mu_n _ _ (by omega), mu_n _ _ (by omega)]; exact r8 c hc
theorem RepX.wLn (R : RepX M μ b XN XP XR) (w0 : Wa) (v : Int32) : RepX (sLn M w0 v) (mu μ (b + 6) (upd (μ (b + 6)) w0.val v)) b XN XP XR := by
  obtain ⟨r1, r2, r3, r4, r5, r6, r7, r8⟩ := R
  refine ⟨fun k hk => ?_, fun k hk hx => ?_, fun k hk hx => ?_, fun k hk hx => ?_, fun k hk => ?_, fun w hw => ?_, fun c => ?_, fun c hc => ?_⟩
  · rw [mu_n _ _ (by omega)]; exact r1 k hk
  · rw [mu_n _ _ (by omega)]; exact r2 k hk hx
  · rw [mu_n _ _ (by omega)]; exact r3 k hk hx
  · rw [mu_n _ _ (by omega), mu_n _ _ (by omega)]; exact r4 k hk hx
  · rw [mu_n _ _ (by omega)]; exact r5 k hk
  · rw [mu_s, upd_fin]
    show _ = fu (ln M) w0 v w
    unfold fu
    split
    · rfl
    · exact r6 w hw
  · rw [mu_n _ _ (by omega)]; exact r7 c
  · rw [mu_n _ _ (by omega)]; exact r8 c hc
theorem RepX.wSd (R : RepX M μ b XN XP XR) (c0 : Ce) (v : Nat) (h : 0 < v → μ (b + 8) c0.val = ar M c0) : RepX (sSd M c0 v) (mu μ (b + 7) (upd (μ (b + 7)) c0.val (nI v))) b XN XP XR := by
  obtain ⟨r1, r2, r3, r4, r5, r6, r7, r8⟩ := R
  refine ⟨fun k hk => ?_, fun k hk hx => ?_, fun k hk hx => ?_, fun k hk hx => ?_, fun k hk => ?_, fun w hw => ?_, fun c => ?_, fun c hc => ?_⟩
  · rw [mu_n _ _ (by omega)]; exact r1 k hk
  · rw [mu_n _ _ (by omega)]; exact r2 k hk hx
  · rw [mu_n _ _ (by omega)]; exact r3 k hk hx
  · rw [mu_n _ _ (by omega), mu_n _ _ (by omega)]; exact r4 k hk hx
  · rw [mu_n _ _ (by omega)]; exact r5 k hk
  · rw [mu_n _ _ (by omega)]; exact r6 w hw
  · rw [mu_s, upd_fin]
    show _ = nI (fu (sd M) c0 v c)
    unfold fu
    split
    · rfl
    · exact r7 c
  · rw [mu_n _ _ (by omega)]
    have hc : 0 < fu (sd M) c0 v c := hc
    by_cases e : c = c0
    · subst e
      rw [fu_s] at hc
      exact h hc
    · rw [fu_n _ _ e] at hc
      exact r8 c hc
/-- a wall comes: two halves, not tied in -/
def awM (M : Ms) (j : Wa) (one other : Ce) (len : Int32) : Ms := sLn (sLv (sOw (sOw M (h0 j) one) (h1 j) other) j true) j len
theorem RepX.wAdd (R : RepX M μ b XN XP XR) (j : Wa) (one other : Ce) (len : Int32) : RepX (awM M j one other len) (mu (mu (mu μ (b + 1) (upd (μ (b + 1)) (2 * j.val) (nI one.val))) (b + 1) (upd (mu μ (b + 1) (upd (μ (b + 1)) (2 * j.val) (nI one.val)) (b + 1)) (2 * j.val + 1) (nI other.val))) (b + 6) (upd (μ (b + 6)) j.val len)) b (fun k => XN k ∨ wl k = j) (fun k => XP k ∨ wl k = j) (fun k => XR k ∨ wl k = j) := by
  obtain ⟨r1, r2, r3, r4, r5, r6, r7, r8⟩ := R
  have key : ∀ k : Hf, upd (upd (μ (b + 1)) (2 * j.val) (nI one.val)) (2 * j.val + 1) (nI other.val) k.val = if k = h1 j then nI other.val else if k = h0 j then nI one.val else μ (b + 1) k.val := by
    intro k
    unfold upd
    by_cases e1 : k = h1 j
    · rw [if_pos e1, if_pos (by rw [e1]; rfl)]
    · rw [if_neg e1, if_neg (show ¬ k.val = 2 * j.val + 1 from fun q => e1 (Fin.ext q))]
      by_cases e0 : k = h0 j
      · rw [if_pos e0, if_pos (by rw [e0]; rfl)]
      · rw [if_neg e0, if_neg (show ¬ k.val = 2 * j.val from fun q => e0 (Fin.ext q))]
  have wk : ∀ k : Hf, wl k = j ↔ (k = h1 j ∨ k = h0 j) := by
    intro k
    constructor
    · intro e
      have : k.val / 2 = j.val := congrArg Fin.val e
      rcases Nat.mod_two_eq_zero_or_one k.val with q | q
      · exact Or.inr (Fin.ext (by rw [h0_val]; omega))
      · exact Or.inl (Fin.ext (by rw [h1_val]; omega))
    · rintro (e | e)
      · rw [e, wl_h1]
      · rw [e, wl_h0]
  have e1 : mu (mu (mu μ (b + 1) (upd (μ (b + 1)) (2 * j.val) (nI one.val))) (b + 1) (upd (mu μ (b + 1) (upd (μ (b + 1)) (2 * j.val) (nI one.val)) (b + 1)) (2 * j.val + 1) (nI other.val))) (b + 6) (upd (μ (b + 6)) j.val len) = mu (mu μ (b + 1) (upd (upd (μ (b + 1)) (2 * j.val) (nI one.val)) (2 * j.val + 1) (nI other.val))) (b + 6) (upd (μ (b + 6)) j.val len) := by
    rw [mu_s, mu_mu]
  rw [e1]
  refine ⟨fun k hk => ?_, fun k hk hx => ?_, fun k hk hx => ?_, fun k hk hx => ?_, fun k hk => ?_, fun w hw => ?_, fun c => ?_, fun c hc => ?_⟩
  · rw [mu_n _ _ (by omega), mu_s, key]
    show _ = nI (fu (fu (ow M) (h0 j) one) (h1 j) other k).val
    unfold fu
    by_cases e1 : k = h1 j
    · rw [if_pos e1, if_pos e1]
    · rw [if_neg e1, if_neg e1]
      by_cases e0 : k = h0 j
      · rw [if_pos e0, if_pos e0]
      · rw [if_neg e0, if_neg e0]
        have hne : wl k ≠ j := fun q => (wk k).mp q |>.elim e1 e0
        have hk : fu (lv M) j true (wl k) = true := hk
        rw [fu_n _ _ hne] at hk
        exact r1 k hk
  · have hne : wl k ≠ j := fun q => hx (Or.inr q)
    have hk : fu (lv M) j true (wl k) = true := hk
    rw [fu_n _ _ hne] at hk
    rw [mu_n _ _ (by omega), mu_n _ _ (by omega)]
    exact r2 k hk (fun q => hx (Or.inl q))
  · have hne : wl k ≠ j := fun q => hx (Or.inr q)
    have hk : fu (lv M) j true (wl k) = true := hk
    rw [fu_n _ _ hne] at hk
    rw [mu_n _ _ (by omega), mu_n _ _ (by omega)]
    exact r3 k hk (fun q => hx (Or.inl q))
  · have hne : wl k ≠ j := fun q => hx (Or.inr q)
    have hk : fu (lv M) j true (wl k) = true := hk
    rw [fu_n _ _ hne] at hk
    rw [mu_n _ _ (by omega), mu_n _ _ (by omega), mu_n _ _ (by omega), mu_n _ _ (by omega)]
    exact r4 k hk (fun q => hx (Or.inl q))
  · have hk : fu (lv M) j true (wl k) = false := hk
    have hne : wl k ≠ j := fun q => by rw [q, fu_s] at hk; cases hk
    rw [fu_n _ _ hne] at hk
    rw [mu_n _ _ (by omega), mu_s, key, if_neg (fun q => hne ((wk k).mpr (Or.inl q))), if_neg (fun q => hne ((wk k).mpr (Or.inr q)))]
    exact r5 k hk
  · rw [mu_s, upd_fin]
    show _ = fu (ln M) j len w
    unfold fu
    by_cases e : w = j
    · rw [if_pos e, if_pos e]
    · rw [if_neg e, if_neg e]
      have hw : fu (lv M) j true w = true := hw
      rw [fu_n _ _ e] at hw
      exact r6 w hw
  · rw [mu_n _ _ (by omega), mu_n _ _ (by omega)]; exact r7 c
  · rw [mu_n _ _ (by omega), mu_n _ _ (by omega)]; exact r8 c hc
theorem RepX.mono {YN YP YR : Hf → Prop} (R : RepX M μ b XN XP XR) (h1 : ∀ h, XN h → YN h) (h2 : ∀ h, XP h → YP h) (h3 : ∀ h, XR h → YR h) : RepX M μ b YN YP YR :=
  ⟨R.1, fun h hl hx => R.2.1 h hl (fun q => hx (h1 h q)), fun h hl hx => R.2.2.1 h hl (fun q => hx (h2 h q)), fun h hl hx => R.2.2.2.1 h hl (fun q => hx (h3 h q)), R.2.2.2.2⟩
theorem x_link (S : MeshSh sh b) (R : RepX M μ b XN XP XR) (a c : Hf) : cl sh zX2_link [.ref b, .int (nI a.val), .int (nI c.val)] μ (fun r μ' => r = none ∧ RepX (lkM M a c) μ' b (fun k => XN k ∧ k ≠ a) (fun k => XP k ∧ k ≠ c) XR ∧ Fr μ μ' b) := by
  show wp sh zX2_link 0 [.ref b, .int (nI a.val), .int (nI c.val)] [] μ _
  simp (disch := first | omega | assumption) only [wp_al0 (y := zX2_link) dX2_link_0, wp_getf (y := zX2_link) kF2_15 dX2_link_1, wp_il1 (y := zX2_link) dX2_link_4, wp_il2 (y := zX2_link) dX2_link_5, wp_iast (y := zX2_link) dX2_link_6, wp_al0 (y := zX2_link) dX2_link_7, wp_getf (y := zX2_link) kF2_18 dX2_link_8, wp_il2 (y := zX2_link) dX2_link_11, wp_il1 (y := zX2_link) dX2_link_12, wp_iast (y := zX2_link) dX2_link_13, wp_vret (y := zX2_link) rfl dX2_link_14, mm_op_some, true_and, and_true, mm_rc_some, mm_rc_none, nI_xor, tw_xor, pk_mul, nI_add, mm_in_t, nI_clamp, ok0, ok1, ok2, ok3, ok4, n1_0, n0_0, n0_zz, n1_zz, bI_eq0, bI_ne0, bI_zz, nI_le_, nI_lt_, nI_eq_, nI_lt0, nI_ge0, nI_gt0, nI_le0, nI_eq0, m1_lt0, m1_ge0, if_true, if_false, not_true, not_false_eq_true, Classical.not_not, true_or, or_true, false_or, n1_1, k10, Bool.true_eq_false, Bool.false_eq_true, Nat.le_refl, and_self, and_false, false_and, or_self, or_false, hf_lt, ce_lt, wa_lt, hf_cl, ce_cl, wa_cl, ce_vv, hf_vv, wa_vv, i_irr, i_rfl, S.oc, S.g0, S.g1, S.g2, S.g3, S.g4, S.g5, S.g6, S.g7, S.a1, S.a2, S.a3, S.a4, S.a5, S.a6, S.a7, S.a8, hf_cl]
  exact ⟨(R.wNx a c).wPv c a, ((Fr.refl μ b).mu _ (by omega) (by omega)).mu _ (by omega) (by omega)⟩
theorem x_setRound (S : MeshSh sh b) (R : RepX M μ b XN XP XR) (h : Hf) (x y : Int32) : cl sh zX2_setRound [.ref b, .int (nI h.val), .int x, .int y] μ (fun r μ' => r = none ∧ RepX (rdM M h x y) μ' b XN XP (fun k => (XR k ∧ k ≠ h) ∧ k ≠ tw h) ∧ Fr μ μ' b) := by
  show wp sh zX2_setRound 0 [.ref b, .int (nI h.val), .int x, .int y] [] μ _
  simp (disch := first | omega | assumption) only [wp_al0 (y := zX2_setRound) dX2_setRound_0, wp_getf (y := zX2_setRound) kF2_21 dX2_setRound_1, wp_il1 (y := zX2_setRound) dX2_setRound_4, wp_il2 (y := zX2_setRound) dX2_setRound_5, wp_iast (y := zX2_setRound) dX2_setRound_6, wp_al0 (y := zX2_setRound) dX2_setRound_7, wp_getf (y := zX2_setRound) kF2_24 dX2_setRound_8, wp_il1 (y := zX2_setRound) dX2_setRound_11, wp_il3 (y := zX2_setRound) dX2_setRound_12, wp_iast (y := zX2_setRound) dX2_setRound_13, wp_al0 (y := zX2_setRound) dX2_setRound_14, wp_getf (y := zX2_setRound) kF2_21 dX2_setRound_15, wp_il1 (y := zX2_setRound) dX2_setRound_18, wp_iconst (y := zX2_setRound) (nI 1) ki_1 dX2_setRound_19, wp_ixor (y := zX2_setRound) dX2_setRound_20, wp_il2 (y := zX2_setRound) dX2_setRound_21, wp_ineg (y := zX2_setRound) dX2_setRound_22, wp_iast (y := zX2_setRound) dX2_setRound_23, wp_al0 (y := zX2_setRound) dX2_setRound_24, wp_getf (y := zX2_setRound) kF2_24 dX2_setRound_25, wp_il1 (y := zX2_setRound) dX2_setRound_28, wp_iconst (y := zX2_setRound) (nI 1) ki_1 dX2_setRound_29, wp_ixor (y := zX2_setRound) dX2_setRound_30, wp_il3 (y := zX2_setRound) dX2_setRound_31, wp_ineg (y := zX2_setRound) dX2_setRound_32, wp_iast (y := zX2_setRound) dX2_setRound_33, wp_vret (y := zX2_setRound) rfl dX2_setRound_34, mm_op_some, true_and, and_true, mm_rc_some, mm_rc_none, nI_xor, tw_xor, pk_mul, nI_add, mm_in_t, nI_clamp, ok0, ok1, ok2, ok3, ok4, n1_0, n0_0, n0_zz, n1_zz, bI_eq0, bI_ne0, bI_zz, nI_le_, nI_lt_, nI_eq_, nI_lt0, nI_ge0, nI_gt0, nI_le0, nI_eq0, m1_lt0, m1_ge0, if_true, if_false, not_true, not_false_eq_true, Classical.not_not, true_or, or_true, false_or, n1_1, k10, Bool.true_eq_false, Bool.false_eq_true, Nat.le_refl, and_self, and_false, false_and, or_self, or_false, hf_lt, ce_lt, wa_lt, hf_cl, ce_cl, wa_cl, ce_vv, hf_vv, wa_vv, i_irr, i_rfl, S.oc, S.g0, S.g1, S.g2, S.g3, S.g4, S.g5, S.g6, S.g7, S.a1, S.a2, S.a3, S.a4, S.a5, S.a6, S.a7, S.a8, hf_cl]
  refine ⟨?_, ((((Fr.refl μ b).mu _ (by omega) (by omega)).mu _ (by omega) (by omega)).mu _ (by omega) (by omega)).mu _ (by omega) (by omega)⟩
  have R1 := (R.wRd h x y).wRd (tw h) (-x) (-y)
  have e5 : mu μ (b + 4) (upd (μ (b + 4)) h.val x) (b + 5) = μ (b + 5) := mu_n _ _ (by omega)
  rw [e5]
  have e6 : mu (mu (mu μ (b + 4) (upd (μ (b + 4)) h.val x)) (b + 5) (upd (μ (b + 5)) h.val y)) (b + 4) (upd (mu (mu μ (b + 4) (upd (μ (b + 4)) h.val x)) (b + 5) (upd (μ (b + 5)) h.val y) (b + 4)) (tw h).val (-x)) (b + 5) = mu (mu μ (b + 4) (upd (μ (b + 4)) h.val x)) (b + 5) (upd (μ (b + 5)) h.val y) (b + 5) := mu_n _ _ (by omega)
  rw [e6]
  exact R1
theorem x_across (S : MeshSh sh b) (R : RepX M μ b XN XP XR) (h : Hf) (hl : lv M (wl h) = true) : cl sh zX2_across [.ref b, .int (nI h.val)] μ Q = Q (some (.int (nI (ow M (tw h)).val))) μ := by
  have hb := (tw h).isLt
  have r1 := R.1 (tw h) (by rw [wl_tw]; exact hl)
  show wp sh zX2_across 0 [.ref b, .int (nI h.val)] [] μ Q = _
  simp (disch := first | omega | assumption) only [wp_al0 (y := zX2_across) dX2_across_0, wp_getf (y := zX2_across) kF2_9 dX2_across_1, wp_il1 (y := zX2_across) dX2_across_4, wp_iconst (y := zX2_across) (nI 1) ki_1 dX2_across_5, wp_ixor (y := zX2_across) dX2_across_6, wp_iald (y := zX2_across) dX2_across_7, wp_ireti (y := zX2_across) rfl dX2_across_8, mm_op_some, true_and, and_true, mm_rc_some, mm_rc_none, nI_xor, tw_xor, pk_mul, nI_add, mm_in_t, nI_clamp, ok0, ok1, ok2, ok3, ok4, n1_0, n0_0, n0_zz, n1_zz, bI_eq0, bI_ne0, bI_zz, nI_le_, nI_lt_, nI_eq_, nI_lt0, nI_ge0, nI_gt0, nI_le0, nI_eq0, m1_lt0, m1_ge0, if_true, if_false, not_true, not_false_eq_true, Classical.not_not, true_or, or_true, false_or, n1_1, k10, Bool.true_eq_false, Bool.false_eq_true, Nat.le_refl, and_self, and_false, false_and, or_self, or_false, hf_lt, ce_lt, wa_lt, hf_cl, ce_cl, wa_cl, ce_vv, hf_vv, wa_vv, i_irr, i_rfl, S.oc, S.g0, S.g1, S.g2, S.g3, S.g4, S.g5, S.g6, S.g7, S.a1, S.a2, S.a3, S.a4, S.a5, S.a6, S.a7, S.a8, r1]
theorem x_hasWall1 (S : MeshSh sh b) (R : RepX M μ b XN XP XR) {i : Nat} (hi : i < 144) (hc : lv M (wI i) = true) : cl sh zX2_hasWall [.ref b, .int (nI i)] μ Q = Q (some (.int (nI 1))) μ := by
  have rs := R.1 (h0 (wI i)) (by rw [wl_h0]; exact hc)
  rw [h0_val, wI_lt hi] at rs
  have bs := (ow M (h0 (wI i))).isLt
  have h9 : ¬ 144 ≤ i := by omega
  show wp sh zX2_hasWall 0 [.ref b, .int (nI i)] [] μ Q = _
  simp (disch := first | omega | assumption) only [wp_il1 (y := zX2_hasWall) dX2_hasWall_0, wp_if_lt (y := zX2_hasWall) 26 (by decide) dX2_hasWall_1, wp_il1 (y := zX2_hasWall) dX2_hasWall_4, wp_sipush (y := zX2_hasWall) (nI 144) ks_144 dX2_hasWall_5, wp_icmp_ge (y := zX2_hasWall) 26 (by decide) dX2_hasWall_8, wp_al0 (y := zX2_hasWall) dX2_hasWall_11, wp_getf (y := zX2_hasWall) kF2_9 dX2_hasWall_12, wp_iconst (y := zX2_hasWall) (nI 2) ki_2 dX2_hasWall_15, wp_il1 (y := zX2_hasWall) dX2_hasWall_16, wp_imul (y := zX2_hasWall) dX2_hasWall_17, wp_iald (y := zX2_hasWall) dX2_hasWall_18, wp_if_lt (y := zX2_hasWall) 26 (by decide) dX2_hasWall_19, wp_iconst (y := zX2_hasWall) (nI 1) ki_1 dX2_hasWall_22, wp_goto (y := zX2_hasWall) 27 (by decide) dX2_hasWall_23, wp_iconst (y := zX2_hasWall) (nI 0) ki_0 dX2_hasWall_26, wp_iretz (y := zX2_hasWall) rfl dX2_hasWall_27, mm_op_some, true_and, and_true, mm_rc_some, mm_rc_none, nI_xor, tw_xor, pk_mul, nI_add, mm_in_t, nI_clamp, ok0, ok1, ok2, ok3, ok4, n1_0, n0_0, n0_zz, n1_zz, bI_eq0, bI_ne0, bI_zz, nI_le_, nI_lt_, nI_eq_, nI_lt0, nI_ge0, nI_gt0, nI_le0, nI_eq0, m1_lt0, m1_ge0, if_true, if_false, not_true, not_false_eq_true, Classical.not_not, true_or, or_true, false_or, n1_1, k10, Bool.true_eq_false, Bool.false_eq_true, Nat.le_refl, and_self, and_false, false_and, or_self, or_false, hf_lt, ce_lt, wa_lt, hf_cl, ce_cl, wa_cl, ce_vv, hf_vv, wa_vv, i_irr, i_rfl, S.oc, S.g0, S.g1, S.g2, S.g3, S.g4, S.g5, S.g6, S.g7, S.a1, S.a2, S.a3, S.a4, S.a5, S.a6, S.a7, S.a8, rs, h9]
theorem x_hasWall0 (S : MeshSh sh b) (R : RepX M μ b XN XP XR) {i : Nat} (hi : i < 144) (hc : lv M (wI i) = false) : cl sh zX2_hasWall [.ref b, .int (nI i)] μ Q = Q (some (.int (nI 0))) μ := by
  have rs := R.2.2.2.2.1 (h0 (wI i)) (by rw [wl_h0]; exact hc)
  rw [h0_val, wI_lt hi] at rs
  have h9 : ¬ 144 ≤ i := by omega
  show wp sh zX2_hasWall 0 [.ref b, .int (nI i)] [] μ Q = _
  simp (disch := first | omega | assumption) only [wp_il1 (y := zX2_hasWall) dX2_hasWall_0, wp_if_lt (y := zX2_hasWall) 26 (by decide) dX2_hasWall_1, wp_il1 (y := zX2_hasWall) dX2_hasWall_4, wp_sipush (y := zX2_hasWall) (nI 144) ks_144 dX2_hasWall_5, wp_icmp_ge (y := zX2_hasWall) 26 (by decide) dX2_hasWall_8, wp_al0 (y := zX2_hasWall) dX2_hasWall_11, wp_getf (y := zX2_hasWall) kF2_9 dX2_hasWall_12, wp_iconst (y := zX2_hasWall) (nI 2) ki_2 dX2_hasWall_15, wp_il1 (y := zX2_hasWall) dX2_hasWall_16, wp_imul (y := zX2_hasWall) dX2_hasWall_17, wp_iald (y := zX2_hasWall) dX2_hasWall_18, wp_if_lt (y := zX2_hasWall) 26 (by decide) dX2_hasWall_19, wp_iconst (y := zX2_hasWall) (nI 1) ki_1 dX2_hasWall_22, wp_goto (y := zX2_hasWall) 27 (by decide) dX2_hasWall_23, wp_iconst (y := zX2_hasWall) (nI 0) ki_0 dX2_hasWall_26, wp_iretz (y := zX2_hasWall) rfl dX2_hasWall_27, mm_op_some, true_and, and_true, mm_rc_some, mm_rc_none, nI_xor, tw_xor, pk_mul, nI_add, mm_in_t, nI_clamp, ok0, ok1, ok2, ok3, ok4, n1_0, n0_0, n0_zz, n1_zz, bI_eq0, bI_ne0, bI_zz, nI_le_, nI_lt_, nI_eq_, nI_lt0, nI_ge0, nI_gt0, nI_le0, nI_eq0, m1_lt0, m1_ge0, if_true, if_false, not_true, not_false_eq_true, Classical.not_not, true_or, or_true, false_or, n1_1, k10, Bool.true_eq_false, Bool.false_eq_true, Nat.le_refl, and_self, and_false, false_and, or_self, or_false, hf_lt, ce_lt, wa_lt, hf_cl, ce_cl, wa_cl, ce_vv, hf_vv, wa_vv, i_irr, i_rfl, S.oc, S.g0, S.g1, S.g2, S.g3, S.g4, S.g5, S.g6, S.g7, S.a1, S.a2, S.a3, S.a4, S.a5, S.a6, S.a7, S.a8, rs, h9]
/-- the least wall that is free -/
def frW (M : Ms) : Option Nat := fd (fun i => !(lv M (wI i))) 144 0
theorem x_addWall (S : MeshSh sh b) (R : RepX M μ b XN XP XR) (one other : Ce) (len : Int32) (j : Wa) (hj : frW M = some j.val) : cl sh zX2_addWall [.ref b, .int (nI one.val), .int (nI other.val), .int len] μ (fun r μ' => r = some (.int (nI (h0 j).val)) ∧ RepX (awM M j one other len) μ' b (fun k => XN k ∨ wl k = j) (fun k => XP k ∨ wl k = j) (fun k => XR k ∨ wl k = j) ∧ Fr μ μ' b) := by
  obtain ⟨f1, -, -, f4⟩ := fd_some hj
  have jb := j.isLt
  have hd : lv M (wI j.val) = false := by simpa using f1
  have hlv : ∀ i, i < j.val → lv M (wI i) = true := fun i hi => by have := f4 i (Nat.zero_le _) hi; simpa using this
  show wp sh zX2_addWall 0 [.ref b, .int (nI one.val), .int (nI other.val), .int len, .null] [] μ _
  simp (disch := first | omega | assumption) only [wp_iconst (y := zX2_addWall) (nI 0) ki_0 dX2_addWall_0, wp_is4 (y := zX2_addWall) dX2_addWall_1]
  have K := skips (F := fun i => wp sh zX2_addWall 3 [.ref b, .int (nI one.val), .int (nI other.val), .int len, .int (nI i)] [] μ (fun r μ' => r = some (.int (nI (h0 j).val)) ∧ RepX (awM M j one other len) μ' b (fun k => XN k ∨ wl k = j) (fun k => XP k ∨ wl k = j) (fun k => XR k ∨ wl k = j) ∧ Fr μ μ' b)) j.val 0 (fun i h1 h2 => by
    rw [wp_il4 (y := zX2_addWall) dX2_addWall_3]
    have h9 : ¬ 143 ≤ i := by omega
    simp (disch := first | omega | assumption) only [wp_sipush (y := zX2_addWall) (nI 143) ks_143 dX2_addWall_5, wp_icmp_ge (y := zX2_addWall) 26 (by decide) dX2_addWall_8, wp_al0 (y := zX2_addWall) dX2_addWall_11, wp_il4 (y := zX2_addWall) dX2_addWall_12, wp_cv1 (y := zX2_addWall) kM2_91 (by decide) dX2_addWall_14, (show yo zX2_hasWall = 2 from rfl), wp_if_eq (y := zX2_addWall) 26 (by decide) dX2_addWall_17, wp_inc4 (y := zX2_addWall) (nI 1) ki_1 dX2_addWall_20, wp_goto (y := zX2_addWall) 3 (by decide) dX2_addWall_23, mm_op_some, true_and, and_true, mm_rc_some, mm_rc_none, nI_xor, tw_xor, pk_mul, nI_add, mm_in_t, nI_clamp, ok0, ok1, ok2, ok3, ok4, n1_0, n0_0, n0_zz, n1_zz, bI_eq0, bI_ne0, bI_zz, nI_le_, nI_lt_, nI_eq_, nI_lt0, nI_ge0, nI_gt0, nI_le0, nI_eq0, m1_lt0, m1_ge0, if_true, if_false, not_true, not_false_eq_true, Classical.not_not, true_or, or_true, false_or, n1_1, k10, Bool.true_eq_false, Bool.false_eq_true, Nat.le_refl, and_self, and_false, false_and, or_self, or_false, hf_lt, ce_lt, wa_lt, hf_cl, ce_cl, wa_cl, ce_vv, hf_vv, wa_vv, i_irr, i_rfl, S.oc, S.g0, S.g1, S.g2, S.g3, S.g4, S.g5, S.g6, S.g7, S.a1, S.a2, S.a3, S.a4, S.a5, S.a6, S.a7, S.a8, h9, x_hasWall1 S R (i := i) (by omega) (hlv i (by omega))])
  rw [Nat.zero_add] at K
  rw [K]
  have h0v := (h0 j).isLt
  have h1v := (h1 j).isLt
  rw [h0_val] at h0v
  rw [h1_val] at h1v
  have fin : wp sh zX2_addWall 26 [.ref b, .int (nI one.val), .int (nI other.val), .int len, .int (nI j.val)] [] μ (fun r μ' => r = some (.int (nI (h0 j).val)) ∧ RepX (awM M j one other len) μ' b (fun k => XN k ∨ wl k = j) (fun k => XP k ∨ wl k = j) (fun k => XR k ∨ wl k = j) ∧ Fr μ μ' b) := by
    simp (disch := first | omega | assumption) only [wp_al0 (y := zX2_addWall) dX2_addWall_26, wp_getf (y := zX2_addWall) kF2_9 dX2_addWall_27, wp_iconst (y := zX2_addWall) (nI 2) ki_2 dX2_addWall_30, wp_il4 (y := zX2_addWall) dX2_addWall_31, wp_imul (y := zX2_addWall) dX2_addWall_33, wp_il1 (y := zX2_addWall) dX2_addWall_34, wp_iast (y := zX2_addWall) dX2_addWall_35, wp_al0 (y := zX2_addWall) dX2_addWall_36, wp_getf (y := zX2_addWall) kF2_9 dX2_addWall_37, wp_iconst (y := zX2_addWall) (nI 2) ki_2 dX2_addWall_40, wp_il4 (y := zX2_addWall) dX2_addWall_41, wp_imul (y := zX2_addWall) dX2_addWall_43, wp_iconst (y := zX2_addWall) (nI 1) ki_1 dX2_addWall_44, wp_iadd (y := zX2_addWall) dX2_addWall_45, wp_il2 (y := zX2_addWall) dX2_addWall_46, wp_iast (y := zX2_addWall) dX2_addWall_47, wp_al0 (y := zX2_addWall) dX2_addWall_48, wp_getf (y := zX2_addWall) kF2_27 dX2_addWall_49, wp_il4 (y := zX2_addWall) dX2_addWall_52, wp_il3 (y := zX2_addWall) dX2_addWall_54, wp_iast (y := zX2_addWall) dX2_addWall_55, wp_iconst (y := zX2_addWall) (nI 2) ki_2 dX2_addWall_56, wp_il4 (y := zX2_addWall) dX2_addWall_57, wp_imul (y := zX2_addWall) dX2_addWall_59, wp_ireti (y := zX2_addWall) rfl dX2_addWall_60, mm_op_some, true_and, and_true, mm_rc_some, mm_rc_none, nI_xor, tw_xor, pk_mul, nI_add, mm_in_t, nI_clamp, ok0, ok1, ok2, ok3, ok4, n1_0, n0_0, n0_zz, n1_zz, bI_eq0, bI_ne0, bI_zz, nI_le_, nI_lt_, nI_eq_, nI_lt0, nI_ge0, nI_gt0, nI_le0, nI_eq0, m1_lt0, m1_ge0, if_true, if_false, not_true, not_false_eq_true, Classical.not_not, true_or, or_true, false_or, n1_1, k10, Bool.true_eq_false, Bool.false_eq_true, Nat.le_refl, and_self, and_false, false_and, or_self, or_false, hf_lt, ce_lt, wa_lt, hf_cl, ce_cl, wa_cl, ce_vv, hf_vv, wa_vv, i_irr, i_rfl, S.oc, S.g0, S.g1, S.g2, S.g3, S.g4, S.g5, S.g6, S.g7, S.a1, S.a2, S.a3, S.a4, S.a5, S.a6, S.a7, S.a8]
    refine ⟨rfl, ?_, (((Fr.refl μ b).mu _ (by omega) (by omega)).mu _ (by omega) (by omega)).mu _ (by omega) (by omega)⟩
    rw [mu_n _ _ (show b + 6 ≠ b + 1 by omega), mu_n _ _ (show b + 6 ≠ b + 1 by omega)]
    exact R.wAdd j one other len
  rw [wp_il4 (y := zX2_addWall) dX2_addWall_3]
  by_cases h9 : 143 ≤ j.val
  · simp (disch := first | omega | assumption) only [wp_sipush (y := zX2_addWall) (nI 143) ks_143 dX2_addWall_5, wp_icmp_ge (y := zX2_addWall) 26 (by decide) dX2_addWall_8, mm_op_some, true_and, and_true, mm_rc_some, mm_rc_none, nI_xor, tw_xor, pk_mul, nI_add, mm_in_t, nI_clamp, ok0, ok1, ok2, ok3, ok4, n1_0, n0_0, n0_zz, n1_zz, bI_eq0, bI_ne0, bI_zz, nI_le_, nI_lt_, nI_eq_, nI_lt0, nI_ge0, nI_gt0, nI_le0, nI_eq0, m1_lt0, m1_ge0, if_true, if_false, not_true, not_false_eq_true, Classical.not_not, true_or, or_true, false_or, n1_1, k10, Bool.true_eq_false, Bool.false_eq_true, Nat.le_refl, and_self, and_false, false_and, or_self, or_false, hf_lt, ce_lt, wa_lt, hf_cl, ce_cl, wa_cl, ce_vv, hf_vv, wa_vv, i_irr, i_rfl, S.oc, S.g0, S.g1, S.g2, S.g3, S.g4, S.g5, S.g6, S.g7, S.a1, S.a2, S.a3, S.a4, S.a5, S.a6, S.a7, S.a8, h9]
    exact fin
  · simp (disch := first | omega | assumption) only [wp_sipush (y := zX2_addWall) (nI 143) ks_143 dX2_addWall_5, wp_icmp_ge (y := zX2_addWall) 26 (by decide) dX2_addWall_8, wp_al0 (y := zX2_addWall) dX2_addWall_11, wp_il4 (y := zX2_addWall) dX2_addWall_12, wp_cv1 (y := zX2_addWall) kM2_91 (by decide) dX2_addWall_14, (show yo zX2_hasWall = 2 from rfl), wp_if_eq (y := zX2_addWall) 26 (by decide) dX2_addWall_17, mm_op_some, true_and, and_true, mm_rc_some, mm_rc_none, nI_xor, tw_xor, pk_mul, nI_add, mm_in_t, nI_clamp, ok0, ok1, ok2, ok3, ok4, n1_0, n0_0, n0_zz, n1_zz, bI_eq0, bI_ne0, bI_zz, nI_le_, nI_lt_, nI_eq_, nI_lt0, nI_ge0, nI_gt0, nI_le0, nI_eq0, m1_lt0, m1_ge0, if_true, if_false, not_true, not_false_eq_true, Classical.not_not, true_or, or_true, false_or, n1_1, k10, Bool.true_eq_false, Bool.false_eq_true, Nat.le_refl, and_self, and_false, false_and, or_self, or_false, hf_lt, ce_lt, wa_lt, hf_cl, ce_cl, wa_cl, ce_vv, hf_vv, wa_vv, i_irr, i_rfl, S.oc, S.g0, S.g1, S.g2, S.g3, S.g4, S.g5, S.g6, S.g7, S.a1, S.a2, S.a3, S.a4, S.a5, S.a6, S.a7, S.a8, h9, x_hasWall0 S R (i := j.val) (by omega) hd]
    exact fin
end REPX
