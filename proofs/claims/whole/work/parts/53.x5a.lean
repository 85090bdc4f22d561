/-! ===== FoamCells' own methods: the object x, its foam f, its paper p, its ways q ===== -/
def XSh (sh : mm_Sh) (x f p q : Nat) : Prop := (∃ v, sh x = .inr (5, [some (.inl f), some (.inl p), some (.inl q), some (.inr (some v))])) ∧ FoSh sh f ∧ PaSh sh p ∧ WaSh sh q ∧ (p + 15 < f ∨ f + 14 < p) ∧ (q + 4 < f ∨ f + 14 < q)
def ceO (M : Ms) (x : Int32) : Option Ce := if x < 0 then none else if nI 48 ≤ x then none else if 0 < sd M (cI x.toNatClampNeg) then some (cI x.toNatClampNeg) else none
def waO (M : Ms) (x : Int32) : Option Wa := if x < 0 then none else if nI 144 ≤ x then none else if lv M (wI x.toNatClampNeg) = true then some (wI x.toNatClampNeg) else none
theorem ceO_some {M : Ms} {x : Int32} {c : Ce} (h : ceO M x = some c) : x = nI c.val ∧ 0 < sd M c := by
  unfold ceO at h
  rcases pk_ix x (n := 48) (by decide) with q | q | ⟨j, hj, rfl⟩
  · rw [if_pos q] at h; cases h
  · split at h
    · cases h
    · cases h
  · rw [if_neg (nI_pos (by omega)), if_neg (nI_ge hj (by decide)), nI_clamp (by omega)] at h
    split at h
    · rename_i hc
      cases h
      rw [cI_lt hj]
      exact ⟨rfl, hc⟩
    · cases h
theorem waO_some {M : Ms} {x : Int32} {c : Wa} (h : waO M x = some c) : x = nI c.val ∧ lv M c = true := by
  unfold waO at h
  rcases pk_ix x (n := 144) (by decide) with q | q | ⟨j, hj, rfl⟩
  · rw [if_pos q] at h; cases h
  · split at h
    · cases h
    · cases h
  · rw [if_neg (nI_pos (by omega)), if_neg (nI_ge hj (by decide)), nI_clamp (by omega)] at h
    split at h
    · rename_i hc
      cases h
      rw [wI_lt hj]
      exact ⟨rfl, hc⟩
    · cases h
theorem ceO_nI {M : Ms} {j : Nat} (hj : j < 48) : ceO M (nI j) = if 0 < sd M (cI j) then some (cI j) else none := by
  unfold ceO
  rw [if_neg (nI_pos (by omega)), if_neg (nI_ge hj (by decide)), nI_clamp (by omega)]
theorem waO_nI {M : Ms} {j : Nat} (hj : j < 144) : waO M (nI j) = if lv M (wI j) = true then some (wI j) else none := by
  unfold waO
  rw [if_neg (nI_pos (by omega)), if_neg (nI_ge hj (by decide)), nI_clamp (by omega)]
theorem rng {x : Int32} {a b : Nat} (ha : a < 2 ^ 31) (hb : b < 2 ^ 31) (h1 : ¬ x < nI a) (h2 : ¬ nI b < x) : ∃ n, x = nI n ∧ a ≤ n ∧ n ≤ b := by
  rw [Int32.lt_iff_toInt_lt, nI_toInt ha] at h1
  rw [Int32.lt_iff_toInt_lt, nI_toInt hb] at h2
  have h0 : ¬ x < 0 := by
    rw [Int32.lt_iff_toInt_lt]
    show ¬ x.toInt < 0
    omega
  obtain ⟨j, hj, rfl⟩ := nI_of h0
  rw [nI_toInt hj] at h1 h2
  exact ⟨j, rfl, by omega, by omega⟩
/-- which wall's half is the lesser cell's -/
def buA (M : Ms) (w : Wa) : Hf := if (ow M (h0 w)).val < (ow M (h1 w)).val then h0 w else h1 w
def cuN (m i j : Nat) : Nat := (j + m - i - 1) % m
def cuJ1 (M : Ms) : Wa := wI ((frW M).getD 0)
def cuJ2 (M : Ms) : Wa := wI ((frW (sLv M (cuJ1 M) true)).getD 0)
def cuJ3 (M : Ms) : Wa := wI ((frW (sLv (sLv M (cuJ1 M) true) (cuJ2 M) true)).getD 0)
def cuM (M : Ms) (c : Ce) (f : Hf) (i j : Nat) (fr : Ce) : Ms := spM M (nxi M i f) (nxi M j f) c fr (cuJ1 M) (cuJ2 M) (cuJ3 M) (cuN (sd M c) i j)
/-- all that the mesh's law must give -/
def GoodX (I : Ms → Prop) : Prop := GoodI I ∧ BackI I ∧ (∀ M, I M → HasF M ∧ OwL M)
  ∧ (∀ M w, I M → lv M w = true → canJ M w = true → JoOk M w (buA M w) ∧ I (joM M w (buA M w)))
  ∧ (∀ M c f i j fr, I M → fH M c = some f.val → lv M (wl f) = true → i < sd M c → j < sd M c → i ≠ j → nxi M i f ≠ nxi M j f ∧ (frC M = some fr.val → SpOk M (nxi M i f) (nxi M j f) c fr (cuJ1 M) (cuJ2 M) (cuJ3 M) (cuN (sd M c) i j) ∧ I (cuM M c f i j fr) ∧ sW M (fun _ => nI 1) ≤ nI 141))
  ∧ (∀ M c v, I M → I (sAr M c v)) ∧ (∀ M w n, I M → n ≤ 99 → I (sLn M w (nI n)))
  ∧ (∀ w h, 3 ≤ w → w ≤ 6 → 3 ≤ h → h ≤ 6 → I (rgM w h))
/-- what a call leaves: its answer, the foam -/
def RT (I : Ms → Prop) (f : Nat) (v : Int32 × Fo) : Option Value → mm_U → Prop := fun r μ' => r = some (.int v.1) ∧ RepF v.2 μ' f ∧ I v.2.1
section X5A
variable {sh : mm_Sh} {x f p q b : Nat} {μ : mm_U} {M : Ms} {s : Fo} {I : Ms → Prop} {Q : Option Value → mm_U → Prop}
theorem XSh.oc (X : XSh sh x f p q) : (mm_oc sh x 5 = true) = True := by
  obtain ⟨⟨v, h⟩, _⟩ := X
  unfold mm_oc; rw [h]; exact eq_true rfl
theorem XSh.g0 (X : XSh sh x f p q) (μ : mm_U) : mm_gf sh μ x 5 0 = some (.ref f) := by
  obtain ⟨⟨v, h⟩, _⟩ := X
  unfold mm_gf mm_oc mm_fd; rw [h]; rfl
theorem XSh.g1 (X : XSh sh x f p q) (μ : mm_U) : mm_gf sh μ x 5 1 = some (.ref p) := by
  obtain ⟨⟨v, h⟩, _⟩ := X
  unfold mm_gf mm_oc mm_fd; rw [h]; rfl
theorem XSh.g2 (X : XSh sh x f p q) (μ : mm_U) : mm_gf sh μ x 5 2 = some (.ref q) := by
  obtain ⟨⟨v, h⟩, _⟩ := X
  unfold mm_gf mm_oc mm_fd; rw [h]; rfl
theorem c_hasCellN (S : MeshSh sh b) (R : RepC M μ b) {y : Int32} (h : ceO M y = none) : cl sh zX2_hasCell [.ref b, .int y] μ Q = Q (some (.int (nI 0))) μ := by
  rcases pk_ix y (n := 48) (by decide) with z | z | ⟨j, hj, rfl⟩
  · exact c_hasCellX S R (Or.inl z)
  · exact c_hasCellX S R (Or.inr z)
  · rw [ceO_nI hj] at h
    refine c_hasCell0 S R hj (fun hc => ?_)
    rw [if_pos hc] at h
    cases h
theorem c_hasCellS (S : MeshSh sh b) (R : RepC M μ b) (B : SdB M) {c : Ce} (h : 0 < sd M c) : cl sh zX2_hasCell [.ref b, .int (nI c.val)] μ Q = Q (some (.int (nI 1))) μ := c_hasCell1 S R B c.isLt (by rw [cI_val]; exact h)
theorem c_hasWallN (S : MeshSh sh b) (R : RepC M μ b) {y : Int32} (h : waO M y = none) : cl sh zX2_hasWall [.ref b, .int y] μ Q = Q (some (.int (nI 0))) μ := by
  rcases pk_ix y (n := 144) (by decide) with z | z | ⟨j, hj, rfl⟩
  · exact c_hasWallX S R (Or.inl z)
  · exact c_hasWallX S R (Or.inr z)
  · rw [waO_nI hj] at h
    refine c_hasWall0 S R hj (fun hc => ?_)
    rw [if_pos hc] at h
    cases h
theorem c_hasWallS (S : MeshSh sh b) (R : RepC M μ b) {c : Wa} (h : lv M c = true) : cl sh zX2_hasWall [.ref b, .int (nI c.val)] μ Q = Q (some (.int (nI 1))) μ := c_hasWall1 S R c.isLt (by rw [wI_val]; exact h)
theorem c_ref1 (F : FoSh sh f) (R : RepF s μ f) : cl sh zX1_refuse [.ref f, .int (-1)] μ (fun r μ' => r = some (.int (-1)) ∧ RepF (fRf s 0) μ' f) := cl_mono (c_refuse F R 0 (by decide)) (fun _ _ h => ⟨h.1, h.2.1⟩)
theorem c_ref2 (F : FoSh sh f) (R : RepF s μ f) : cl sh zX1_refuse [.ref f, .int (-2)] μ (fun r μ' => r = some (.int (-2)) ∧ RepF (fRf s 1) μ' f) := cl_mono (c_refuse F R 1 (by decide)) (fun _ _ h => ⟨h.1, h.2.1⟩)
theorem c_ref3 (F : FoSh sh f) (R : RepF s μ f) : cl sh zX1_refuse [.ref f, .int (-3)] μ (fun r μ' => r = some (.int (-3)) ∧ RepF (fRf s 2) μ' f) := cl_mono (c_refuse F R 2 (by decide)) (fun _ _ h => ⟨h.1, h.2.1⟩)
theorem c_ref4 (F : FoSh sh f) (R : RepF s μ f) : cl sh zX1_refuse [.ref f, .int (-4)] μ (fun r μ' => r = some (.int (-4)) ∧ RepF (fRf s 3) μ' f) := cl_mono (c_refuse F R 3 (by decide)) (fun _ _ h => ⟨h.1, h.2.1⟩)
def a_ring (s : Fo) (w h : Int32) : Int32 × Fo := if w < nI 3 ∨ nI 6 < w ∨ h < nI 3 ∨ nI 6 < h then (-1, fRf s 0) else (w * h, fBg s w.toNatClampNeg h.toNatClampNeg)
theorem x_ring (X : XSh sh x f p q) (G : GoodX I) (R : RepF s μ f) (hI_ : I s.1) (w h : Int32) : cl sh zX5_ring [.ref x, .int w, .int h] μ (RT I f (a_ring s w h)) := by
  obtain ⟨F, P, W, d1, d2⟩ := X.2
  show wp sh zX5_ring 0 [.ref x, .int w, .int h] [] μ _
  have bad : a_ring s w h = (-1, fRf s 0) → wp sh zX5_ring 22 [.ref x, .int w, .int h] [] μ (RT I f (a_ring s w h)) := by
    intro e
    rw [e]
    simp (disch := first | omega | assumption) only [mm_op_some, true_and, and_true, mm_rc_some, mm_rc_none, nI_xor, tw_xor, pk_mul, nI_add, mm_in_t, nI_clamp, ok0, ok1, ok2, ok3, ok4, n1_0, n0_0, n0_zz, n1_zz, bI_eq0, bI_ne0, bI_zz, nI_le_, nI_lt_, nI_eq_, nI_lt0, nI_ge0, nI_gt0, nI_le0, nI_eq0, m1_lt0, m1_ge0, if_true, if_false, not_true, not_false_eq_true, Classical.not_not, true_or, or_true, false_or, n1_1, k10, Bool.true_eq_false, Bool.false_eq_true, Nat.le_refl, and_self, and_false, false_and, or_self, or_false, hf_lt, ce_lt, hf_cl, ce_cl, i_irr, i_rfl, wp_al0 (y := zX5_ring) dX5_ring_22, wp_getf (y := zX5_ring) kF5_10 dX5_ring_23, wp_iconst (y := zX5_ring) ((-1)) ki_m1 dX5_ring_26, wp_cv1 (y := zX5_ring) kM5_38 (by decide) dX5_ring_27, (show yo zX1_refuse = 1 from rfl), X.oc, X.g0, X.g1, X.g2, F.oc, F.g0, F.g1, F.g2, F.g3, F.g4, F.g5, F.g6, F.g7, F.g8, F.g9, F.g10]
    refine cl_mono (c_ref1 F R) ?_
    rintro r μ1 ⟨rfl, R1⟩
    simp (disch := first | omega | assumption) only [mm_op_some, true_and, and_true, mm_rc_some, mm_rc_none, nI_xor, tw_xor, pk_mul, nI_add, mm_in_t, nI_clamp, ok0, ok1, ok2, ok3, ok4, n1_0, n0_0, n0_zz, n1_zz, bI_eq0, bI_ne0, bI_zz, nI_le_, nI_lt_, nI_eq_, nI_lt0, nI_ge0, nI_gt0, nI_le0, nI_eq0, m1_lt0, m1_ge0, if_true, if_false, not_true, not_false_eq_true, Classical.not_not, true_or, or_true, false_or, n1_1, k10, Bool.true_eq_false, Bool.false_eq_true, Nat.le_refl, and_self, and_false, false_and, or_self, or_false, hf_lt, ce_lt, hf_cl, ce_cl, i_irr, i_rfl, wp_ireti (y := zX5_ring) rfl dX5_ring_30]
    exact ⟨rfl, R1, hI_⟩
  by_cases h1 : w < nI 3
  · simp (disch := first | omega | assumption) only [wp_il1 (y := zX5_ring) dX5_ring_0, wp_iconst (y := zX5_ring) (nI 3) ki_3 dX5_ring_1, wp_icmp_lt (y := zX5_ring) 22 (by decide) dX5_ring_2, h1, if_true]
    exact bad (if_pos (Or.inl h1))
  · by_cases h2 : nI 6 < w
    · simp (disch := first | omega | assumption) only [wp_il1 (y := zX5_ring) dX5_ring_0, wp_iconst (y := zX5_ring) (nI 3) ki_3 dX5_ring_1, wp_icmp_lt (y := zX5_ring) 22 (by decide) dX5_ring_2, wp_il1 (y := zX5_ring) dX5_ring_5, wp_bipush (y := zX5_ring) (nI 6) kb_6 dX5_ring_6, wp_icmp_gt (y := zX5_ring) 22 (by decide) dX5_ring_8, h1, h2, if_true, if_false]
      exact bad (if_pos (Or.inr (Or.inl h2)))
    · by_cases h3 : h < nI 3
      · simp (disch := first | omega | assumption) only [wp_il1 (y := zX5_ring) dX5_ring_0, wp_iconst (y := zX5_ring) (nI 3) ki_3 dX5_ring_1, wp_icmp_lt (y := zX5_ring) 22 (by decide) dX5_ring_2, wp_il1 (y := zX5_ring) dX5_ring_5, wp_bipush (y := zX5_ring) (nI 6) kb_6 dX5_ring_6, wp_icmp_gt (y := zX5_ring) 22 (by decide) dX5_ring_8, wp_il2 (y := zX5_ring) dX5_ring_11, wp_iconst (y := zX5_ring) (nI 3) ki_3 dX5_ring_12, wp_icmp_lt (y := zX5_ring) 22 (by decide) dX5_ring_13, h1, h2, h3, if_true, if_false]
        exact bad (if_pos (Or.inr (Or.inr (Or.inl h3))))
      · by_cases h4 : nI 6 < h
        · have h5 : (h ≤ nI 6) = False := i_nle h4
          simp (disch := first | omega | assumption) only [wp_il1 (y := zX5_ring) dX5_ring_0, wp_iconst (y := zX5_ring) (nI 3) ki_3 dX5_ring_1, wp_icmp_lt (y := zX5_ring) 22 (by decide) dX5_ring_2, wp_il1 (y := zX5_ring) dX5_ring_5, wp_bipush (y := zX5_ring) (nI 6) kb_6 dX5_ring_6, wp_icmp_gt (y := zX5_ring) 22 (by decide) dX5_ring_8, wp_il2 (y := zX5_ring) dX5_ring_11, wp_iconst (y := zX5_ring) (nI 3) ki_3 dX5_ring_12, wp_icmp_lt (y := zX5_ring) 22 (by decide) dX5_ring_13, wp_il2 (y := zX5_ring) dX5_ring_16, wp_bipush (y := zX5_ring) (nI 6) kb_6 dX5_ring_17, wp_icmp_le (y := zX5_ring) 31 (by decide) dX5_ring_19, h1, h2, h3, h5, if_true, if_false]
          exact bad (if_pos (Or.inr (Or.inr (Or.inr h4))))
        · have h5 : (h ≤ nI 6) = True := i_le h4
          have e : a_ring s w h = (w * h, fBg s w.toNatClampNeg h.toNatClampNeg) := if_neg (by
            intro z
            rcases z with z | z | z | z
            · exact h1 z
            · exact h2 z
            · exact h3 z
            · exact h4 z)
          rw [e]
          simp (disch := first | omega | assumption) only [wp_il1 (y := zX5_ring) dX5_ring_0, wp_iconst (y := zX5_ring) (nI 3) ki_3 dX5_ring_1, wp_icmp_lt (y := zX5_ring) 22 (by decide) dX5_ring_2, wp_il1 (y := zX5_ring) dX5_ring_5, wp_bipush (y := zX5_ring) (nI 6) kb_6 dX5_ring_6, wp_icmp_gt (y := zX5_ring) 22 (by decide) dX5_ring_8, wp_il2 (y := zX5_ring) dX5_ring_11, wp_iconst (y := zX5_ring) (nI 3) ki_3 dX5_ring_12, wp_icmp_lt (y := zX5_ring) 22 (by decide) dX5_ring_13, wp_il2 (y := zX5_ring) dX5_ring_16, wp_bipush (y := zX5_ring) (nI 6) kb_6 dX5_ring_17, wp_icmp_le (y := zX5_ring) 31 (by decide) dX5_ring_19, h1, h2, h3, h5, if_true, if_false]
          obtain ⟨a, rfl, a1, a2⟩ := rng (by decide) (by decide) h1 h2
          obtain ⟨c, rfl, c1, c2⟩ := rng (by decide) (by decide) h3 h4
          simp (disch := first | omega | assumption) only [mm_op_some, true_and, and_true, mm_rc_some, mm_rc_none, nI_xor, tw_xor, pk_mul, nI_add, mm_in_t, nI_clamp, ok0, ok1, ok2, ok3, ok4, n1_0, n0_0, n0_zz, n1_zz, bI_eq0, bI_ne0, bI_zz, nI_le_, nI_lt_, nI_eq_, nI_lt0, nI_ge0, nI_gt0, nI_le0, nI_eq0, m1_lt0, m1_ge0, if_true, if_false, not_true, not_false_eq_true, Classical.not_not, true_or, or_true, false_or, n1_1, k10, Bool.true_eq_false, Bool.false_eq_true, Nat.le_refl, and_self, and_false, false_and, or_self, or_false, hf_lt, ce_lt, hf_cl, ce_cl, i_irr, i_rfl, wp_al0 (y := zX5_ring) dX5_ring_31, wp_getf (y := zX5_ring) kF5_10 dX5_ring_32, wp_il1 (y := zX5_ring) dX5_ring_35, wp_il2 (y := zX5_ring) dX5_ring_36, wp_cv2 (y := zX5_ring) kM5_34 (by decide) dX5_ring_37, (show yo zX1_begin = 1 from rfl), X.oc, X.g0, X.g1, X.g2, F.oc, F.g0, F.g1, F.g2, F.g3, F.g4, F.g5, F.g6, F.g7, F.g8, F.g9, F.g10]
          refine cl_mono (c_begin F R a1 a2 c1 c2) ?_
          rintro r μ1 ⟨rfl, R1, _⟩
          simp (disch := first | omega | assumption) only [mm_op_some, true_and, and_true, mm_rc_some, mm_rc_none, nI_xor, tw_xor, pk_mul, nI_add, mm_in_t, nI_clamp, ok0, ok1, ok2, ok3, ok4, n1_0, n0_0, n0_zz, n1_zz, bI_eq0, bI_ne0, bI_zz, nI_le_, nI_lt_, nI_eq_, nI_lt0, nI_ge0, nI_gt0, nI_le0, nI_eq0, m1_lt0, m1_ge0, if_true, if_false, not_true, not_false_eq_true, Classical.not_not, true_or, or_true, false_or, n1_1, k10, Bool.true_eq_false, Bool.false_eq_true, Nat.le_refl, and_self, and_false, false_and, or_self, or_false, hf_lt, ce_lt, hf_cl, ce_cl, i_irr, i_rfl, wp_il1 (y := zX5_ring) dX5_ring_40, wp_il2 (y := zX5_ring) dX5_ring_41, wp_imul (y := zX5_ring) dX5_ring_42, wp_ireti (y := zX5_ring) rfl dX5_ring_43]
          exact ⟨rfl, R1, G.2.2.2.2.2.2.2 a c a1 a2 c1 c2⟩
def a_rate (s : Fo) (r : Int32) : Int32 × Fo := if r < 0 ∨ nI 9 < r then (-1, fRf s 0) else (s.2.2.2 5, (s.1, s.2.1, s.2.2.1, upd s.2.2.2 5 r))
theorem x_rate (X : XSh sh x f p q) (R : RepF s μ f) (hI_ : I s.1) (r : Int32) : cl sh zX5_rate [.ref x, .int r] μ (RT I f (a_rate s r)) := by
  obtain ⟨F, P, W, d1, d2⟩ := X.2
  show wp sh zX5_rate 0 [.ref x, .int r, .null] [] μ _
  have bad : a_rate s r = (-1, fRf s 0) → wp sh zX5_rate 10 [.ref x, .int r, .null] [] μ (RT I f (a_rate s r)) := by
    intro e
    rw [e]
    simp (disch := first | omega | assumption) only [mm_op_some, true_and, and_true, mm_rc_some, mm_rc_none, nI_xor, tw_xor, pk_mul, nI_add, mm_in_t, nI_clamp, ok0, ok1, ok2, ok3, ok4, n1_0, n0_0, n0_zz, n1_zz, bI_eq0, bI_ne0, bI_zz, nI_le_, nI_lt_, nI_eq_, nI_lt0, nI_ge0, nI_gt0, nI_le0, nI_eq0, m1_lt0, m1_ge0, if_true, if_false, not_true, not_false_eq_true, Classical.not_not, true_or, or_true, false_or, n1_1, k10, Bool.true_eq_false, Bool.false_eq_true, Nat.le_refl, and_self, and_false, false_and, or_self, or_false, hf_lt, ce_lt, hf_cl, ce_cl, i_irr, i_rfl, wp_al0 (y := zX5_rate) dX5_rate_10, wp_getf (y := zX5_rate) kF5_10 dX5_rate_11, wp_iconst (y := zX5_rate) ((-1)) ki_m1 dX5_rate_14, wp_cv1 (y := zX5_rate) kM5_38 (by decide) dX5_rate_15, (show yo zX1_refuse = 1 from rfl), X.oc, X.g0, X.g1, X.g2, F.oc, F.g0, F.g1, F.g2, F.g3, F.g4, F.g5, F.g6, F.g7, F.g8, F.g9, F.g10]
    refine cl_mono (c_ref1 F R) ?_
    rintro r μ1 ⟨rfl, R1⟩
    simp (disch := first | omega | assumption) only [mm_op_some, true_and, and_true, mm_rc_some, mm_rc_none, nI_xor, tw_xor, pk_mul, nI_add, mm_in_t, nI_clamp, ok0, ok1, ok2, ok3, ok4, n1_0, n0_0, n0_zz, n1_zz, bI_eq0, bI_ne0, bI_zz, nI_le_, nI_lt_, nI_eq_, nI_lt0, nI_ge0, nI_gt0, nI_le0, nI_eq0, m1_lt0, m1_ge0, if_true, if_false, not_true, not_false_eq_true, Classical.not_not, true_or, or_true, false_or, n1_1, k10, Bool.true_eq_false, Bool.false_eq_true, Nat.le_refl, and_self, and_false, false_and, or_self, or_false, hf_lt, ce_lt, hf_cl, ce_cl, i_irr, i_rfl, wp_ireti (y := zX5_rate) rfl dX5_rate_18]
    exact ⟨rfl, R1, hI_⟩
  by_cases h1 : r < 0
  · simp (disch := first | omega | assumption) only [wp_il1 (y := zX5_rate) dX5_rate_0, wp_if_lt (y := zX5_rate) 10 (by decide) dX5_rate_1, h1, if_true]
    exact bad (if_pos (Or.inl h1))
  · by_cases h2 : nI 9 < r
    · have h5 : (r ≤ nI 9) = False := i_nle h2
      simp (disch := first | omega | assumption) only [wp_il1 (y := zX5_rate) dX5_rate_0, wp_if_lt (y := zX5_rate) 10 (by decide) dX5_rate_1, wp_il1 (y := zX5_rate) dX5_rate_4, wp_bipush (y := zX5_rate) (nI 9) kb_9 dX5_rate_5, wp_icmp_le (y := zX5_rate) 19 (by decide) dX5_rate_7, h1, h5, if_true, if_false]
      exact bad (if_pos (Or.inr h2))
    · have h5 : (r ≤ nI 9) = True := i_le h2
      have e : a_rate s r = (s.2.2.2 5, (s.1, s.2.1, s.2.2.1, upd s.2.2.2 5 r)) := if_neg (fun z => z.elim h1 h2)
      rw [e]
      have r5 := R.2.2.2 5 (by omega) (by omega)
      simp (disch := first | omega | assumption) only [mm_op_some, wp_il1 (y := zX5_rate) dX5_rate_0, wp_if_lt (y := zX5_rate) 10 (by decide) dX5_rate_1, wp_il1 (y := zX5_rate) dX5_rate_4, wp_bipush (y := zX5_rate) (nI 9) kb_9 dX5_rate_5, wp_icmp_le (y := zX5_rate) 19 (by decide) dX5_rate_7, wp_al0 (y := zX5_rate) dX5_rate_19, wp_getf (y := zX5_rate) kF5_10 dX5_rate_20, wp_getf (y := zX5_rate) kF5_42 dX5_rate_23, wp_is2 (y := zX5_rate) dX5_rate_26, wp_al0 (y := zX5_rate) dX5_rate_27, wp_getf (y := zX5_rate) kF5_10 dX5_rate_28, wp_il1 (y := zX5_rate) dX5_rate_31, wp_putf (y := zX5_rate) kF5_42 rfl dX5_rate_32, wp_il2 (y := zX5_rate) dX5_rate_35, wp_ireti (y := zX5_rate) rfl dX5_rate_36, h1, h5, if_true, if_false, X.oc, X.g0, X.g1, X.g2, F.oc, F.g0, F.g1, F.g2, F.g3, F.g4, F.g5, F.g6, F.g7, F.g8, F.g9, F.g10, F.p5, r5]
      exact ⟨rfl, R.fld 5 r, hI_⟩
def a_area (s : Fo) (c v : Int32) : Int32 × Fo := if v < -999 ∨ nI 9999 < v then (-1, fRf s 0) else match ceO s.1 c with
  | none => (-2, fRf s 1)
  | some k => (ar s.1 k, (sAr s.1 k v, s.2))
theorem x_area (X : XSh sh x f p q) (G : GoodX I) (R : RepF s μ f) (hI_ : I s.1) (c v : Int32) : cl sh zX5_area [.ref x, .int c, .int v] μ (RT I f (a_area s c v)) := by
  obtain ⟨F, P, W, d1, d2⟩ := X.2
  have S := F.2.1
  have Soc := S.oc
  have B := (G.1.1 _ hI_).1
  show wp sh zX5_area 0 [.ref x, .int c, .int v, .null] [] μ _
  have bad : a_area s c v = (-1, fRf s 0) → wp sh zX5_area 14 [.ref x, .int c, .int v, .null] [] μ (RT I f (a_area s c v)) := by
    intro e
    rw [e]
    simp (disch := first | omega | assumption) only [mm_op_some, true_and, and_true, mm_rc_some, mm_rc_none, nI_xor, tw_xor, pk_mul, nI_add, mm_in_t, nI_clamp, ok0, ok1, ok2, ok3, ok4, n1_0, n0_0, n0_zz, n1_zz, bI_eq0, bI_ne0, bI_zz, nI_le_, nI_lt_, nI_eq_, nI_lt0, nI_ge0, nI_gt0, nI_le0, nI_eq0, m1_lt0, m1_ge0, if_true, if_false, not_true, not_false_eq_true, Classical.not_not, true_or, or_true, false_or, n1_1, k10, Bool.true_eq_false, Bool.false_eq_true, Nat.le_refl, and_self, and_false, false_and, or_self, or_false, hf_lt, ce_lt, hf_cl, ce_cl, i_irr, i_rfl, wp_al0 (y := zX5_area) dX5_area_14, wp_getf (y := zX5_area) kF5_10 dX5_area_15, wp_iconst (y := zX5_area) ((-1)) ki_m1 dX5_area_18, wp_cv1 (y := zX5_area) kM5_38 (by decide) dX5_area_19, (show yo zX1_refuse = 1 from rfl), X.oc, X.g0, X.g1, X.g2, F.oc, F.g0, F.g1, F.g2, F.g3, F.g4, F.g5, F.g6, F.g7, F.g8, F.g9, F.g10]
    refine cl_mono (c_ref1 F R) ?_
    rintro r μ1 ⟨rfl, R1⟩
    simp (disch := first | omega | assumption) only [mm_op_some, true_and, and_true, mm_rc_some, mm_rc_none, nI_xor, tw_xor, pk_mul, nI_add, mm_in_t, nI_clamp, ok0, ok1, ok2, ok3, ok4, n1_0, n0_0, n0_zz, n1_zz, bI_eq0, bI_ne0, bI_zz, nI_le_, nI_lt_, nI_eq_, nI_lt0, nI_ge0, nI_gt0, nI_le0, nI_eq0, m1_lt0, m1_ge0, if_true, if_false, not_true, not_false_eq_true, Classical.not_not, true_or, or_true, false_or, n1_1, k10, Bool.true_eq_false, Bool.false_eq_true, Nat.le_refl, and_self, and_false, false_and, or_self, or_false, hf_lt, ce_lt, hf_cl, ce_cl, i_irr, i_rfl, wp_ireti (y := zX5_area) rfl dX5_area_22]
    exact ⟨rfl, R1, hI_⟩
  by_cases h1 : v < -999
  · simp (disch := first | omega | assumption) only [wp_il2 (y := zX5_area) dX5_area_0, wp_sipush (y := zX5_area) ((-999)) ks_m999 dX5_area_1, wp_icmp_lt (y := zX5_area) 14 (by decide) dX5_area_4, h1, if_true]
    exact bad (if_pos (Or.inl h1))
  · by_cases h2 : nI 9999 < v
    · have h5 : (v ≤ nI 9999) = False := i_nle h2
      simp (disch := first | omega | assumption) only [wp_il2 (y := zX5_area) dX5_area_0, wp_sipush (y := zX5_area) ((-999)) ks_m999 dX5_area_1, wp_icmp_lt (y := zX5_area) 14 (by decide) dX5_area_4, wp_il2 (y := zX5_area) dX5_area_7, wp_sipush (y := zX5_area) (nI 9999) ks_9999 dX5_area_8, wp_icmp_le (y := zX5_area) 23 (by decide) dX5_area_11, h1, h5, if_true, if_false]
      exact bad (if_pos (Or.inr h2))
    · have h5 : (v ≤ nI 9999) = True := i_le h2
      unfold a_area
      rw [if_neg (fun z => z.elim h1 h2)]
      simp (disch := first | omega | assumption) only [wp_il2 (y := zX5_area) dX5_area_0, wp_sipush (y := zX5_area) ((-999)) ks_m999 dX5_area_1, wp_icmp_lt (y := zX5_area) 14 (by decide) dX5_area_4, wp_il2 (y := zX5_area) dX5_area_7, wp_sipush (y := zX5_area) (nI 9999) ks_9999 dX5_area_8, wp_icmp_le (y := zX5_area) 23 (by decide) dX5_area_11, h1, h5, if_true, if_false]
      cases e : ceO s.1 c with
      | none =>
        have E1 : ∀ Q', cl sh zX2_hasCell [.ref (f + 1), .int c] μ Q' = Q' (some (.int (nI 0))) μ := fun Q' => c_hasCellN S R.1 e
        simp (disch := first | omega | assumption) only [mm_op_some, true_and, and_true, mm_rc_some, mm_rc_none, nI_xor, tw_xor, pk_mul, nI_add, mm_in_t, nI_clamp, ok0, ok1, ok2, ok3, ok4, n1_0, n0_0, n0_zz, n1_zz, bI_eq0, bI_ne0, bI_zz, nI_le_, nI_lt_, nI_eq_, nI_lt0, nI_ge0, nI_gt0, nI_le0, nI_eq0, m1_lt0, m1_ge0, if_true, if_false, not_true, not_false_eq_true, Classical.not_not, true_or, or_true, false_or, n1_1, k10, Bool.true_eq_false, Bool.false_eq_true, Nat.le_refl, and_self, and_false, false_and, or_self, or_false, hf_lt, ce_lt, hf_cl, ce_cl, i_irr, i_rfl, wp_al0 (y := zX5_area) dX5_area_23, wp_getf (y := zX5_area) kF5_10 dX5_area_24, wp_getf (y := zX5_area) kF5_46 dX5_area_27, wp_il1 (y := zX5_area) dX5_area_30, wp_cv1 (y := zX5_area) kM5_50 (by decide) dX5_area_31, (show yo zX2_hasCell = 2 from rfl), wp_if_ne (y := zX5_area) 47 (by decide) dX5_area_34, wp_al0 (y := zX5_area) dX5_area_37, wp_getf (y := zX5_area) kF5_10 dX5_area_38, wp_bipush (y := zX5_area) ((-2)) kb_m2 dX5_area_41, wp_cv1 (y := zX5_area) kM5_38 (by decide) dX5_area_43, (show yo zX1_refuse = 1 from rfl), X.oc, X.g0, X.g1, X.g2, F.oc, F.g0, F.g1, F.g2, F.g3, F.g4, F.g5, F.g6, F.g7, F.g8, F.g9, F.g10, Soc, E1]
        refine cl_mono (c_ref2 F R) ?_
        rintro r μ1 ⟨rfl, R1⟩
        simp (disch := first | omega | assumption) only [mm_op_some, true_and, and_true, mm_rc_some, mm_rc_none, nI_xor, tw_xor, pk_mul, nI_add, mm_in_t, nI_clamp, ok0, ok1, ok2, ok3, ok4, n1_0, n0_0, n0_zz, n1_zz, bI_eq0, bI_ne0, bI_zz, nI_le_, nI_lt_, nI_eq_, nI_lt0, nI_ge0, nI_gt0, nI_le0, nI_eq0, m1_lt0, m1_ge0, if_true, if_false, not_true, not_false_eq_true, Classical.not_not, true_or, or_true, false_or, n1_1, k10, Bool.true_eq_false, Bool.false_eq_true, Nat.le_refl, and_self, and_false, false_and, or_self, or_false, hf_lt, ce_lt, hf_cl, ce_cl, i_irr, i_rfl, wp_ireti (y := zX5_area) rfl dX5_area_46]
        exact ⟨rfl, R1, hI_⟩
      | some k =>
        obtain ⟨rfl, hc⟩ := ceO_some e
        have E1 : ∀ Q', cl sh zX2_hasCell [.ref (f + 1), .int (nI k.val)] μ Q' = Q' (some (.int (nI 1))) μ := fun Q' => c_hasCellS S R.1 B hc
        have ra := R.1.2.2.2.2 k hc
        simp (disch := first | omega | assumption) only [mm_op_some, true_and, and_true, mm_rc_some, mm_rc_none, nI_xor, tw_xor, pk_mul, nI_add, mm_in_t, nI_clamp, ok0, ok1, ok2, ok3, ok4, n1_0, n0_0, n0_zz, n1_zz, bI_eq0, bI_ne0, bI_zz, nI_le_, nI_lt_, nI_eq_, nI_lt0, nI_ge0, nI_gt0, nI_le0, nI_eq0, m1_lt0, m1_ge0, if_true, if_false, not_true, not_false_eq_true, Classical.not_not, true_or, or_true, false_or, n1_1, k10, Bool.true_eq_false, Bool.false_eq_true, Nat.le_refl, and_self, and_false, false_and, or_self, or_false, hf_lt, ce_lt, hf_cl, ce_cl, i_irr, i_rfl, wp_al0 (y := zX5_area) dX5_area_23, wp_getf (y := zX5_area) kF5_10 dX5_area_24, wp_getf (y := zX5_area) kF5_46 dX5_area_27, wp_il1 (y := zX5_area) dX5_area_30, wp_cv1 (y := zX5_area) kM5_50 (by decide) dX5_area_31, (show yo zX2_hasCell = 2 from rfl), wp_if_ne (y := zX5_area) 47 (by decide) dX5_area_34, wp_al0 (y := zX5_area) dX5_area_47, wp_getf (y := zX5_area) kF5_10 dX5_area_48, wp_getf (y := zX5_area) kF5_46 dX5_area_51, wp_getf (y := zX5_area) kF5_56 dX5_area_54, wp_il1 (y := zX5_area) dX5_area_57, wp_iald (y := zX5_area) dX5_area_58, wp_is3 (y := zX5_area) dX5_area_59, wp_al0 (y := zX5_area) dX5_area_60, wp_getf (y := zX5_area) kF5_10 dX5_area_61, wp_getf (y := zX5_area) kF5_46 dX5_area_64, wp_getf (y := zX5_area) kF5_56 dX5_area_67, wp_il1 (y := zX5_area) dX5_area_70, wp_il2 (y := zX5_area) dX5_area_71, wp_iast (y := zX5_area) dX5_area_72, wp_il3 (y := zX5_area) dX5_area_73, wp_ireti (y := zX5_area) rfl dX5_area_74, X.oc, X.g0, X.g1, X.g2, F.oc, F.g0, F.g1, F.g2, F.g3, F.g4, F.g5, F.g6, F.g7, F.g8, F.g9, F.g10, S.oc, S.g0, S.g1, S.g2, S.g3, S.g4, S.g5, S.g6, S.g7, S.a1, S.a2, S.a3, S.a4, S.a5, S.a6, S.a7, S.a8, E1, ra]
        exact ⟨rfl, R.mesh (R.1.wAr k v) ((Fr.refl μ (f + 1)).mu _ (by omega) (by omega)), G.2.2.2.2.2.1 _ _ _ hI_⟩
def a_length (s : Fo) (c v : Int32) : Int32 × Fo := if v < 0 ∨ nI 99 < v then (-1, fRf s 0) else match waO s.1 c with
  | none => (-2, fRf s 1)
  | some k => (ln s.1 k, (sLn s.1 k v, s.2))
theorem x_length (X : XSh sh x f p q) (G : GoodX I) (R : RepF s μ f) (hI_ : I s.1) (c v : Int32) : cl sh zX5_length [.ref x, .int c, .int v] μ (RT I f (a_length s c v)) := by
  obtain ⟨F, P, W, d1, d2⟩ := X.2
  have S := F.2.1
  have Soc := S.oc
  show wp sh zX5_length 0 [.ref x, .int c, .int v, .null] [] μ _
  have bad : a_length s c v = (-1, fRf s 0) → wp sh zX5_length 10 [.ref x, .int c, .int v, .null] [] μ (RT I f (a_length s c v)) := by
    intro e
    rw [e]
    simp (disch := first | omega | assumption) only [mm_op_some, true_and, and_true, mm_rc_some, mm_rc_none, nI_xor, tw_xor, pk_mul, nI_add, mm_in_t, nI_clamp, ok0, ok1, ok2, ok3, ok4, n1_0, n0_0, n0_zz, n1_zz, bI_eq0, bI_ne0, bI_zz, nI_le_, nI_lt_, nI_eq_, nI_lt0, nI_ge0, nI_gt0, nI_le0, nI_eq0, m1_lt0, m1_ge0, if_true, if_false, not_true, not_false_eq_true, Classical.not_not, true_or, or_true, false_or, n1_1, k10, Bool.true_eq_false, Bool.false_eq_true, Nat.le_refl, and_self, and_false, false_and, or_self, or_false, hf_lt, ce_lt, hf_cl, ce_cl, i_irr, i_rfl, wp_al0 (y := zX5_length) dX5_length_10, wp_getf (y := zX5_length) kF5_10 dX5_length_11, wp_iconst (y := zX5_length) ((-1)) ki_m1 dX5_length_14, wp_cv1 (y := zX5_length) kM5_38 (by decide) dX5_length_15, (show yo zX1_refuse = 1 from rfl), X.oc, X.g0, X.g1, X.g2, F.oc, F.g0, F.g1, F.g2, F.g3, F.g4, F.g5, F.g6, F.g7, F.g8, F.g9, F.g10]
    refine cl_mono (c_ref1 F R) ?_
    rintro r μ1 ⟨rfl, R1⟩
    simp (disch := first | omega | assumption) only [mm_op_some, true_and, and_true, mm_rc_some, mm_rc_none, nI_xor, tw_xor, pk_mul, nI_add, mm_in_t, nI_clamp, ok0, ok1, ok2, ok3, ok4, n1_0, n0_0, n0_zz, n1_zz, bI_eq0, bI_ne0, bI_zz, nI_le_, nI_lt_, nI_eq_, nI_lt0, nI_ge0, nI_gt0, nI_le0, nI_eq0, m1_lt0, m1_ge0, if_true, if_false, not_true, not_false_eq_true, Classical.not_not, true_or, or_true, false_or, n1_1, k10, Bool.true_eq_false, Bool.false_eq_true, Nat.le_refl, and_self, and_false, false_and, or_self, or_false, hf_lt, ce_lt, hf_cl, ce_cl, i_irr, i_rfl, wp_ireti (y := zX5_length) rfl dX5_length_18]
    exact ⟨rfl, R1, hI_⟩
  by_cases h1 : v < 0
  · simp (disch := first | omega | assumption) only [wp_il2 (y := zX5_length) dX5_length_0, wp_if_lt (y := zX5_length) 10 (by decide) dX5_length_1, h1, if_true]
    exact bad (if_pos (Or.inl h1))
  · by_cases h2 : nI 99 < v
    · have h5 : (v ≤ nI 99) = False := i_nle h2
      simp (disch := first | omega | assumption) only [wp_il2 (y := zX5_length) dX5_length_0, wp_if_lt (y := zX5_length) 10 (by decide) dX5_length_1, wp_il2 (y := zX5_length) dX5_length_4, wp_bipush (y := zX5_length) (nI 99) kb_99 dX5_length_5, wp_icmp_le (y := zX5_length) 19 (by decide) dX5_length_7, h1, h5, if_true, if_false]
      exact bad (if_pos (Or.inr h2))
    · have h5 : (v ≤ nI 99) = True := i_le h2
      unfold a_length
      rw [if_neg (fun z => z.elim h1 h2)]
      simp (disch := first | omega | assumption) only [wp_il2 (y := zX5_length) dX5_length_0, wp_if_lt (y := zX5_length) 10 (by decide) dX5_length_1, wp_il2 (y := zX5_length) dX5_length_4, wp_bipush (y := zX5_length) (nI 99) kb_99 dX5_length_5, wp_icmp_le (y := zX5_length) 19 (by decide) dX5_length_7, h1, h5, if_true, if_false]
      cases e : waO s.1 c with
      | none =>
        have E1 : ∀ Q', cl sh zX2_hasWall [.ref (f + 1), .int c] μ Q' = Q' (some (.int (nI 0))) μ := fun Q' => c_hasWallN S R.1 e
        simp (disch := first | omega | assumption) only [mm_op_some, true_and, and_true, mm_rc_some, mm_rc_none, nI_xor, tw_xor, pk_mul, nI_add, mm_in_t, nI_clamp, ok0, ok1, ok2, ok3, ok4, n1_0, n0_0, n0_zz, n1_zz, bI_eq0, bI_ne0, bI_zz, nI_le_, nI_lt_, nI_eq_, nI_lt0, nI_ge0, nI_gt0, nI_le0, nI_eq0, m1_lt0, m1_ge0, if_true, if_false, not_true, not_false_eq_true, Classical.not_not, true_or, or_true, false_or, n1_1, k10, Bool.true_eq_false, Bool.false_eq_true, Nat.le_refl, and_self, and_false, false_and, or_self, or_false, hf_lt, ce_lt, hf_cl, ce_cl, i_irr, i_rfl, wp_al0 (y := zX5_length) dX5_length_19, wp_getf (y := zX5_length) kF5_10 dX5_length_20, wp_getf (y := zX5_length) kF5_46 dX5_length_23, wp_il1 (y := zX5_length) dX5_length_26, wp_cv1 (y := zX5_length) kM5_60 (by decide) dX5_length_27, (show yo zX2_hasWall = 2 from rfl), wp_if_ne (y := zX5_length) 43 (by decide) dX5_length_30, wp_al0 (y := zX5_length) dX5_length_33, wp_getf (y := zX5_length) kF5_10 dX5_length_34, wp_bipush (y := zX5_length) ((-2)) kb_m2 dX5_length_37, wp_cv1 (y := zX5_length) kM5_38 (by decide) dX5_length_39, (show yo zX1_refuse = 1 from rfl), X.oc, X.g0, X.g1, X.g2, F.oc, F.g0, F.g1, F.g2, F.g3, F.g4, F.g5, F.g6, F.g7, F.g8, F.g9, F.g10, Soc, E1]
        refine cl_mono (c_ref2 F R) ?_
        rintro r μ1 ⟨rfl, R1⟩
        simp (disch := first | omega | assumption) only [mm_op_some, true_and, and_true, mm_rc_some, mm_rc_none, nI_xor, tw_xor, pk_mul, nI_add, mm_in_t, nI_clamp, ok0, ok1, ok2, ok3, ok4, n1_0, n0_0, n0_zz, n1_zz, bI_eq0, bI_ne0, bI_zz, nI_le_, nI_lt_, nI_eq_, nI_lt0, nI_ge0, nI_gt0, nI_le0, nI_eq0, m1_lt0, m1_ge0, if_true, if_false, not_true, not_false_eq_true, Classical.not_not, true_or, or_true, false_or, n1_1, k10, Bool.true_eq_false, Bool.false_eq_true, Nat.le_refl, and_self, and_false, false_and, or_self, or_false, hf_lt, ce_lt, hf_cl, ce_cl, i_irr, i_rfl, wp_ireti (y := zX5_length) rfl dX5_length_42]
        exact ⟨rfl, R1, hI_⟩
      | some k =>
        obtain ⟨rfl, hc⟩ := waO_some e
        have E1 : ∀ Q', cl sh zX2_hasWall [.ref (f + 1), .int (nI k.val)] μ Q' = Q' (some (.int (nI 1))) μ := fun Q' => c_hasWallS S R.1 hc
        have ra := R.1.2.2.1 k hc
        simp (disch := first | omega | assumption) only [mm_op_some, true_and, and_true, mm_rc_some, mm_rc_none, nI_xor, tw_xor, pk_mul, nI_add, mm_in_t, nI_clamp, ok0, ok1, ok2, ok3, ok4, n1_0, n0_0, n0_zz, n1_zz, bI_eq0, bI_ne0, bI_zz, nI_le_, nI_lt_, nI_eq_, nI_lt0, nI_ge0, nI_gt0, nI_le0, nI_eq0, m1_lt0, m1_ge0, if_true, if_false, not_true, not_false_eq_true, Classical.not_not, true_or, or_true, false_or, n1_1, k10, Bool.true_eq_false, Bool.false_eq_true, Nat.le_refl, and_self, and_false, false_and, or_self, or_false, hf_lt, ce_lt, hf_cl, ce_cl, i_irr, i_rfl, wp_al0 (y := zX5_length) dX5_length_19, wp_getf (y := zX5_length) kF5_10 dX5_length_20, wp_getf (y := zX5_length) kF5_46 dX5_length_23, wp_il1 (y := zX5_length) dX5_length_26, wp_cv1 (y := zX5_length) kM5_60 (by decide) dX5_length_27, (show yo zX2_hasWall = 2 from rfl), wp_if_ne (y := zX5_length) 43 (by decide) dX5_length_30, wp_al0 (y := zX5_length) dX5_length_43, wp_getf (y := zX5_length) kF5_10 dX5_length_44, wp_getf (y := zX5_length) kF5_46 dX5_length_47, wp_getf (y := zX5_length) kF5_63 dX5_length_50, wp_il1 (y := zX5_length) dX5_length_53, wp_iald (y := zX5_length) dX5_length_54, wp_is3 (y := zX5_length) dX5_length_55, wp_al0 (y := zX5_length) dX5_length_56, wp_getf (y := zX5_length) kF5_10 dX5_length_57, wp_getf (y := zX5_length) kF5_46 dX5_length_60, wp_getf (y := zX5_length) kF5_63 dX5_length_63, wp_il1 (y := zX5_length) dX5_length_66, wp_il2 (y := zX5_length) dX5_length_67, wp_iast (y := zX5_length) dX5_length_68, wp_il3 (y := zX5_length) dX5_length_69, wp_ireti (y := zX5_length) rfl dX5_length_70, X.oc, X.g0, X.g1, X.g2, F.oc, F.g0, F.g1, F.g2, F.g3, F.g4, F.g5, F.g6, F.g7, F.g8, F.g9, F.g10, S.oc, S.g0, S.g1, S.g2, S.g3, S.g4, S.g5, S.g6, S.g7, S.a1, S.a2, S.a3, S.a4, S.a5, S.a6, S.a7, S.a8, E1, ra, wa_lt, wa_cl]
        obtain ⟨n, rfl, _, hn⟩ := rng (a := 0) (by decide) (by decide) (by rw [nI_0]; exact h1) h2
        exact ⟨rfl, R.mesh (R.1.wLn k (nI n)) ((Fr.refl μ (f + 1)).mu _ (by omega) (by omega)), G.2.2.2.2.2.2.1 _ _ _ hI_ hn⟩
end X5A
