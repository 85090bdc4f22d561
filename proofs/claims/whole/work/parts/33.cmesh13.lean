/-! ===== RING: the first mesh ===== -/
def tqx (w i : Nat) : Nat := [w + 1, w, w - 1, w - 1, w, w + 1].getD i 0
def tqy (h i : Nat) : Nat := [h, h + 1, h + 1, h, h - 1, h - 1].getD i 0
def nbx (w x i : Nat) : Nat := (x + tqx w i) % w
def nby (h y i : Nat) : Nat := (y + tqy h i) % h
/-- the half of side i of the cell at x, y -/
def hr (w h x y i : Nat) : Nat := if i < 3 then 2 * (3 * (x + w * y) + i) else 2 * (3 * (nbx w x i + w * nby h y i) + i - 3) + 1
def fmI (a n : Int32) : Int32 := if 0 ≤ (a ^^^ n) then a - a / n * n else if a - a / n * n = 0 then a - a / n * n else a - a / n * n + n
def ovI (a s : Int32) : Int32 := if s ≤ a then nI 1 else if a < 0 then -1 else nI 0
def ovx (w x i : Nat) : Int32 := ovI (nI x + mm_toX i) (nI w)
def ovy (h y i : Nat) : Int32 := ovI (nI y + mm_toY i) (nI h)
theorem fm_x : ∀ w : Fin 7, ∀ x : Fin 6, ∀ i : Fin 6, 3 ≤ w.val → x.val < w.val → fmI (nI x.val + mm_toX i.val) (nI w.val) = nI (nbx w.val x.val i.val) := by decide +kernel
theorem fm_y : ∀ w : Fin 7, ∀ x : Fin 6, ∀ i : Fin 6, 3 ≤ w.val → x.val < w.val → fmI (nI x.val + mm_toY i.val) (nI w.val) = nI (nby w.val x.val i.val) := by decide +kernel
theorem nbx_lt {w x i : Nat} (hw : 3 ≤ w) : nbx w x i < w := Nat.mod_lt _ (by omega)
theorem nby_lt {w x i : Nat} (hw : 3 ≤ w) : nby w x i < w := Nat.mod_lt _ (by omega)
theorem xy_lt {w h x y : Nat} (hx : x < w) (hy : y < h) (hw : w ≤ 6) (hh : h ≤ 6) : x + w * y < w * h ∧ w * h ≤ 36 := by
  have h1 : w * (y + 1) ≤ w * h := Nat.mul_le_mul_left w hy
  have h2 : w * h ≤ 6 * 6 := Nat.mul_le_mul hw hh
  rw [Nat.mul_add] at h1
  omega
theorem hr_lt {w h x y i : Nat} (hw : 3 ≤ w) (hw6 : w ≤ 6) (hh : 3 ≤ h) (hh6 : h ≤ 6) (hx : x < w) (hy : y < h) (hi : i < 6) : hr w h x y i < 288 := by
  have e1 := xy_lt hx hy hw6 hh6
  have e2 := xy_lt (nbx_lt (w := w) (x := x) (i := i) hw) (nby_lt (w := h) (x := y) (i := i) hh) hw6 hh6
  unfold hr
  split <;> omega
section CM13
variable {sh : mm_Sh} {b : Nat} {μ : mm_U} {Q : Option Value → mm_U → Prop}
theorem j_floorMod (a n : Int32) (hn : ¬ n = 0) : cl sh zJ9_floorMod_7cf53 [.int a, .int n] μ Q = Q (some (.int (fmI a n))) μ := by
  show wp sh zJ9_floorMod_7cf53 0 [.int a, .int n, .null] [] μ Q = _
  simp (disch := first | omega | assumption) only [wp_il0 (y := zJ9_floorMod_7cf53) dJ9_floorMod_7cf53_0, wp_il1 (y := zJ9_floorMod_7cf53) dJ9_floorMod_7cf53_1, wp_irem' (y := zJ9_floorMod_7cf53) dJ9_floorMod_7cf53_2, wp_is2 (y := zJ9_floorMod_7cf53) dJ9_floorMod_7cf53_3, wp_il0 (y := zJ9_floorMod_7cf53) dJ9_floorMod_7cf53_4, wp_il1 (y := zJ9_floorMod_7cf53) dJ9_floorMod_7cf53_5, wp_ixor (y := zJ9_floorMod_7cf53) dJ9_floorMod_7cf53_6, wp_if_ge (y := zJ9_floorMod_7cf53) 18 (by decide) dJ9_floorMod_7cf53_7, wp_il2 (y := zJ9_floorMod_7cf53) dJ9_floorMod_7cf53_10, wp_if_eq (y := zJ9_floorMod_7cf53) 18 (by decide) dJ9_floorMod_7cf53_11, wp_il2 (y := zJ9_floorMod_7cf53) dJ9_floorMod_7cf53_14, wp_il1 (y := zJ9_floorMod_7cf53) dJ9_floorMod_7cf53_15, wp_iadd (y := zJ9_floorMod_7cf53) dJ9_floorMod_7cf53_16, wp_ireti (y := zJ9_floorMod_7cf53) rfl dJ9_floorMod_7cf53_17, wp_il2 (y := zJ9_floorMod_7cf53) dJ9_floorMod_7cf53_18, wp_ireti (y := zJ9_floorMod_7cf53) rfl dJ9_floorMod_7cf53_19, fmI]
  by_cases h1 : 0 ≤ (a ^^^ n)
  · simp only [h1, if_true]
  · simp only [h1, if_false]
    by_cases h2 : a - a / n * n = 0
    · simp only [h2, if_true]
    · simp only [h2, if_false]
theorem c_over (a s : Int32) : cl sh zX2_over [.int a, .int s] μ Q = Q (some (.int (ovI a s))) μ := by
  show wp sh zX2_over 0 [.int a, .int s] [] μ Q = _
  rw [show ovI a s = if s ≤ a then nI 1 else if a < 0 then -1 else nI 0 from rfl]
  by_cases h1 : s ≤ a
  · have h2 : (a < s) = False := eq_false (fun q => by rw [Int32.le_iff_toInt_le] at h1; rw [Int32.lt_iff_toInt_lt] at q; omega)
    simp (disch := first | omega | assumption) only [wp_il0 (y := zX2_over) dX2_over_0, wp_il1 (y := zX2_over) dX2_over_1, wp_icmp_lt (y := zX2_over) 9 (by decide) dX2_over_2, wp_iconst (y := zX2_over) (nI 1) ki_1 dX2_over_5, wp_goto (y := zX2_over) 18 (by decide) dX2_over_6, wp_il0 (y := zX2_over) dX2_over_9, wp_if_ge (y := zX2_over) 17 (by decide) dX2_over_10, wp_iconst (y := zX2_over) ((-1)) ki_m1 dX2_over_13, wp_goto (y := zX2_over) 18 (by decide) dX2_over_14, wp_iconst (y := zX2_over) (nI 0) ki_0 dX2_over_17, wp_ireti (y := zX2_over) rfl dX2_over_18, mm_op_some, true_and, and_true, mm_rc_some, mm_rc_none, nI_xor, tw_xor, pk_mul, nI_add, mm_in_t, nI_clamp, ok0, ok1, ok2, ok3, ok4, n1_0, n0_0, n0_zz, n1_zz, bI_eq0, bI_ne0, bI_zz, nI_le_, nI_lt_, nI_eq_, nI_lt0, nI_ge0, nI_gt0, nI_le0, nI_eq0, m1_lt0, m1_ge0, if_true, if_false, not_true, not_false_eq_true, Classical.not_not, true_or, or_true, false_or, n1_1, k10, Bool.true_eq_false, Bool.false_eq_true, Nat.le_refl, and_self, and_false, false_and, or_self, or_false, hf_lt, ce_lt, wa_lt, hf_cl, ce_cl, wa_cl, ce_vv, hf_vv, wa_vv, i_irr, i_rfl, h1, h2]
  · have h2 : (a < s) = True := eq_true (by rw [Int32.le_iff_toInt_le] at h1; rw [Int32.lt_iff_toInt_lt]; omega)
    by_cases h3 : a < 0
    · have h4 : (0 ≤ a) = False := eq_false (fun q => by rw [Int32.le_iff_toInt_le] at q; rw [Int32.lt_iff_toInt_lt] at h3; omega)
      simp (disch := first | omega | assumption) only [wp_il0 (y := zX2_over) dX2_over_0, wp_il1 (y := zX2_over) dX2_over_1, wp_icmp_lt (y := zX2_over) 9 (by decide) dX2_over_2, wp_iconst (y := zX2_over) (nI 1) ki_1 dX2_over_5, wp_goto (y := zX2_over) 18 (by decide) dX2_over_6, wp_il0 (y := zX2_over) dX2_over_9, wp_if_ge (y := zX2_over) 17 (by decide) dX2_over_10, wp_iconst (y := zX2_over) ((-1)) ki_m1 dX2_over_13, wp_goto (y := zX2_over) 18 (by decide) dX2_over_14, wp_iconst (y := zX2_over) (nI 0) ki_0 dX2_over_17, wp_ireti (y := zX2_over) rfl dX2_over_18, mm_op_some, true_and, and_true, mm_rc_some, mm_rc_none, nI_xor, tw_xor, pk_mul, nI_add, mm_in_t, nI_clamp, ok0, ok1, ok2, ok3, ok4, n1_0, n0_0, n0_zz, n1_zz, bI_eq0, bI_ne0, bI_zz, nI_le_, nI_lt_, nI_eq_, nI_lt0, nI_ge0, nI_gt0, nI_le0, nI_eq0, m1_lt0, m1_ge0, if_true, if_false, not_true, not_false_eq_true, Classical.not_not, true_or, or_true, false_or, n1_1, k10, Bool.true_eq_false, Bool.false_eq_true, Nat.le_refl, and_self, and_false, false_and, or_self, or_false, hf_lt, ce_lt, wa_lt, hf_cl, ce_cl, wa_cl, ce_vv, hf_vv, wa_vv, i_irr, i_rfl, h1, h2, h3, h4]
    · have h4 : (0 ≤ a) = True := eq_true (by rw [Int32.le_iff_toInt_le]; rw [Int32.lt_iff_toInt_lt] at h3; omega)
      simp (disch := first | omega | assumption) only [wp_il0 (y := zX2_over) dX2_over_0, wp_il1 (y := zX2_over) dX2_over_1, wp_icmp_lt (y := zX2_over) 9 (by decide) dX2_over_2, wp_iconst (y := zX2_over) (nI 1) ki_1 dX2_over_5, wp_goto (y := zX2_over) 18 (by decide) dX2_over_6, wp_il0 (y := zX2_over) dX2_over_9, wp_if_ge (y := zX2_over) 17 (by decide) dX2_over_10, wp_iconst (y := zX2_over) ((-1)) ki_m1 dX2_over_13, wp_goto (y := zX2_over) 18 (by decide) dX2_over_14, wp_iconst (y := zX2_over) (nI 0) ki_0 dX2_over_17, wp_ireti (y := zX2_over) rfl dX2_over_18, mm_op_some, true_and, and_true, mm_rc_some, mm_rc_none, nI_xor, tw_xor, pk_mul, nI_add, mm_in_t, nI_clamp, ok0, ok1, ok2, ok3, ok4, n1_0, n0_0, n0_zz, n1_zz, bI_eq0, bI_ne0, bI_zz, nI_le_, nI_lt_, nI_eq_, nI_lt0, nI_ge0, nI_gt0, nI_le0, nI_eq0, m1_lt0, m1_ge0, if_true, if_false, not_true, not_false_eq_true, Classical.not_not, true_or, or_true, false_or, n1_1, k10, Bool.true_eq_false, Bool.false_eq_true, Nat.le_refl, and_self, and_false, false_and, or_self, or_false, hf_lt, ce_lt, wa_lt, hf_cl, ce_cl, wa_cl, ce_vv, hf_vv, wa_vv, i_irr, i_rfl, h1, h2, h3, h4]
theorem c_halfOnRing {w h x y i : Nat} (hw : 3 ≤ w) (hw6 : w ≤ 6) (hh : 3 ≤ h) (hh6 : h ≤ 6) (hx : x < w) (hy : y < h) (hi : i < 6) : cl sh zX2_halfOnRing [.int (nI x), .int (nI y), .int (nI i), .int (nI w), .int (nI h)] μ Q = Q (some (.int (nI (hr w h x y i)))) μ := by
  have e1 := xy_lt hx hy hw6 hh6
  have e2 := xy_lt (nbx_lt (w := w) (x := x) (i := i) hw) (nby_lt (w := h) (x := y) (i := i) hh) hw6 hh6
  have g1 := fm_x ⟨w, by omega⟩ ⟨x, by omega⟩ ⟨i, hi⟩ hw hx
  have g2 := fm_y ⟨h, by omega⟩ ⟨y, by omega⟩ ⟨i, hi⟩ hh hy
  have z1 : ¬ nI w = 0 := by rw [nI_eq0 (by omega)]; omega
  have z2 : ¬ nI h = 0 := by rw [nI_eq0 (by omega)]; omega
  have E1 : ∀ Q', cl sh zJ9_floorMod_7cf53 [.int (nI x + mm_toX i), .int (nI w)] μ Q' = Q' (some (.int (nI (nbx w x i)))) μ := fun Q' => by rw [j_floorMod _ _ z1, g1]
  have E2 : ∀ Q', cl sh zJ9_floorMod_7cf53 [.int (nI y + mm_toY i), .int (nI h)] μ Q' = Q' (some (.int (nI (nby h y i)))) μ := fun Q' => by rw [j_floorMod _ _ z2, g2]
  show wp sh zX2_halfOnRing 0 [.int (nI x), .int (nI y), .int (nI i), .int (nI w), .int (nI h), .null, .null] [] μ Q = _
  unfold hr
  by_cases h3 : i < 3
  · have h4 : (3 ≤ i) = False := eq_false (by omega)
    simp (disch := first | omega | assumption) only [wp_il2 (y := zX2_halfOnRing) dX2_halfOnRing_0, wp_iconst (y := zX2_halfOnRing) (nI 3) ki_3 dX2_halfOnRing_1, wp_icmp_ge (y := zX2_halfOnRing) 17 (by decide) dX2_halfOnRing_2, wp_iconst (y := zX2_halfOnRing) (nI 2) ki_2 dX2_halfOnRing_5, wp_iconst (y := zX2_halfOnRing) (nI 3) ki_3 dX2_halfOnRing_6, wp_il0 (y := zX2_halfOnRing) dX2_halfOnRing_7, wp_il3 (y := zX2_halfOnRing) dX2_halfOnRing_8, wp_il1 (y := zX2_halfOnRing) dX2_halfOnRing_9, wp_imul (y := zX2_halfOnRing) dX2_halfOnRing_10, wp_iadd (y := zX2_halfOnRing) dX2_halfOnRing_11, wp_imul (y := zX2_halfOnRing) dX2_halfOnRing_12, wp_il2 (y := zX2_halfOnRing) dX2_halfOnRing_13, wp_iadd (y := zX2_halfOnRing) dX2_halfOnRing_14, wp_imul (y := zX2_halfOnRing) dX2_halfOnRing_15, wp_ireti (y := zX2_halfOnRing) rfl dX2_halfOnRing_16, mm_op_some, true_and, and_true, mm_rc_some, mm_rc_none, nI_xor, tw_xor, pk_mul, nI_add, mm_in_t, nI_clamp, ok0, ok1, ok2, ok3, ok4, n1_0, n0_0, n0_zz, n1_zz, bI_eq0, bI_ne0, bI_zz, nI_le_, nI_lt_, nI_eq_, nI_lt0, nI_ge0, nI_gt0, nI_le0, nI_eq0, m1_lt0, m1_ge0, if_true, if_false, not_true, not_false_eq_true, Classical.not_not, true_or, or_true, false_or, n1_1, k10, Bool.true_eq_false, Bool.false_eq_true, Nat.le_refl, and_self, and_false, false_and, or_self, or_false, hf_lt, ce_lt, wa_lt, hf_cl, ce_cl, wa_cl, ce_vv, hf_vv, wa_vv, i_irr, i_rfl, h4, h3]
  · have h4 : (3 ≤ i) = True := eq_true (by omega)
    have p1 : nI (3 * (nbx w x i + w * nby h y i) + i) - nI 3 = nI (3 * (nbx w x i + w * nby h y i) + i - 3) := pk_sub (by omega)
    simp (disch := first | omega | assumption) only [wp_il2 (y := zX2_halfOnRing) dX2_halfOnRing_0, wp_iconst (y := zX2_halfOnRing) (nI 3) ki_3 dX2_halfOnRing_1, wp_icmp_ge (y := zX2_halfOnRing) 17 (by decide) dX2_halfOnRing_2, wp_il0 (y := zX2_halfOnRing) dX2_halfOnRing_17, wp_gets (y := zX2_halfOnRing) kS2_54 (by decide) dX2_halfOnRing_18, wp_il2 (y := zX2_halfOnRing) dX2_halfOnRing_21, wp_iald (y := zX2_halfOnRing) dX2_halfOnRing_22, wp_ialdS0 (y := zX2_halfOnRing) dX2_halfOnRing_22, wp_ialdS1 (y := zX2_halfOnRing) dX2_halfOnRing_22, wp_iadd (y := zX2_halfOnRing) dX2_halfOnRing_23, wp_il3 (y := zX2_halfOnRing) dX2_halfOnRing_24, wp_cs2 (y := zX2_halfOnRing) kM2_68 (by decide) dX2_halfOnRing_25, wp_is5 (y := zX2_halfOnRing) dX2_halfOnRing_28, wp_il1 (y := zX2_halfOnRing) dX2_halfOnRing_30, wp_gets (y := zX2_halfOnRing) kS2_61 (by decide) dX2_halfOnRing_31, wp_il2 (y := zX2_halfOnRing) dX2_halfOnRing_34, wp_iald (y := zX2_halfOnRing) dX2_halfOnRing_35, wp_ialdS0 (y := zX2_halfOnRing) dX2_halfOnRing_35, wp_ialdS1 (y := zX2_halfOnRing) dX2_halfOnRing_35, wp_iadd (y := zX2_halfOnRing) dX2_halfOnRing_36, wp_il4 (y := zX2_halfOnRing) dX2_halfOnRing_37, wp_cs2 (y := zX2_halfOnRing) kM2_68 (by decide) dX2_halfOnRing_39, wp_is6 (y := zX2_halfOnRing) dX2_halfOnRing_42, wp_iconst (y := zX2_halfOnRing) (nI 2) ki_2 dX2_halfOnRing_44, wp_iconst (y := zX2_halfOnRing) (nI 3) ki_3 dX2_halfOnRing_45, wp_il5 (y := zX2_halfOnRing) dX2_halfOnRing_46, wp_il3 (y := zX2_halfOnRing) dX2_halfOnRing_48, wp_il6 (y := zX2_halfOnRing) dX2_halfOnRing_49, wp_imul (y := zX2_halfOnRing) dX2_halfOnRing_51, wp_iadd (y := zX2_halfOnRing) dX2_halfOnRing_52, wp_imul (y := zX2_halfOnRing) dX2_halfOnRing_53, wp_il2 (y := zX2_halfOnRing) dX2_halfOnRing_54, wp_iadd (y := zX2_halfOnRing) dX2_halfOnRing_55, wp_iconst (y := zX2_halfOnRing) (nI 3) ki_3 dX2_halfOnRing_56, wp_isub (y := zX2_halfOnRing) dX2_halfOnRing_57, wp_imul (y := zX2_halfOnRing) dX2_halfOnRing_58, wp_iconst (y := zX2_halfOnRing) (nI 1) ki_1 dX2_halfOnRing_59, wp_iadd (y := zX2_halfOnRing) dX2_halfOnRing_60, wp_ireti (y := zX2_halfOnRing) rfl dX2_halfOnRing_61, mm_op_some, true_and, and_true, mm_rc_some, mm_rc_none, nI_xor, tw_xor, pk_mul, nI_add, mm_in_t, nI_clamp, ok0, ok1, ok2, ok3, ok4, n1_0, n0_0, n0_zz, n1_zz, bI_eq0, bI_ne0, bI_zz, nI_le_, nI_lt_, nI_eq_, nI_lt0, nI_ge0, nI_gt0, nI_le0, nI_eq0, m1_lt0, m1_ge0, if_true, if_false, not_true, not_false_eq_true, Classical.not_not, true_or, or_true, false_or, n1_1, k10, Bool.true_eq_false, Bool.false_eq_true, Nat.le_refl, and_self, and_false, false_and, or_self, or_false, hf_lt, ce_lt, wa_lt, hf_cl, ce_cl, wa_cl, ce_vv, hf_vv, wa_vv, i_irr, i_rfl, h4, h3, E1, E2, p1]
end CM13
/-- the eight arrays of a mesh -/
abbrev Ra : Type := (Nat → Int32) × (Nat → Int32) × (Nat → Int32) × (Nat → Int32) × (Nat → Int32) × (Nat → Int32) × (Nat → Int32) × (Nat → Int32)
def Hd (μ : mm_U) (b : Nat) (A : Ra) : Prop := μ (b + 1) = A.1 ∧ μ (b + 2) = A.2.1 ∧ μ (b + 3) = A.2.2.1 ∧ μ (b + 4) = A.2.2.2.1 ∧ μ (b + 5) = A.2.2.2.2.1 ∧ μ (b + 6) = A.2.2.2.2.2.1 ∧ μ (b + 7) = A.2.2.2.2.2.2.1 ∧ μ (b + 8) = A.2.2.2.2.2.2.2
section CM13B
variable {sh : mm_Sh} {b : Nat} {μ : mm_U} {A : Ra}
theorem Hd.w1 (R : Hd μ b A) (f : Nat → Int32) : Hd (mu μ (b + 1) f) b (f, A.2) := by
  obtain ⟨a1, a2, a3, a4, a5, a6, a7, a8⟩ := R
  refine ⟨?_, ?_, ?_, ?_, ?_, ?_, ?_, ?_⟩ <;> first | exact mu_s _ _ _ | (rw [mu_n _ _ (by omega)]; assumption)
theorem Hd.w2 (R : Hd μ b A) (f : Nat → Int32) : Hd (mu μ (b + 2) f) b (A.1, f, A.2.2) := by
  obtain ⟨a1, a2, a3, a4, a5, a6, a7, a8⟩ := R
  refine ⟨?_, ?_, ?_, ?_, ?_, ?_, ?_, ?_⟩ <;> first | exact mu_s _ _ _ | (rw [mu_n _ _ (by omega)]; assumption)
theorem Hd.w3 (R : Hd μ b A) (f : Nat → Int32) : Hd (mu μ (b + 3) f) b (A.1, A.2.1, f, A.2.2.2) := by
  obtain ⟨a1, a2, a3, a4, a5, a6, a7, a8⟩ := R
  refine ⟨?_, ?_, ?_, ?_, ?_, ?_, ?_, ?_⟩ <;> first | exact mu_s _ _ _ | (rw [mu_n _ _ (by omega)]; assumption)
theorem Hd.w4 (R : Hd μ b A) (f : Nat → Int32) : Hd (mu μ (b + 4) f) b (A.1, A.2.1, A.2.2.1, f, A.2.2.2.2) := by
  obtain ⟨a1, a2, a3, a4, a5, a6, a7, a8⟩ := R
  refine ⟨?_, ?_, ?_, ?_, ?_, ?_, ?_, ?_⟩ <;> first | exact mu_s _ _ _ | (rw [mu_n _ _ (by omega)]; assumption)
theorem Hd.w5 (R : Hd μ b A) (f : Nat → Int32) : Hd (mu μ (b + 5) f) b (A.1, A.2.1, A.2.2.1, A.2.2.2.1, f, A.2.2.2.2.2) := by
  obtain ⟨a1, a2, a3, a4, a5, a6, a7, a8⟩ := R
  refine ⟨?_, ?_, ?_, ?_, ?_, ?_, ?_, ?_⟩ <;> first | exact mu_s _ _ _ | (rw [mu_n _ _ (by omega)]; assumption)
theorem Hd.w6 (R : Hd μ b A) (f : Nat → Int32) : Hd (mu μ (b + 6) f) b (A.1, A.2.1, A.2.2.1, A.2.2.2.1, A.2.2.2.2.1, f, A.2.2.2.2.2.2) := by
  obtain ⟨a1, a2, a3, a4, a5, a6, a7, a8⟩ := R
  refine ⟨?_, ?_, ?_, ?_, ?_, ?_, ?_, ?_⟩ <;> first | exact mu_s _ _ _ | (rw [mu_n _ _ (by omega)]; assumption)
theorem Hd.w7 (R : Hd μ b A) (f : Nat → Int32) : Hd (mu μ (b + 7) f) b (A.1, A.2.1, A.2.2.1, A.2.2.2.1, A.2.2.2.2.1, A.2.2.2.2.2.1, f, A.2.2.2.2.2.2.2) := by
  obtain ⟨a1, a2, a3, a4, a5, a6, a7, a8⟩ := R
  refine ⟨?_, ?_, ?_, ?_, ?_, ?_, ?_, ?_⟩ <;> first | exact mu_s _ _ _ | (rw [mu_n _ _ (by omega)]; assumption)
theorem Hd.w8 (R : Hd μ b A) (f : Nat → Int32) : Hd (mu μ (b + 8) f) b (A.1, A.2.1, A.2.2.1, A.2.2.2.1, A.2.2.2.2.1, A.2.2.2.2.2.1, A.2.2.2.2.2.2.1, f) := by
  obtain ⟨a1, a2, a3, a4, a5, a6, a7, a8⟩ := R
  refine ⟨?_, ?_, ?_, ?_, ?_, ?_, ?_, ?_⟩ <;> first | exact mu_s _ _ _ | (rw [mu_n _ _ (by omega)]; assumption)
theorem r_link (S : MeshSh sh b) (R : Hd μ b A) (a c : Hf) : cl sh zX2_link [.ref b, .int (nI a.val), .int (nI c.val)] μ (fun r μ' => r = none ∧ Hd μ' b (A.1, upd A.2.1 a.val (nI c.val), upd A.2.2.1 c.val (nI a.val), A.2.2.2) ∧ Fr μ μ' b) := by
  show wp sh zX2_link 0 [.ref b, .int (nI a.val), .int (nI c.val)] [] μ _
  simp (disch := first | omega | assumption) only [wp_al0 (y := zX2_link) dX2_link_0, wp_getf (y := zX2_link) kF2_15 dX2_link_1, wp_il1 (y := zX2_link) dX2_link_4, wp_il2 (y := zX2_link) dX2_link_5, wp_iast (y := zX2_link) dX2_link_6, wp_al0 (y := zX2_link) dX2_link_7, wp_getf (y := zX2_link) kF2_18 dX2_link_8, wp_il2 (y := zX2_link) dX2_link_11, wp_il1 (y := zX2_link) dX2_link_12, wp_iast (y := zX2_link) dX2_link_13, wp_vret (y := zX2_link) rfl dX2_link_14, mm_op_some, true_and, and_true, mm_rc_some, mm_rc_none, nI_xor, tw_xor, pk_mul, nI_add, mm_in_t, nI_clamp, ok0, ok1, ok2, ok3, ok4, n1_0, n0_0, n0_zz, n1_zz, bI_eq0, bI_ne0, bI_zz, nI_le_, nI_lt_, nI_eq_, nI_lt0, nI_ge0, nI_gt0, nI_le0, nI_eq0, m1_lt0, m1_ge0, if_true, if_false, not_true, not_false_eq_true, Classical.not_not, true_or, or_true, false_or, n1_1, k10, Bool.true_eq_false, Bool.false_eq_true, Nat.le_refl, and_self, and_false, false_and, or_self, or_false, hf_lt, ce_lt, wa_lt, hf_cl, ce_cl, wa_cl, ce_vv, hf_vv, wa_vv, i_irr, i_rfl, S.oc, S.g0, S.g1, S.g2, S.g3, S.g4, S.g5, S.g6, S.g7, S.a1, S.a2, S.a3, S.a4, S.a5, S.a6, S.a7, S.a8, hf_cl]
  refine ⟨?_, ((Fr.refl μ b).mu _ (by omega) (by omega)).mu _ (by omega) (by omega)⟩
  have R1 := R.w2 (upd (μ (b + 2)) a.val (nI c.val))
  have R2 := R1.w3 (upd (mu μ (b + 2) (upd (μ (b + 2)) a.val (nI c.val)) (b + 3)) c.val (nI a.val))
  rw [R1.2.2.1, R.2.1] at R2
  rw [R.2.1, ← R.2.1] 
  rw [R1.2.2.1]
  rw [R.2.1]
  exact R2
theorem r_setRound (S : MeshSh sh b) (R : Hd μ b A) (h : Hf) (x y : Int32) : cl sh zX2_setRound [.ref b, .int (nI h.val), .int x, .int y] μ (fun r μ' => r = none ∧ Hd μ' b (A.1, A.2.1, A.2.2.1, upd (upd A.2.2.2.1 h.val x) (tw h).val (-x), upd (upd A.2.2.2.2.1 h.val y) (tw h).val (-y), A.2.2.2.2.2) ∧ Fr μ μ' b) := by
  show wp sh zX2_setRound 0 [.ref b, .int (nI h.val), .int x, .int y] [] μ _
  simp (disch := first | omega | assumption) only [wp_al0 (y := zX2_setRound) dX2_setRound_0, wp_getf (y := zX2_setRound) kF2_21 dX2_setRound_1, wp_il1 (y := zX2_setRound) dX2_setRound_4, wp_il2 (y := zX2_setRound) dX2_setRound_5, wp_iast (y := zX2_setRound) dX2_setRound_6, wp_al0 (y := zX2_setRound) dX2_setRound_7, wp_getf (y := zX2_setRound) kF2_24 dX2_setRound_8, wp_il1 (y := zX2_setRound) dX2_setRound_11, wp_il3 (y := zX2_setRound) dX2_setRound_12, wp_iast (y := zX2_setRound) dX2_setRound_13, wp_al0 (y := zX2_setRound) dX2_setRound_14, wp_getf (y := zX2_setRound) kF2_21 dX2_setRound_15, wp_il1 (y := zX2_setRound) dX2_setRound_18, wp_iconst (y := zX2_setRound) (nI 1) ki_1 dX2_setRound_19, wp_ixor (y := zX2_setRound) dX2_setRound_20, wp_il2 (y := zX2_setRound) dX2_setRound_21, wp_ineg (y := zX2_setRound) dX2_setRound_22, wp_iast (y := zX2_setRound) dX2_setRound_23, wp_al0 (y := zX2_setRound) dX2_setRound_24, wp_getf (y := zX2_setRound) kF2_24 dX2_setRound_25, wp_il1 (y := zX2_setRound) dX2_setRound_28, wp_iconst (y := zX2_setRound) (nI 1) ki_1 dX2_setRound_29, wp_ixor (y := zX2_setRound) dX2_setRound_30, wp_il3 (y := zX2_setRound) dX2_setRound_31, wp_ineg (y := zX2_setRound) dX2_setRound_32, wp_iast (y := zX2_setRound) dX2_setRound_33, wp_vret (y := zX2_setRound) rfl dX2_setRound_34, mm_op_some, true_and, and_true, mm_rc_some, mm_rc_none, nI_xor, tw_xor, pk_mul, nI_add, mm_in_t, nI_clamp, ok0, ok1, ok2, ok3, ok4, n1_0, n0_0, n0_zz, n1_zz, bI_eq0, bI_ne0, bI_zz, nI_le_, nI_lt_, nI_eq_, nI_lt0, nI_ge0, nI_gt0, nI_le0, nI_eq0, m1_lt0, m1_ge0, if_true, if_false, not_true, not_false_eq_true, Classical.not_not, true_or, or_true, false_or, n1_1, k10, Bool.true_eq_false, Bool.false_eq_true, Nat.le_refl, and_self, and_false, false_and, or_self, or_false, hf_lt, ce_lt, wa_lt, hf_cl, ce_cl, wa_cl, ce_vv, hf_vv, wa_vv, i_irr, i_rfl, S.oc, S.g0, S.g1, S.g2, S.g3, S.g4, S.g5, S.g6, S.g7, S.a1, S.a2, S.a3, S.a4, S.a5, S.a6, S.a7, S.a8, hf_cl]
  refine ⟨?_, ((((Fr.refl μ b).mu _ (by omega) (by omega)).mu _ (by omega) (by omega)).mu _ (by omega) (by omega)).mu _ (by omega) (by omega)⟩
  have R1 := R.w4 (upd A.2.2.2.1 h.val x)
  have R2 := R1.w5 (upd A.2.2.2.2.1 h.val y)
  have R3 := R2.w4 (upd (upd A.2.2.2.1 h.val x) (tw h).val (-x))
  have R4 := R3.w5 (upd (upd A.2.2.2.2.1 h.val y) (tw h).val (-y))
  rw [R.2.2.2.1, R1.2.2.2.2.1, R2.2.2.2.1, R3.2.2.2.2.1]
  exact R4
end CM13B
