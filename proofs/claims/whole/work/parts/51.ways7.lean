abbrev P3 : Type := Fin 1200
abbrev Sq : Type := (P3 → Option Nat) × List P3
def nr (x : Int32) : Bool := decide (¬ x < -2 ∧ ¬ nI 2 < x)
def c3 (k : P3) : Ce := ⟨k.val / 25, by have := k.isLt; omega⟩
def x3 (k : P3) : Int32 := nI (k.val % 25 / 5) - nI 2
def y3 (k : P3) : Int32 := nI (k.val % 5) - nI 2
def p3 (o : Ce) (x y : Int32) : P3 := ⟨(25 * o.val + 5 * (x + nI 2).toNatClampNeg + (y + nI 2).toNatClampNeg) % 1200, Nat.mod_lt _ (by decide)⟩
theorem nr_nat {x : Int32} (h : nr x = true) : ∃ a, a < 5 ∧ x = nI a - nI 2 ∧ x + nI 2 = nI a ∧ (x + nI 2).toNatClampNeg = a := by
  have h := of_decide_eq_true h
  rw [Int32.lt_iff_toInt_lt, Int32.lt_iff_toInt_lt] at h
  have e1 : (-2 : Int32).toInt = -2 := by decide
  have e2 : (nI 2).toInt = 2 := by decide
  rw [e1, e2] at h
  have hh : x.toInt = -2 ∨ x.toInt = -1 ∨ x.toInt = 0 ∨ x.toInt = 1 ∨ x.toInt = 2 := by omega
  rcases hh with q | q | q | q | q
  · have : x = -2 := Int32.toInt_inj.mp (q.trans (by decide))
    subst this
    exact ⟨0, by decide, by decide, by decide, by decide⟩
  · have : x = -1 := Int32.toInt_inj.mp (q.trans (by decide))
    subst this
    exact ⟨1, by decide, by decide, by decide, by decide⟩
  · have : x = 0 := Int32.toInt_inj.mp (q.trans (by decide))
    subst this
    exact ⟨2, by decide, by decide, by decide, by decide⟩
  · have : x = 1 := Int32.toInt_inj.mp (q.trans (by decide))
    subst this
    exact ⟨3, by decide, by decide, by decide, by decide⟩
  · have : x = 2 := Int32.toInt_inj.mp (q.trans (by decide))
    subst this
    exact ⟨4, by decide, by decide, by decide, by decide⟩
theorem p3_val {o : Ce} {x y : Int32} (hx : nr x = true) (hy : nr y = true) : nI o.val * nI 25 + (x + nI 2) * nI 5 + y + nI 2 = nI (p3 o x y).val ∧ c3 (p3 o x y) = o := by
  obtain ⟨a, a5, _, ea, ca⟩ := nr_nat hx
  obtain ⟨b, b5, _, eb, cb⟩ := nr_nat hy
  have ob := o.isLt
  have e : (p3 o x y).val = o.val * 25 + a * 5 + b := by
    show (25 * o.val + 5 * (x + nI 2).toNatClampNeg + (y + nI 2).toNatClampNeg) % 1200 = _
    rw [ca, cb]
    omega
  constructor
  · rw [e, Int32.add_assoc, eb, ea]
    simp (disch := omega) only [pk_mul, nI_add]
  · apply Fin.ext
    show (p3 o x y).val / 25 = o.val
    rw [e]
    omega
def pu3 (t : Sq) (o : P3) (f : Nat) : Sq := if t.1 o = none then (if t.2.length < 1200 then (fu t.1 o (some f), t.2 ++ [o]) else t) else t
def gv3 (M : Ms) (least : Int32) (k : P3) (h : Hf) (t : Sq) : Sq := if nr (x3 k + rx M h) = true then (if nr (y3 k + ry M h) = true then (if nI (sd M (ow M (tw h))) < least then t else pu3 t (p3 (ow M (tw h)) (x3 k + rx M h) (y3 k + ry M h)) ((t.1 k).getD 0 + 1)) else t) else t
def goR (M : Ms) (least : Int32) (k : P3) (t : Sq) : Sq := it (fun i t => gv3 M least k (nxi M i (hI ((fH M (c3 k)).getD 0))) t) (sd M (c3 k)) 0 t
def bfs3 (M : Ms) (least : Int32) : Nat → Nat → Sq → Sq
  | 0, _, t => t
  | f + 1, k, t => match t.2[k]? with
    | none => t
    | some c => bfs3 M least f (k + 1) (goR M least c t)
def RepQ3 (M : Ms) (t : Sq) (μ : mm_U) (w : Nat) : Prop := (∀ k : P3, μ (w + 2) k.val = fo (t.1 k)) ∧ (∀ c : Ce, μ (w + 4) c.val = stt M c) ∧ μ w 4 = nI t.2.length ∧ (∀ k c, t.2[k]? = some c → μ (w + 3) k = nI c.val) ∧ t.2.length ≤ 1200 ∧ (∀ k j, t.1 k = some j → j < 1200) ∧ (∀ k, k ∈ t.2 → ∃ j, t.1 k = some j ∧ j < t.2.length)
theorem pu3_mem {t : Sq} {o : P3} {f : Nat} {k : P3} (hk : k ∈ t.2) : k ∈ (pu3 t o f).2 := by
  unfold pu3
  split
  · split
    · exact List.mem_append.mpr (Or.inl hk)
    · exact hk
  · exact hk
theorem pu3_pos {M : Ms} {t : Sq} {o : P3} {f : Nat} (ho : 0 < sd M (c3 o)) (hp : ∀ k, k ∈ t.2 → 0 < sd M (c3 k)) : ∀ k, k ∈ (pu3 t o f).2 → 0 < sd M (c3 k) := by
  intro k hk
  unfold pu3 at hk
  split at hk
  · split at hk
    · rcases List.mem_append.mp hk with z | z
      · exact hp k z
      · rw [List.mem_singleton.mp z]; exact ho
    · exact hp k hk
  · exact hp k hk
theorem gv3_mem {M : Ms} {least : Int32} {q : P3} {h : Hf} {t : Sq} {k : P3} (hk : k ∈ t.2) : k ∈ (gv3 M least q h t).2 := by
  unfold gv3
  split
  · split
    · split
      · exact hk
      · exact pu3_mem hk
    · exact hk
  · exact hk
theorem gv3_pos {M : Ms} {least : Int32} {q : P3} {h : Hf} {t : Sq} (ho : 0 < sd M (ow M (tw h))) (hp : ∀ k, k ∈ t.2 → 0 < sd M (c3 k)) : ∀ k, k ∈ (gv3 M least q h t).2 → 0 < sd M (c3 k) := by
  unfold gv3
  split
  · split
    · split
      · exact hp
      · exact pu3_pos (by rw [(p3_val (by assumption) (by assumption)).2]; exact ho) hp
    · exact hp
  · exact hp
section WY7
variable {sh : mm_Sh} {w b : Nat} {μ : mm_U} {M : Ms} {t : Sq} {Q : Option Value → mm_U → Prop}
theorem p3_lt (h : P3) : (mm_in (nI h.val) 1200 = true) = True := mm_in_t h.isLt (by decide)
theorem p3_cl (h : P3) : (nI h.val).toNatClampNeg = h.val := nI_clamp (by omega)
theorem c_spot (o : Ce) (x y : Int32) : cl sh zX4_spot [.int (nI o.val), .int x, .int y] μ Q = Q (some (.int (nI o.val * nI 25 + (x + nI 2) * nI 5 + y + nI 2))) μ := by
  show wp sh zX4_spot 0 [.int (nI o.val), .int x, .int y] [] μ Q = _
  simp (disch := first | omega | assumption) only [wp_il0 (y := zX4_spot) dX4_spot_0, wp_bipush (y := zX4_spot) (nI 25) kb_25 dX4_spot_1, wp_imul (y := zX4_spot) dX4_spot_3, wp_il1 (y := zX4_spot) dX4_spot_4, wp_iconst (y := zX4_spot) (nI 2) ki_2 dX4_spot_5, wp_iadd (y := zX4_spot) dX4_spot_6, wp_iconst (y := zX4_spot) (nI 5) ki_5 dX4_spot_7, wp_imul (y := zX4_spot) dX4_spot_8, wp_iadd (y := zX4_spot) dX4_spot_9, wp_il2 (y := zX4_spot) dX4_spot_10, wp_iadd (y := zX4_spot) dX4_spot_11, wp_iconst (y := zX4_spot) (nI 2) ki_2 dX4_spot_12, wp_iadd (y := zX4_spot) dX4_spot_13, wp_ireti (y := zX4_spot) rfl dX4_spot_14]
theorem c_isNear (x : Int32) : cl sh zX4_isNear [.int x] μ Q = Q (some (.int (bI (nr x)))) μ := by
  show wp sh zX4_isNear 0 [.int x] [] μ Q = _
  unfold nr
  by_cases h1 : x < -2
  · have e : decide (¬ x < -2 ∧ ¬ nI 2 < x) = false := decide_eq_false (fun q => q.1 h1)
    rw [e]
    simp (disch := first | omega | assumption) only [mm_op_some, true_and, and_true, mm_rc_some, mm_rc_none, nI_xor, tw_xor, pk_mul, nI_add, mm_in_t, nI_clamp, ok0, ok1, ok2, ok3, ok4, n1_0, n0_0, n0_zz, n1_zz, bI_eq0, bI_ne0, bI_zz, nI_le_, nI_lt_, nI_eq_, nI_lt0, nI_ge0, nI_gt0, nI_le0, nI_eq0, m1_lt0, m1_ge0, if_true, if_false, not_true, not_false_eq_true, Classical.not_not, true_or, or_true, false_or, n1_1, k10, Bool.true_eq_false, Bool.false_eq_true, Nat.le_refl, and_self, and_false, false_and, or_self, or_false, hf_lt, ce_lt, hf_cl, ce_cl, i_irr, i_rfl, wp_il0 (y := zX4_isNear) dX4_isNear_0, wp_bipush (y := zX4_isNear) ((-2)) kb_m2 dX4_isNear_1, wp_icmp_lt (y := zX4_isNear) 15 (by decide) dX4_isNear_3, wp_il0 (y := zX4_isNear) dX4_isNear_6, wp_iconst (y := zX4_isNear) (nI 2) ki_2 dX4_isNear_7, wp_icmp_gt (y := zX4_isNear) 15 (by decide) dX4_isNear_8, wp_iconst (y := zX4_isNear) (nI 1) ki_1 dX4_isNear_11, wp_goto (y := zX4_isNear) 16 (by decide) dX4_isNear_12, wp_iconst (y := zX4_isNear) (nI 0) ki_0 dX4_isNear_15, wp_iretz (y := zX4_isNear) rfl dX4_isNear_16, h1]
    rfl
  · by_cases h2 : nI 2 < x
    · have e : decide (¬ x < -2 ∧ ¬ nI 2 < x) = false := decide_eq_false (fun q => q.2 h2)
      rw [e]
      simp (disch := first | omega | assumption) only [mm_op_some, true_and, and_true, mm_rc_some, mm_rc_none, nI_xor, tw_xor, pk_mul, nI_add, mm_in_t, nI_clamp, ok0, ok1, ok2, ok3, ok4, n1_0, n0_0, n0_zz, n1_zz, bI_eq0, bI_ne0, bI_zz, nI_le_, nI_lt_, nI_eq_, nI_lt0, nI_ge0, nI_gt0, nI_le0, nI_eq0, m1_lt0, m1_ge0, if_true, if_false, not_true, not_false_eq_true, Classical.not_not, true_or, or_true, false_or, n1_1, k10, Bool.true_eq_false, Bool.false_eq_true, Nat.le_refl, and_self, and_false, false_and, or_self, or_false, hf_lt, ce_lt, hf_cl, ce_cl, i_irr, i_rfl, wp_il0 (y := zX4_isNear) dX4_isNear_0, wp_bipush (y := zX4_isNear) ((-2)) kb_m2 dX4_isNear_1, wp_icmp_lt (y := zX4_isNear) 15 (by decide) dX4_isNear_3, wp_il0 (y := zX4_isNear) dX4_isNear_6, wp_iconst (y := zX4_isNear) (nI 2) ki_2 dX4_isNear_7, wp_icmp_gt (y := zX4_isNear) 15 (by decide) dX4_isNear_8, wp_iconst (y := zX4_isNear) (nI 1) ki_1 dX4_isNear_11, wp_goto (y := zX4_isNear) 16 (by decide) dX4_isNear_12, wp_iconst (y := zX4_isNear) (nI 0) ki_0 dX4_isNear_15, wp_iretz (y := zX4_isNear) rfl dX4_isNear_16, h1, h2]
      rfl
    · have e : decide (¬ x < -2 ∧ ¬ nI 2 < x) = true := decide_eq_true ⟨h1, h2⟩
      rw [e]
      simp (disch := first | omega | assumption) only [mm_op_some, true_and, and_true, mm_rc_some, mm_rc_none, nI_xor, tw_xor, pk_mul, nI_add, mm_in_t, nI_clamp, ok0, ok1, ok2, ok3, ok4, n1_0, n0_0, n0_zz, n1_zz, bI_eq0, bI_ne0, bI_zz, nI_le_, nI_lt_, nI_eq_, nI_lt0, nI_ge0, nI_gt0, nI_le0, nI_eq0, m1_lt0, m1_ge0, if_true, if_false, not_true, not_false_eq_true, Classical.not_not, true_or, or_true, false_or, n1_1, k10, Bool.true_eq_false, Bool.false_eq_true, Nat.le_refl, and_self, and_false, false_and, or_self, or_false, hf_lt, ce_lt, hf_cl, ce_cl, i_irr, i_rfl, wp_il0 (y := zX4_isNear) dX4_isNear_0, wp_bipush (y := zX4_isNear) ((-2)) kb_m2 dX4_isNear_1, wp_icmp_lt (y := zX4_isNear) 15 (by decide) dX4_isNear_3, wp_il0 (y := zX4_isNear) dX4_isNear_6, wp_iconst (y := zX4_isNear) (nI 2) ki_2 dX4_isNear_7, wp_icmp_gt (y := zX4_isNear) 15 (by decide) dX4_isNear_8, wp_iconst (y := zX4_isNear) (nI 1) ki_1 dX4_isNear_11, wp_goto (y := zX4_isNear) 16 (by decide) dX4_isNear_12, wp_iconst (y := zX4_isNear) (nI 0) ki_0 dX4_isNear_15, wp_iretz (y := zX4_isNear) rfl dX4_isNear_16, h1, h2]
      rfl
theorem c_put (W : WaSh sh w) (R : RepQ3 M t μ w) (o : P3) (f : Nat) (hf : f ≤ t.2.length) : cl sh zX4_put [.ref w, .int (nI o.val), .int (nI f)] μ (fun r μ' => r = none ∧ RepQ3 M (pu3 t o f) μ' w ∧ FrX μ μ' w) := by
  obtain ⟨r1, r2, r3, r4, i1, i2, i3⟩ := R
  have rd := r1 o
  have ob := o.isLt
  have eg := fo_ge0 (t.1 o) (fun j hj => by have := i2 o j hj; omega)
  show wp sh zX4_put 0 [.ref w, .int (nI o.val), .int (nI f)] [] μ _
  unfold pu3
  by_cases h1 : t.1 o = none
  · rw [if_pos h1]
    have eg' : (0 ≤ fo (t.1 o)) = False := by rw [eg]; exact eq_false (fun q => q h1)
    by_cases h3 : t.2.length < 1200
    · rw [if_pos h3]
      have h4 : (1200 ≤ t.2.length) = False := eq_false (by omega)
      have n1 : w ≠ w + 3 := by omega
      have n2 : w ≠ w + 2 := by omega
      have n3 : w + 3 ≠ w + 2 := by omega
      simp (disch := first | omega | assumption) only [mm_op_some, true_and, and_true, mm_rc_some, mm_rc_none, nI_xor, tw_xor, pk_mul, nI_add, mm_in_t, nI_clamp, ok0, ok1, ok2, ok3, ok4, n1_0, n0_0, n0_zz, n1_zz, bI_eq0, bI_ne0, bI_zz, nI_le_, nI_lt_, nI_eq_, nI_lt0, nI_ge0, nI_gt0, nI_le0, nI_eq0, m1_lt0, m1_ge0, if_true, if_false, not_true, not_false_eq_true, Classical.not_not, true_or, or_true, false_or, n1_1, k10, Bool.true_eq_false, Bool.false_eq_true, Nat.le_refl, and_self, and_false, false_and, or_self, or_false, hf_lt, ce_lt, hf_cl, ce_cl, i_irr, i_rfl, wp_al0 (y := zX4_put) dX4_put_0, wp_getf (y := zX4_put) kF4_15 dX4_put_1, wp_il1 (y := zX4_put) dX4_put_4, wp_iald (y := zX4_put) dX4_put_5, wp_if_ge (y := zX4_put) 46 (by decide) dX4_put_6, wp_al0 (y := zX4_put) dX4_put_9, wp_getf (y := zX4_put) kF4_42 dX4_put_10, wp_sipush (y := zX4_put) (nI 1200) ks_1200 dX4_put_13, wp_icmp_ge (y := zX4_put) 46 (by decide) dX4_put_16, wp_al0 (y := zX4_put) dX4_put_19, wp_getf (y := zX4_put) kF4_15 dX4_put_20, wp_il1 (y := zX4_put) dX4_put_23, wp_il2 (y := zX4_put) dX4_put_24, wp_iast (y := zX4_put) dX4_put_25, wp_al0 (y := zX4_put) dX4_put_26, wp_getf (y := zX4_put) kF4_18 dX4_put_27, wp_al0 (y := zX4_put) dX4_put_30, wp_getf (y := zX4_put) kF4_42 dX4_put_31, wp_il1 (y := zX4_put) dX4_put_34, wp_iast (y := zX4_put) dX4_put_35, wp_al0 (y := zX4_put) dX4_put_36, wp_dup_int (y := zX4_put) dX4_put_37, wp_dup_ref (y := zX4_put) dX4_put_37, wp_getf (y := zX4_put) kF4_42 dX4_put_38, wp_iconst (y := zX4_put) (nI 1) ki_1 dX4_put_41, wp_iadd (y := zX4_put) dX4_put_42, wp_putf (y := zX4_put) kF4_42 rfl dX4_put_43, wp_vret (y := zX4_put) rfl dX4_put_46, W.oc, W.g0, W.g1, W.g2, W.g3, W.g4, W.p4, W.a1, W.a2, W.a3, W.a4, rd, eg', p3_lt, p3_cl, r3, h4, mu_n, mu_s]
      refine ⟨⟨fun k => ?_, fun c => ?_, ?_, fun k c hk => ?_, ?_, fun c x hx => ?_, fun c hc => ?_⟩, FrX_mu4 (((FrX.refl μ w).mu _ (by omega) (by omega)).mu _ (by omega) (by omega)) _ _ (fun k hk => by simp (disch := omega) only [mu_n])⟩
      · simp (disch := omega) only [mu_n, mu_s]
        rw [upd_fin]
        show _ = fo (fu t.1 o (some f) k)
        unfold fu
        split
        · rfl
        · exact r1 k
      · simp (disch := omega) only [mu_n, mu_s]
        exact r2 c
      · rw [mu_s, upd_s, List.length_append]
        rfl
      · simp (disch := omega) only [mu_n, mu_s]
        by_cases z : k < t.2.length
        · rw [List.getElem?_append_left z] at hk
          rw [upd_n _ _ (by omega)]
          exact r4 k c hk
        · have hk' := (List.getElem?_eq_some_iff.mp hk).1
          rw [List.length_append] at hk'
          have zz : k = t.2.length := by
            have : ([o] : List P3).length = 1 := rfl
            omega
          subst zz
          rw [List.getElem?_append_right (Nat.le_refl _), Nat.sub_self] at hk
          cases hk
          exact upd_s _ _ _
      · rw [List.length_append]
        have : ([o] : List P3).length = 1 := rfl
        omega
      · have hx : fu t.1 o (some f) c = some x := hx
        by_cases z : c = o
        · rw [z, fu_s] at hx
          cases hx
          omega
        · rw [fu_n _ _ z] at hx
          exact i2 c x hx
      · have hlen : (t.2 ++ [o]).length = t.2.length + 1 := List.length_append
        rw [hlen]
        show ∃ x, fu t.1 o (some f) c = some x ∧ _
        rcases List.mem_append.mp hc with z | z
        · obtain ⟨x, x1, x2⟩ := i3 c z
          have ne : c ≠ o := fun q => by rw [q, h1] at x1; cases x1
          exact ⟨x, by rw [fu_n _ _ ne]; exact x1, by omega⟩
        · have : c = o := List.mem_singleton.mp z
          rw [this]
          exact ⟨f, fu_s _ _ _, by omega⟩
    · rw [if_neg h3]
      have h4 : (1200 ≤ t.2.length) = True := eq_true (by omega)
      simp (disch := first | omega | assumption) only [mm_op_some, true_and, and_true, mm_rc_some, mm_rc_none, nI_xor, tw_xor, pk_mul, nI_add, mm_in_t, nI_clamp, ok0, ok1, ok2, ok3, ok4, n1_0, n0_0, n0_zz, n1_zz, bI_eq0, bI_ne0, bI_zz, nI_le_, nI_lt_, nI_eq_, nI_lt0, nI_ge0, nI_gt0, nI_le0, nI_eq0, m1_lt0, m1_ge0, if_true, if_false, not_true, not_false_eq_true, Classical.not_not, true_or, or_true, false_or, n1_1, k10, Bool.true_eq_false, Bool.false_eq_true, Nat.le_refl, and_self, and_false, false_and, or_self, or_false, hf_lt, ce_lt, hf_cl, ce_cl, i_irr, i_rfl, wp_al0 (y := zX4_put) dX4_put_0, wp_getf (y := zX4_put) kF4_15 dX4_put_1, wp_il1 (y := zX4_put) dX4_put_4, wp_iald (y := zX4_put) dX4_put_5, wp_if_ge (y := zX4_put) 46 (by decide) dX4_put_6, wp_al0 (y := zX4_put) dX4_put_9, wp_getf (y := zX4_put) kF4_42 dX4_put_10, wp_sipush (y := zX4_put) (nI 1200) ks_1200 dX4_put_13, wp_icmp_ge (y := zX4_put) 46 (by decide) dX4_put_16, wp_vret (y := zX4_put) rfl dX4_put_46, W.oc, W.g0, W.g1, W.g2, W.g3, W.g4, W.p4, W.a1, W.a2, W.a3, W.a4, rd, eg', p3_lt, p3_cl, r3, h4]
      exact ⟨⟨r1, r2, r3, r4, i1, i2, i3⟩, FrX.refl _ _⟩
  · rw [if_neg h1]
    have eg' : (0 ≤ fo (t.1 o)) = True := by rw [eg]; exact eq_true h1
    simp (disch := first | omega | assumption) only [mm_op_some, true_and, and_true, mm_rc_some, mm_rc_none, nI_xor, tw_xor, pk_mul, nI_add, mm_in_t, nI_clamp, ok0, ok1, ok2, ok3, ok4, n1_0, n0_0, n0_zz, n1_zz, bI_eq0, bI_ne0, bI_zz, nI_le_, nI_lt_, nI_eq_, nI_lt0, nI_ge0, nI_gt0, nI_le0, nI_eq0, m1_lt0, m1_ge0, if_true, if_false, not_true, not_false_eq_true, Classical.not_not, true_or, or_true, false_or, n1_1, k10, Bool.true_eq_false, Bool.false_eq_true, Nat.le_refl, and_self, and_false, false_and, or_self, or_false, hf_lt, ce_lt, hf_cl, ce_cl, i_irr, i_rfl, wp_al0 (y := zX4_put) dX4_put_0, wp_getf (y := zX4_put) kF4_15 dX4_put_1, wp_il1 (y := zX4_put) dX4_put_4, wp_iald (y := zX4_put) dX4_put_5, wp_if_ge (y := zX4_put) 46 (by decide) dX4_put_6, wp_vret (y := zX4_put) rfl dX4_put_46, W.oc, W.g0, W.g1, W.g2, W.g3, W.g4, W.p4, W.a1, W.a2, W.a3, W.a4, rd, eg', p3_lt, p3_cl]
    exact ⟨⟨r1, r2, r3, r4, i1, i2, i3⟩, FrX.refl _ _⟩
end WY7
