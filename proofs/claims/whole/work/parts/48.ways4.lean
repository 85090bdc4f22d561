/-- a half that is there is a cell's that is there -/
def OwL (M : Ms) : Prop := ∀ h : Hf, lv M (wl h) = true → 0 < sd M (ow M h)
theorem vis_pos {M : Ms} {least : Int32} {cell other : Ce} {t : Sp} (ho : 0 < sd M other) (hp : ∀ c, c ∈ t.2 → 0 < sd M c) : ∀ c, c ∈ (vis M least cell other t).2 → 0 < sd M c := by
  intro c hc
  unfold vis at hc
  split at hc
  · split at hc
    · exact hp c hc
    · split at hc
      · rcases List.mem_append.mp hc with z | z
        · exact hp c z
        · rw [List.mem_singleton.mp z]; exact ho
      · exact hp c hc
  · exact hp c hc
theorem prc_pos {M : Ms} (L : LvN M) (O : OwL M) {least : Int32} {cell : Ce} (h : Hf) (hl : lv M (wl h) = true) {t : Sp} (hp : ∀ c, c ∈ t.2 → 0 < sd M c) (n : Nat) : ∀ c, c ∈ (it (fun i t => vis M least cell (ow M (tw (nxi M i h))) t) n 0 t).2 → 0 < sd M c := by
  refine it_ind (fun i t => vis M least cell (ow M (tw (nxi M i h))) t) n (fun _ t => ∀ c, c ∈ t.2 → 0 < sd M c) ?_ t hp
  intro i a _ ha
  exact vis_pos (O _ (by rw [wl_tw]; exact nxi_lv L i h hl)) ha
section WY4
variable {sh : mm_Sh} {w b : Nat} {μ : mm_U} {M : Ms} {Q : Option Value → mm_U → Prop}
theorem sw_outer (W : WaSh sh w) (S : MeshSh sh b) (R : RepC M μ b) (B : SdB M) (L : LvN M) (H : HasF M) (O : OwL M) (hd : w + 4 < b ∨ b + 8 < w) (least : Int32) (v2 : Value) : ∀ (f k : Nat) (t : Sp) (μ1 : mm_U) (v5 v6 v7 v8 : Value), k + f = 48 → RepQ M t μ1 w → FrX μ μ1 w → (∀ c, c ∈ t.2 → 0 < sd M c) → wp sh zX4_spreadWithin 22 [.ref w, .ref b, v2, .int least, .int (nI k), v5, v6, v7, v8] [] μ1 (fun r μ' => r = some (.int (nI (bfs M least f k t).2.length)) ∧ RepQ M (bfs M least f k t) μ' w ∧ FrX μ μ' w) := by
  intro f
  induction f with
  | zero =>
    intro k t μ1 v5 v6 v7 v8 hk R1 F1 hp
    have l48 := R1.2.2.2.1
    have rq := R1.2.1
    have h9 : (t.2.length ≤ k) = True := eq_true (by omega)
    rw [wp_il4 (y := zX4_spreadWithin) dX4_spreadWithin_22]
    simp (disch := first | omega | assumption) only [mm_op_some, true_and, and_true, mm_rc_some, mm_rc_none, nI_xor, tw_xor, pk_mul, nI_add, mm_in_t, nI_clamp, ok0, ok1, ok2, ok3, ok4, n1_0, n0_0, n0_zz, n1_zz, bI_eq0, bI_ne0, bI_zz, nI_le_, nI_lt_, nI_eq_, nI_lt0, nI_ge0, nI_gt0, nI_le0, nI_eq0, m1_lt0, m1_ge0, if_true, if_false, not_true, not_false_eq_true, Classical.not_not, true_or, or_true, false_or, n1_1, k10, Bool.true_eq_false, Bool.false_eq_true, Nat.le_refl, and_self, and_false, false_and, or_self, or_false, hf_lt, ce_lt, hf_cl, ce_cl, i_irr, i_rfl, wp_al0 (y := zX4_spreadWithin) dX4_spreadWithin_24, wp_getf (y := zX4_spreadWithin) kF4_42 dX4_spreadWithin_25, wp_icmp_ge (y := zX4_spreadWithin) 172 (by decide) dX4_spreadWithin_28, wp_al0 (y := zX4_spreadWithin) dX4_spreadWithin_172, wp_getf (y := zX4_spreadWithin) kF4_42 dX4_spreadWithin_173, wp_ireti (y := zX4_spreadWithin) rfl dX4_spreadWithin_176, W.oc, W.g0, W.g1, W.g2, W.g3, W.g4, W.p4, W.a1, W.a2, W.a3, W.a4, rq, h9]
    exact ⟨rfl, R1, F1⟩
  | succ f ih =>
    intro k t μ1 v5 v6 v7 v8 hk R1 F1 hp
    have l48 := R1.2.2.2.1
    have rq := R1.2.1
    cases e : t.2[k]? with
    | none =>
      have hle := List.getElem?_eq_none_iff.mp e
      have h9 : (t.2.length ≤ k) = True := eq_true (by omega)
      have eb : bfs M least (f + 1) k t = t := by unfold bfs; rw [e]
      rw [eb, wp_il4 (y := zX4_spreadWithin) dX4_spreadWithin_22]
      simp (disch := first | omega | assumption) only [mm_op_some, true_and, and_true, mm_rc_some, mm_rc_none, nI_xor, tw_xor, pk_mul, nI_add, mm_in_t, nI_clamp, ok0, ok1, ok2, ok3, ok4, n1_0, n0_0, n0_zz, n1_zz, bI_eq0, bI_ne0, bI_zz, nI_le_, nI_lt_, nI_eq_, nI_lt0, nI_ge0, nI_gt0, nI_le0, nI_eq0, m1_lt0, m1_ge0, if_true, if_false, not_true, not_false_eq_true, Classical.not_not, true_or, or_true, false_or, n1_1, k10, Bool.true_eq_false, Bool.false_eq_true, Nat.le_refl, and_self, and_false, false_and, or_self, or_false, hf_lt, ce_lt, hf_cl, ce_cl, i_irr, i_rfl, wp_al0 (y := zX4_spreadWithin) dX4_spreadWithin_24, wp_getf (y := zX4_spreadWithin) kF4_42 dX4_spreadWithin_25, wp_icmp_ge (y := zX4_spreadWithin) 172 (by decide) dX4_spreadWithin_28, wp_al0 (y := zX4_spreadWithin) dX4_spreadWithin_172, wp_getf (y := zX4_spreadWithin) kF4_42 dX4_spreadWithin_173, wp_ireti (y := zX4_spreadWithin) rfl dX4_spreadWithin_176, W.oc, W.g0, W.g1, W.g2, W.g3, W.g4, W.p4, W.a1, W.a2, W.a3, W.a4, rq, h9]
      exact ⟨R1, F1⟩
    | some c =>
      have hlt := (List.getElem?_eq_some_iff.mp e).1
      have h9 : (t.2.length ≤ k) = False := eq_false (by omega)
      have h8 : (48 ≤ k) = False := eq_false (by omega)
      have hm : c ∈ t.2 := List.mem_of_getElem? e
      have eb : bfs M least (f + 1) k t = bfs M least f (k + 1) (prc M least c t) := by
        show (match t.2[k]? with
          | none => t
          | some c => bfs M least f (k + 1) (prc M least c t)) = _
        rw [e]
      obtain ⟨h, fh, hl⟩ := H c (hp c hm)
      have r3 := R1.2.2.1 k c e
      have r4 := R1.1.2 c
      rw [show stt M c = nI h.val by unfold stt; rw [if_pos (hp c hm), fh]; rfl] at r4
      have ep : prc M least c t = it (fun i t => vis M least c (ow M (tw (nxi M i h))) t) (sd M c) 0 t := by
        unfold prc
        rw [fh]
        show it (fun i t => vis M least c (ow M (tw (nxi M i (hI h.val)))) t) (sd M c) 0 t = _
        rw [hI_val]
      rw [eb, ep, wp_il4 (y := zX4_spreadWithin) dX4_spreadWithin_22]
      simp (disch := first | omega | assumption) only [mm_op_some, true_and, and_true, mm_rc_some, mm_rc_none, nI_xor, tw_xor, pk_mul, nI_add, mm_in_t, nI_clamp, ok0, ok1, ok2, ok3, ok4, n1_0, n0_0, n0_zz, n1_zz, bI_eq0, bI_ne0, bI_zz, nI_le_, nI_lt_, nI_eq_, nI_lt0, nI_ge0, nI_gt0, nI_le0, nI_eq0, m1_lt0, m1_ge0, if_true, if_false, not_true, not_false_eq_true, Classical.not_not, true_or, or_true, false_or, n1_1, k10, Bool.true_eq_false, Bool.false_eq_true, Nat.le_refl, and_self, and_false, false_and, or_self, or_false, hf_lt, ce_lt, hf_cl, ce_cl, i_irr, i_rfl, wp_al0 (y := zX4_spreadWithin) dX4_spreadWithin_24, wp_getf (y := zX4_spreadWithin) kF4_42 dX4_spreadWithin_25, wp_icmp_ge (y := zX4_spreadWithin) 172 (by decide) dX4_spreadWithin_28, wp_il4 (y := zX4_spreadWithin) dX4_spreadWithin_31, wp_bipush (y := zX4_spreadWithin) (nI 48) kb_48 dX4_spreadWithin_33, wp_icmp_ge (y := zX4_spreadWithin) 172 (by decide) dX4_spreadWithin_35, wp_al0 (y := zX4_spreadWithin) dX4_spreadWithin_38, wp_getf (y := zX4_spreadWithin) kF4_18 dX4_spreadWithin_39, wp_il4 (y := zX4_spreadWithin) dX4_spreadWithin_42, wp_iald (y := zX4_spreadWithin) dX4_spreadWithin_44, wp_is5 (y := zX4_spreadWithin) dX4_spreadWithin_45, wp_al0 (y := zX4_spreadWithin) dX4_spreadWithin_47, wp_getf (y := zX4_spreadWithin) kF4_21 dX4_spreadWithin_48, wp_il5 (y := zX4_spreadWithin) dX4_spreadWithin_51, wp_iald (y := zX4_spreadWithin) dX4_spreadWithin_53, wp_is6 (y := zX4_spreadWithin) dX4_spreadWithin_54, wp_iconst (y := zX4_spreadWithin) (nI 0) ki_0 dX4_spreadWithin_56, wp_is7 (y := zX4_spreadWithin) dX4_spreadWithin_57, W.oc, W.g0, W.g1, W.g2, W.g3, W.g4, W.p4, W.a1, W.a2, W.a3, W.a4, rq, h9, h8, r3, r4]
      refine sw_inner W S R B L hd least c h hl k v2 v8 t μ1 hm R1 F1 ?_
      intro μ2 v6 v7 v8 R2 F2
      simp (disch := first | omega | assumption) only [mm_op_some, true_and, and_true, mm_rc_some, mm_rc_none, nI_xor, tw_xor, pk_mul, nI_add, mm_in_t, nI_clamp, ok0, ok1, ok2, ok3, ok4, n1_0, n0_0, n0_zz, n1_zz, bI_eq0, bI_ne0, bI_zz, nI_le_, nI_lt_, nI_eq_, nI_lt0, nI_ge0, nI_gt0, nI_le0, nI_eq0, m1_lt0, m1_ge0, if_true, if_false, not_true, not_false_eq_true, Classical.not_not, true_or, or_true, false_or, n1_1, k10, Bool.true_eq_false, Bool.false_eq_true, Nat.le_refl, and_self, and_false, false_and, or_self, or_false, hf_lt, ce_lt, hf_cl, ce_cl, i_irr, i_rfl, wp_inc4 (y := zX4_spreadWithin) (nI 1) ki_1 dX4_spreadWithin_166, wp_goto (y := zX4_spreadWithin) 22 (by decide) dX4_spreadWithin_169]
      exact ih (k + 1) _ μ2 _ _ _ _ (by omega) R2 F2 (prc_pos L O h hl hp _)
def RepV (M : Ms) (d : Ce → Option Nat) (μ : mm_U) (w : Nat) : Prop := RepW M d μ w ∧ ∀ c j, d c = some j → j < 48
/-- a spread from a cell, whatever is reached already -/
def spF (M : Ms) (least : Int32) (c : Ce) (d : Ce → Option Nat) : Sp := bfs M least 48 0 (fu d c (some 0), [c])
theorem c_spreadWithin (W : WaSh sh w) (S : MeshSh sh b) (R : RepC M μ b) (B : SdB M) (L : LvN M) (H : HasF M) (O : OwL M) (hd : w + 4 < b ∨ b + 8 < w) (least : Int32) (c : Ce) (hc : 0 < sd M c) (d : Ce → Option Nat) (RV : RepV M d μ w) : cl sh zX4_spreadWithin [.ref w, .ref b, .int (nI c.val), .int least] μ (fun r μ' => r = some (.int (nI (spF M least c d).2.length)) ∧ RepQ M (spF M least c d) μ' w ∧ FrX μ μ' w) := by
  show wp sh zX4_spreadWithin 0 [.ref w, .ref b, .int (nI c.val), .int least, .null, .null, .null, .null, .null] [] μ _
  simp (disch := first | omega | assumption) only [mm_op_some, true_and, and_true, mm_rc_some, mm_rc_none, nI_xor, tw_xor, pk_mul, nI_add, mm_in_t, nI_clamp, ok0, ok1, ok2, ok3, ok4, n1_0, n0_0, n0_zz, n1_zz, bI_eq0, bI_ne0, bI_zz, nI_le_, nI_lt_, nI_eq_, nI_lt0, nI_ge0, nI_gt0, nI_le0, nI_eq0, m1_lt0, m1_ge0, if_true, if_false, not_true, not_false_eq_true, Classical.not_not, true_or, or_true, false_or, n1_1, k10, Bool.true_eq_false, Bool.false_eq_true, Nat.le_refl, and_self, and_false, false_and, or_self, or_false, hf_lt, ce_lt, hf_cl, ce_cl, i_irr, i_rfl, wp_al0 (y := zX4_spreadWithin) dX4_spreadWithin_0, wp_getf (y := zX4_spreadWithin) kF4_9 dX4_spreadWithin_1, wp_il2 (y := zX4_spreadWithin) dX4_spreadWithin_4, wp_iconst (y := zX4_spreadWithin) (nI 0) ki_0 dX4_spreadWithin_5, wp_iast (y := zX4_spreadWithin) dX4_spreadWithin_6, wp_al0 (y := zX4_spreadWithin) dX4_spreadWithin_7, wp_getf (y := zX4_spreadWithin) kF4_18 dX4_spreadWithin_8, wp_iconst (y := zX4_spreadWithin) (nI 0) ki_0 dX4_spreadWithin_11, wp_il2 (y := zX4_spreadWithin) dX4_spreadWithin_12, wp_iast (y := zX4_spreadWithin) dX4_spreadWithin_13, wp_al0 (y := zX4_spreadWithin) dX4_spreadWithin_14, wp_iconst (y := zX4_spreadWithin) (nI 1) ki_1 dX4_spreadWithin_15, wp_putf (y := zX4_spreadWithin) kF4_42 rfl dX4_spreadWithin_16, wp_iconst (y := zX4_spreadWithin) (nI 0) ki_0 dX4_spreadWithin_19, wp_is4 (y := zX4_spreadWithin) dX4_spreadWithin_20, W.oc, W.g0, W.g1, W.g2, W.g3, W.g4, W.p4, W.a1, W.a2, W.a3, W.a4]
  refine sw_outer W S R B L H O hd least _ 48 0 (fu d c (some 0), [c]) _ _ _ _ _ rfl ?_ ?_ ?_
  · obtain ⟨⟨r1, r2⟩, r3⟩ := RV
    refine ⟨⟨fun x => ?_, fun x => ?_⟩, ?_, fun k x hk => ?_, by show 1 ≤ 48; omega, fun x j hx => ?_, fun x hx => ?_⟩
    · simp (disch := omega) only [mu_n, mu_s]
      rw [upd_fin]
      show _ = fo (fu d c (some 0) x)
      unfold fu
      split
      · rfl
      · exact r1 x
    · simp (disch := omega) only [mu_n, mu_s]
      exact r2 x
    · rw [mu_s, upd_s]
      rfl
    · simp (disch := omega) only [mu_n, mu_s]
      cases k with
      | zero => cases hk; rfl
      | succ k => cases k <;> cases hk
    · have hx : fu d c (some 0) x = some j := hx
      by_cases z : x = c
      · rw [z, fu_s] at hx; cases hx; omega
      · rw [fu_n _ _ z] at hx; exact r3 x j hx
    · have : x = c := List.mem_singleton.mp hx
      subst this
      exact ⟨0, fu_s _ _ _, by show 0 < 1; omega⟩
  · exact FrX_mu4 (((FrX.refl μ w).mu _ (by omega) (by omega)).mu _ (by omega) (by omega)) _ _ (fun k hk => by simp (disch := omega) only [mu_n])
  · intro x hx
    have : x = c := List.mem_singleton.mp hx
    rw [this]; exact hc
theorem c_spread (W : WaSh sh w) (S : MeshSh sh b) (R : RepC M μ b) (B : SdB M) (L : LvN M) (H : HasF M) (O : OwL M) (hd : w + 4 < b ∨ b + 8 < w) (c : Ce) (hc : 0 < sd M c) : cl sh zX4_spread [.ref w, .ref b, .int (nI c.val)] μ (fun r μ' => r = none ∧ RepQ M (spF M (nI 0) c (fun _ => none)) μ' w ∧ FrW μ μ' w) := by
  show wp sh zX4_spread 0 [.ref w, .ref b, .int (nI c.val)] [] μ _
  simp (disch := first | omega | assumption) only [mm_op_some, true_and, and_true, mm_rc_some, mm_rc_none, nI_xor, tw_xor, pk_mul, nI_add, mm_in_t, nI_clamp, ok0, ok1, ok2, ok3, ok4, n1_0, n0_0, n0_zz, n1_zz, bI_eq0, bI_ne0, bI_zz, nI_le_, nI_lt_, nI_eq_, nI_lt0, nI_ge0, nI_gt0, nI_le0, nI_eq0, m1_lt0, m1_ge0, if_true, if_false, not_true, not_false_eq_true, Classical.not_not, true_or, or_true, false_or, n1_1, k10, Bool.true_eq_false, Bool.false_eq_true, Nat.le_refl, and_self, and_false, false_and, or_self, or_false, hf_lt, ce_lt, hf_cl, ce_cl, i_irr, i_rfl, wp_al0 (y := zX4_spread) dX4_spread_0, wp_al1 (y := zX4_spread) dX4_spread_1, wp_cv_r (y := zX4_spread) kM4_34 (by decide) dX4_spread_2, (show yo zX4_clearDistances = 4 from rfl), W.oc, W.g0, W.g1, W.g2, W.g3, W.g4, W.p4, W.a1, W.a2, W.a3, W.a4]
  refine cl_mono (c_clearDistances W S R B hd) ?_
  rintro r μ1 ⟨rfl, R1, F1⟩
  simp (disch := first | omega | assumption) only [mm_op_some, true_and, and_true, mm_rc_some, mm_rc_none, nI_xor, tw_xor, pk_mul, nI_add, mm_in_t, nI_clamp, ok0, ok1, ok2, ok3, ok4, n1_0, n0_0, n0_zz, n1_zz, bI_eq0, bI_ne0, bI_zz, nI_le_, nI_lt_, nI_eq_, nI_lt0, nI_ge0, nI_gt0, nI_le0, nI_eq0, m1_lt0, m1_ge0, if_true, if_false, not_true, not_false_eq_true, Classical.not_not, true_or, or_true, false_or, n1_1, k10, Bool.true_eq_false, Bool.false_eq_true, Nat.le_refl, and_self, and_false, false_and, or_self, or_false, hf_lt, ce_lt, hf_cl, ce_cl, i_irr, i_rfl, wp_al0 (y := zX4_spread) dX4_spread_5, wp_al1 (y := zX4_spread) dX4_spread_6, wp_il2 (y := zX4_spread) dX4_spread_7, wp_iconst (y := zX4_spread) (nI 0) ki_0 dX4_spread_8, wp_cv_rii (y := zX4_spread) kM4_38 (by decide) dX4_spread_9, (show yo zX4_spreadWithin = 4 from rfl), W.oc, W.g0, W.g1, W.g2, W.g3, W.g4, W.p4, W.a1, W.a2, W.a3, W.a4]
  refine cl_mono (c_spreadWithin W S (R.cg (fun a h1 h2 => F1 a (by omega))) B L H O hd (nI 0) c hc _ ⟨R1, fun c j h => by cases h⟩) ?_
  rintro r μ2 ⟨rfl, R2, F2⟩
  simp (disch := first | omega | assumption) only [mm_op_some, true_and, and_true, mm_rc_some, mm_rc_none, nI_xor, tw_xor, pk_mul, nI_add, mm_in_t, nI_clamp, ok0, ok1, ok2, ok3, ok4, n1_0, n0_0, n0_zz, n1_zz, bI_eq0, bI_ne0, bI_zz, nI_le_, nI_lt_, nI_eq_, nI_lt0, nI_ge0, nI_gt0, nI_le0, nI_eq0, m1_lt0, m1_ge0, if_true, if_false, not_true, not_false_eq_true, Classical.not_not, true_or, or_true, false_or, n1_1, k10, Bool.true_eq_false, Bool.false_eq_true, Nat.le_refl, and_self, and_false, false_and, or_self, or_false, hf_lt, ce_lt, hf_cl, ce_cl, i_irr, i_rfl, wp_pop_int (y := zX4_spread) dX4_spread_12, wp_vret (y := zX4_spread) rfl dX4_spread_13]
  exact ⟨R2, F1.trans F2.1⟩
end WY4
