/-! ===== the model's ring ===== -/
def stX (k : Nat) : Int32 := if k = 0 ∨ k = 5 then 1 else if k = 2 ∨ k = 3 then -1 else 0
def stY (k : Nat) : Int32 := if k = 1 ∨ k = 2 then 1 else if k = 4 ∨ k = 5 then -1 else 0
def StA (μ : mm_U) (m : Nat) : Prop := (∀ k, k < 6 → μ (m + 5) k = stX k) ∧ ∀ k, k < 6 → μ (m + 6) k = stY k
def sgI (st at_ wide : Int32) : Int32 := if at_ + st < wide then (if 0 ≤ at_ + st then nI 0 else -1) else nI 1
def rmI (a b : Int32) : Int32 := a - a / b * b
def hfI (w h x y k tx ty : Int32) : Int32 := if k < nI 3 then nI 2 * (nI 3 * (x + w * y) + k) else nI 2 * (nI 3 * (rmI (x + tx + w) w + w * rmI (y + ty + h) h) + k - nI 3) + nI 1
theorem hf_ok : ∀ w h : Fin 4, ∀ q : Fin 216, q.val < 6 * ((w.val + 3) * (h.val + 3)) → hfI (nI (w.val + 3)) (nI (h.val + 3)) (nI (q.val / 6 % (w.val + 3))) (nI (q.val / 6 / (w.val + 3))) (nI (q.val % 6)) (stX (q.val % 6)) (stY (q.val % 6)) = nI (rH (w.val + 3) (h.val + 3) q.val) := by decide +kernel
theorem sg_ok : ∀ w h : Fin 4, ∀ q : Fin 216, q.val < 6 * ((w.val + 3) * (h.val + 3)) → rx (rgM (w.val + 3) (h.val + 3)) (hI (rH (w.val + 3) (h.val + 3) q.val)) = sgI (stX (q.val % 6)) (nI (q.val / 6 % (w.val + 3))) (nI (w.val + 3)) ∧ ry (rgM (w.val + 3) (h.val + 3)) (hI (rH (w.val + 3) (h.val + 3) q.val)) = sgI (stY (q.val % 6)) (nI (q.val / 6 / (w.val + 3))) (nI (h.val + 3)) := by decide +kernel
section MRG
variable {sh : mm_Sh} {m : Nat} {M : Ms} {μ : mm_U} {s : Fo} {Q : Option Value → mm_U → Prop}
theorem hf_k {w h : Nat} (hw : 3 ≤ w) (hw6 : w ≤ 6) (hh : 3 ≤ h) (hh6 : h ≤ 6) {q : Nat} (hq : q < 6 * (w * h)) : hfI (nI w) (nI h) (nI (q / 6 % w)) (nI (q / 6 / w)) (nI (q % 6)) (stX (q % 6)) (stY (q % 6)) = nI (rH w h q) := by
  have e36 := wh36 hw hw6 hh hh6
  have k := hf_ok ⟨w - 3, by omega⟩ ⟨h - 3, by omega⟩ ⟨q, by omega⟩
  dsimp only at k
  rw [show w - 3 + 3 = w by omega, show h - 3 + 3 = h by omega] at k
  exact k hq
theorem sg_k {w h : Nat} (hw : 3 ≤ w) (hw6 : w ≤ 6) (hh : 3 ≤ h) (hh6 : h ≤ 6) {q : Nat} (hq : q < 6 * (w * h)) : rx (rgM w h) (hI (rH w h q)) = sgI (stX (q % 6)) (nI (q / 6 % w)) (nI w) ∧ ry (rgM w h) (hI (rH w h q)) = sgI (stY (q % 6)) (nI (q / 6 / w)) (nI h) := by
  have e36 := wh36 hw hw6 hh hh6
  have k := sg_ok ⟨w - 3, by omega⟩ ⟨h - 3, by omega⟩ ⟨q, by omega⟩
  dsimp only at k
  rw [show w - 3 + 3 = w by omega, show h - 3 + 3 = h by omega] at k
  exact k hq
theorem m_sign (st at_ wide : Int32) : cl sh zX6_sign [.int st, .int at_, .int wide] μ Q = Q (some (.int (sgI st at_ wide))) μ := by
  show wp sh zX6_sign 0 [.int st, .int at_, .int wide] [] μ Q = _
  unfold sgI
  by_cases h1 : at_ + st < wide
  · have h1' := eq_true h1
    rw [if_pos h1]
    by_cases h2 : 0 ≤ at_ + st
    · have h2' := eq_true h2
      rw [if_pos h2]
      simp (disch := first | omega | assumption) only [mm_op_some, true_and, and_true, mm_rc_some, mm_rc_none, ok0, ok1, ok2, ok3, ok4, if_true, if_false, wp_il1 (y := zX6_sign) dX6_sign_0, wp_il0 (y := zX6_sign) dX6_sign_1, wp_iadd (y := zX6_sign) dX6_sign_2, wp_il2 (y := zX6_sign) dX6_sign_3, wp_icmp_lt (y := zX6_sign) 11 (by decide) dX6_sign_4, wp_il1 (y := zX6_sign) dX6_sign_11, wp_il0 (y := zX6_sign) dX6_sign_12, wp_iadd (y := zX6_sign) dX6_sign_13, wp_if_ge (y := zX6_sign) 21 (by decide) dX6_sign_14, wp_iconst (y := zX6_sign) (nI 0) ki_0 dX6_sign_21, wp_ireti (y := zX6_sign) rfl dX6_sign_22, h1', h2']
    · have h2' := eq_false h2
      rw [if_neg h2]
      simp (disch := first | omega | assumption) only [mm_op_some, true_and, and_true, mm_rc_some, mm_rc_none, ok0, ok1, ok2, ok3, ok4, if_true, if_false, wp_il1 (y := zX6_sign) dX6_sign_0, wp_il0 (y := zX6_sign) dX6_sign_1, wp_iadd (y := zX6_sign) dX6_sign_2, wp_il2 (y := zX6_sign) dX6_sign_3, wp_icmp_lt (y := zX6_sign) 11 (by decide) dX6_sign_4, wp_il1 (y := zX6_sign) dX6_sign_11, wp_il0 (y := zX6_sign) dX6_sign_12, wp_iadd (y := zX6_sign) dX6_sign_13, wp_if_ge (y := zX6_sign) 21 (by decide) dX6_sign_14, wp_iconst (y := zX6_sign) ((-1)) ki_m1 dX6_sign_17, wp_goto (y := zX6_sign) 22 (by decide) dX6_sign_18, wp_ireti (y := zX6_sign) rfl dX6_sign_22, h1', h2']
  · have h1' := eq_false h1
    rw [if_neg h1]
    simp (disch := first | omega | assumption) only [mm_op_some, true_and, and_true, mm_rc_some, mm_rc_none, ok0, ok1, ok2, ok3, ok4, if_true, if_false, wp_il1 (y := zX6_sign) dX6_sign_0, wp_il0 (y := zX6_sign) dX6_sign_1, wp_iadd (y := zX6_sign) dX6_sign_2, wp_il2 (y := zX6_sign) dX6_sign_3, wp_icmp_lt (y := zX6_sign) 11 (by decide) dX6_sign_4, wp_iconst (y := zX6_sign) (nI 1) ki_1 dX6_sign_7, wp_goto (y := zX6_sign) 22 (by decide) dX6_sign_8, wp_ireti (y := zX6_sign) rfl dX6_sign_22, h1']
theorem m_halfOf (w h x y k tx ty : Int32) (hw : ¬ w = 0) (hh : ¬ h = 0) : cl sh zX6_halfOf [.int w, .int h, .int x, .int y, .int k, .int tx, .int ty] μ Q = Q (some (.int (hfI w h x y k tx ty))) μ := by
  show wp sh zX6_halfOf 0 [.int w, .int h, .int x, .int y, .int k, .int tx, .int ty, .null, .null] [] μ Q = _
  unfold hfI rmI
  by_cases h1 : k < nI 3
  · have h1' : (nI 3 ≤ k) = False := i_nle h1
    rw [if_pos h1]
    simp (disch := first | omega | assumption) only [mm_op_some, true_and, and_true, mm_rc_some, mm_rc_none, ok0, ok1, ok2, ok3, ok4, if_true, if_false, wp_il4 (y := zX6_halfOf) dX6_halfOf_0, wp_iconst (y := zX6_halfOf) (nI 3) ki_3 dX6_halfOf_2, wp_icmp_ge (y := zX6_halfOf) 19 (by decide) dX6_halfOf_3, wp_iconst (y := zX6_halfOf) (nI 2) ki_2 dX6_halfOf_6, wp_iconst (y := zX6_halfOf) (nI 3) ki_3 dX6_halfOf_7, wp_il2 (y := zX6_halfOf) dX6_halfOf_8, wp_il0 (y := zX6_halfOf) dX6_halfOf_9, wp_il3 (y := zX6_halfOf) dX6_halfOf_10, wp_imul (y := zX6_halfOf) dX6_halfOf_11, wp_iadd (y := zX6_halfOf) dX6_halfOf_12, wp_imul (y := zX6_halfOf) dX6_halfOf_13, wp_il4 (y := zX6_halfOf) dX6_halfOf_14, wp_iadd (y := zX6_halfOf) dX6_halfOf_16, wp_imul (y := zX6_halfOf) dX6_halfOf_17, wp_ireti (y := zX6_halfOf) rfl dX6_halfOf_18, h1']
  · have h1' : (nI 3 ≤ k) = True := eq_true (by rw [Int32.lt_iff_toInt_lt] at h1; rw [Int32.le_iff_toInt_le]; omega)
    rw [if_neg h1]
    simp (disch := first | omega | assumption) only [mm_op_some, true_and, and_true, mm_rc_some, mm_rc_none, ok0, ok1, ok2, ok3, ok4, if_true, if_false, wp_il4 (y := zX6_halfOf) dX6_halfOf_0, wp_iconst (y := zX6_halfOf) (nI 3) ki_3 dX6_halfOf_2, wp_icmp_ge (y := zX6_halfOf) 19 (by decide) dX6_halfOf_3, wp_il2 (y := zX6_halfOf) dX6_halfOf_19, wp_il5 (y := zX6_halfOf) dX6_halfOf_20, wp_iadd (y := zX6_halfOf) dX6_halfOf_22, wp_il0 (y := zX6_halfOf) dX6_halfOf_23, wp_iadd (y := zX6_halfOf) dX6_halfOf_24, wp_il0 (y := zX6_halfOf) dX6_halfOf_25, wp_irem' (y := zX6_halfOf) dX6_halfOf_26, wp_is7 (y := zX6_halfOf) dX6_halfOf_27, wp_il3 (y := zX6_halfOf) dX6_halfOf_29, wp_il6 (y := zX6_halfOf) dX6_halfOf_30, wp_iadd (y := zX6_halfOf) dX6_halfOf_32, wp_il1 (y := zX6_halfOf) dX6_halfOf_33, wp_iadd (y := zX6_halfOf) dX6_halfOf_34, wp_il1 (y := zX6_halfOf) dX6_halfOf_35, wp_irem' (y := zX6_halfOf) dX6_halfOf_36, wp_is8 (y := zX6_halfOf) dX6_halfOf_37, wp_iconst (y := zX6_halfOf) (nI 2) ki_2 dX6_halfOf_39, wp_iconst (y := zX6_halfOf) (nI 3) ki_3 dX6_halfOf_40, wp_il7 (y := zX6_halfOf) dX6_halfOf_41, wp_il0 (y := zX6_halfOf) dX6_halfOf_43, wp_il8 (y := zX6_halfOf) dX6_halfOf_44, wp_imul (y := zX6_halfOf) dX6_halfOf_46, wp_iadd (y := zX6_halfOf) dX6_halfOf_47, wp_imul (y := zX6_halfOf) dX6_halfOf_48, wp_il4 (y := zX6_halfOf) dX6_halfOf_49, wp_iadd (y := zX6_halfOf) dX6_halfOf_51, wp_iconst (y := zX6_halfOf) (nI 3) ki_3 dX6_halfOf_52, wp_isub (y := zX6_halfOf) dX6_halfOf_53, wp_imul (y := zX6_halfOf) dX6_halfOf_54, wp_iconst (y := zX6_halfOf) (nI 1) ki_1 dX6_halfOf_55, wp_iadd (y := zX6_halfOf) dX6_halfOf_56, wp_ireti (y := zX6_halfOf) rfl dX6_halfOf_57, h1', hw, hh]
/-- what the row holds while cells are laid: q sides, c cells -/
def LyI (w h : Nat) (old : Nat → Int32) (q c : Nat) (r : Nat → Int32) : Prop := (∀ k, k < 16 → r k = if k = 0 then nI w else if k = 1 then nI h else if k = 2 ∨ 9 ≤ k then old k else nI 0) ∧ (∀ n, n < 144 → r (1456 + n) = if n < 3 * (w * h) then nI 10 else -1) ∧ (∀ d, d < 48 → r (1648 + d) = if d < c then nI 6 else nI 0) ∧ (∀ d, d < c → r (1600 + d) = nI 100) ∧ (∀ p, p < q → r (16 + rH w h p) = nI (rH w h (nq p)) ∧ r (304 + rH w h (nq p)) = nI (rH w h p) ∧ r (592 + rH w h p) = nI (p / 6) ∧ r (880 + rH w h p) = sgI (stX (p % 6)) (nI (p / 6 % w)) (nI w) ∧ r (1168 + rH w h p) = sgI (stY (p % 6)) (nI (p / 6 / w)) (nI h))
theorem nq_inj {p q : Nat} (h : nq p = nq q) : p = q := by
  unfold nq at h
  omega
theorem nq_pq (q : Nat) : nq (pq q) = q := by
  unfold nq pq
  omega
theorem LyI.cell {w h : Nat} {old r : Nat → Int32} {q c : Nat} (L : LyI w h old q c r) (hc : c < 48) (hw : 3 ≤ w) (hw6 : w ≤ 6) (hh : 3 ≤ h) (hh6 : h ≤ 6) (hq : q ≤ 6 * (w * h)) : LyI w h old q (c + 1) (upd (upd r (1600 + c) (nI 100)) (1648 + c) (nI 6)) := by
  obtain ⟨a1, a2, a3, a4, a5⟩ := L
  have e36 := wh36 hw hw6 hh hh6
  refine ⟨fun k hk => ?_, fun n hn => ?_, fun d hd => ?_, fun d hd => ?_, fun p hp => ?_⟩
  · rw [upd_n _ _ (by omega), upd_n _ _ (by omega)]
    exact a1 k hk
  · rw [upd_n _ _ (by omega), upd_n _ _ (by omega)]
    exact a2 n hn
  · by_cases z : d = c
    · rw [z, upd_s, if_pos (by omega)]
    · rw [upd_n _ _ (by omega), upd_n _ _ (by omega), a3 d hd]
      by_cases y : d < c
      · rw [if_pos y, if_pos (by omega)]
      · rw [if_neg y, if_neg (by omega)]
  · rw [upd_n _ _ (by omega)]
    by_cases z : d = c
    · rw [z, upd_s]
    · rw [upd_n _ _ (by omega)]
      exact a4 d (by omega)
  · obtain ⟨b1, b2, b3, b4, b5⟩ := a5 p hp
    have l1 := (rG_H hw hw6 hh hh6 (show p < 6 * (w * h) by omega)).2
    have l2 := (rG_H hw hw6 hh hh6 (nq_lt (show p < 6 * (w * h) by omega))).2
    rw [upd_n _ _ (by omega), upd_n _ _ (by omega), upd_n _ _ (by omega), upd_n _ _ (by omega), upd_n _ _ (by omega), upd_n _ _ (by omega), upd_n _ _ (by omega), upd_n _ _ (by omega), upd_n _ _ (by omega), upd_n _ _ (by omega)]
    exact ⟨b1, b2, b3, b4, b5⟩
theorem LyI.side {w h : Nat} {old r : Nat → Int32} {q c : Nat} (L : LyI w h old q c r) (hw : 3 ≤ w) (hw6 : w ≤ 6) (hh : 3 ≤ h) (hh6 : h ≤ 6) (hq : q < 6 * (w * h)) (hc : c ≤ 48) : LyI w h old (q + 1) c (upd (upd (upd (upd (upd r (16 + rH w h q) (nI (rH w h (nq q)))) (304 + rH w h (nq q)) (nI (rH w h q))) (592 + rH w h q) (nI (q / 6))) (880 + rH w h q) (sgI (stX (q % 6)) (nI (q / 6 % w)) (nI w))) (1168 + rH w h q) (sgI (stY (q % 6)) (nI (q / 6 / w)) (nI h))) := by
  obtain ⟨a1, a2, a3, a4, a5⟩ := L
  have e36 := wh36 hw hw6 hh hh6
  have l1 := (rG_H hw hw6 hh hh6 hq)
  have l2 := (rG_H hw hw6 hh hh6 (nq_lt hq))
  have lq1 := l1.2
  have lq2 := l2.2
  refine ⟨fun k hk => ?_, fun n hn => ?_, fun d hd => ?_, fun d hd => ?_, fun p hp => ?_⟩
  · rw [upd_n _ _ (by omega), upd_n _ _ (by omega), upd_n _ _ (by omega), upd_n _ _ (by omega), upd_n _ _ (by omega)]
    exact a1 k hk
  · rw [upd_n _ _ (by omega), upd_n _ _ (by omega), upd_n _ _ (by omega), upd_n _ _ (by omega), upd_n _ _ (by omega)]
    exact a2 n hn
  · rw [upd_n _ _ (by omega), upd_n _ _ (by omega), upd_n _ _ (by omega), upd_n _ _ (by omega), upd_n _ _ (by omega)]
    exact a3 d hd
  · rw [upd_n _ _ (by omega), upd_n _ _ (by omega), upd_n _ _ (by omega), upd_n _ _ (by omega), upd_n _ _ (by omega)]
    exact a4 d hd
  · by_cases z : p = q
    · subst z
      generalize rH w h p = i at lq1
      generalize rH w h (nq p) = j at lq2
      refine ⟨?_, ?_, ?_, ?_, ?_⟩
      · rw [upd_n _ _ (by omega), upd_n _ _ (by omega), upd_n _ _ (by omega), upd_n _ _ (by omega), upd_s]
      · rw [upd_n _ _ (by omega), upd_n _ _ (by omega), upd_n _ _ (by omega), upd_s]
      · rw [upd_n _ _ (by omega), upd_n _ _ (by omega), upd_s]
      · rw [upd_n _ _ (by omega), upd_s]
      · rw [upd_s]
    · obtain ⟨b1, b2, b3, b4, b5⟩ := a5 p (by omega)
      have m1 := (rG_H hw hw6 hh hh6 (show p < 6 * (w * h) by omega))
      have m2 := (rG_H hw hw6 hh hh6 (nq_lt (show p < 6 * (w * h) by omega)))
      have n1 : rH w h p ≠ rH w h q := fun e => z (by rw [← m1.1, e, l1.1])
      have n2 : rH w h (nq p) ≠ rH w h (nq q) := fun e => z (nq_inj (by rw [← m2.1, e, l2.1]))
      have mq1 := m1.2
      have mq2 := m2.2
      generalize rH w h q = i at lq1 n1
      generalize rH w h (nq q) = j at lq2 n2
      generalize rH w h p = i' at mq1 n1 b1 b2 b3 b4 b5
      generalize rH w h (nq p) = j' at mq2 n2 b1 b2 b3 b4 b5
      refine ⟨?_, ?_, ?_, ?_, ?_⟩
      · rw [upd_n _ _ (by omega), upd_n _ _ (by omega), upd_n _ _ (by omega), upd_n _ _ (by omega), upd_n _ _ (by omega)]
        exact b1
      · rw [upd_n _ _ (by omega), upd_n _ _ (by omega), upd_n _ _ (by omega), upd_n _ _ (by omega), upd_n _ _ (by omega)]
        exact b2
      · rw [upd_n _ _ (by omega), upd_n _ _ (by omega), upd_n _ _ (by omega), upd_n _ _ (by omega), upd_n _ _ (by omega)]
        exact b3
      · rw [upd_n _ _ (by omega), upd_n _ _ (by omega), upd_n _ _ (by omega), upd_n _ _ (by omega), upd_n _ _ (by omega)]
        exact b4
      · rw [upd_n _ _ (by omega), upd_n _ _ (by omega), upd_n _ _ (by omega), upd_n _ _ (by omega), upd_n _ _ (by omega)]
        exact b5
theorem LyI.mer {w h : Nat} {old r : Nat → Int32} (L : LyI w h old (6 * (w * h)) (w * h) r) (hw : 3 ≤ w) (hw6 : w ≤ 6) (hh : 3 ≤ h) (hh6 : h ≤ 6) : MeR (rgM w h) r := by
  obtain ⟨a1, a2, a3, a4, a5⟩ := L
  have e36 := wh36 hw hw6 hh hh6
  refine ⟨fun g lg => ?_, fun j => ?_, fun c => ?_, fun c hc => ?_⟩
  · have lg : decide ((wl g).val < 3 * (w * h)) = true := lg
    have lg := of_decide_eq_true lg
    rw [wl_val] at lg
    have gq : g.val < 6 * (w * h) := by omega
    obtain ⟨k1, k2⟩ := rH_G hw hw6 hh hh6 gq
    obtain ⟨b1, b2, b3, b4, b5⟩ := a5 _ k2
    obtain ⟨c1, c2, c3, c4, c5⟩ := a5 _ (pq_lt k2)
    obtain ⟨s1, s2⟩ := sg_k hw hw6 hh hh6 k2
    rw [k1] at b1 b3 b4 b5 s1 s2
    rw [nq_pq, k1] at c2
    rw [hI_val] at s1 s2
    rw [b1, c2, b3, b4, b5]
    have l1 := (rG_H hw hw6 hh hh6 (nq_lt k2)).2
    have l2 := (rG_H hw hw6 hh hh6 (pq_lt k2)).2
    refine ⟨?_, ?_, ?_, s1.symm, s2.symm⟩
    · show _ = nI (hI (rH w h (nq (rG w h g.val)))).val
      rw [hI_lt (by omega)]
    · show _ = nI (hI (rH w h (pq (rG w h g.val)))).val
      rw [hI_lt (by omega)]
    · show _ = nI (cI (rG w h g.val / 6)).val
      rw [cI_lt (by omega)]
  · rw [a2 j.val j.isLt]
    show _ = if decide (j.val < 3 * (w * h)) = true then nI 10 else -1
    by_cases z : j.val < 3 * (w * h)
    · rw [if_pos z, if_pos (decide_eq_true z)]
    · rw [if_neg z, if_neg (fun q => z (of_decide_eq_true q))]
  · rw [a3 c.val c.isLt]
    show _ = nI (if c.val < w * h then 6 else 0)
    split <;> rfl
  · have hc : 0 < (if c.val < w * h then 6 else 0) := hc
    refine a4 c.val ?_
    by_cases z : c.val < w * h
    · exact z
    · rw [if_neg z] at hc
      omega
theorem LyI.otr {w h : Nat} {r : Nat → Int32} {old : Nat → Int32} {q c : Nat} (L : LyI w h old q c r) (e2 : old 2 = s.2.2.2 5) (e3 : ∀ k, k < 4 → old (10 + k) = s.2.2.1 k) : OtR (fBg s w h) (nI 0) r := by
  have a1 := L.1
  have z : ∀ k, 3 ≤ k → k < 9 → r k = nI 0 := fun k h1 h2 => by rw [a1 k (by omega), if_neg (by omega), if_neg (by omega), if_neg (by omega)]
  refine ⟨?_, ?_, ?_, ?_, ?_, ?_, ?_, ?_, ?_, fun k hk => ?_, Nat.zero_le _, fun i e he => by cases he⟩
  · rw [a1 0 (by omega)]; rfl
  · rw [a1 1 (by omega)]; rfl
  · rw [a1 2 (by omega), if_neg (by omega), if_neg (by omega), if_pos (Or.inl rfl)]; exact e2
  · rw [z 3 (by omega) (by omega)]; rfl
  · rw [z 4 (by omega) (by omega)]; rfl
  · rw [z 5 (by omega) (by omega)]; rfl
  · rw [z 6 (by omega) (by omega)]; rfl
  · rw [z 7 (by omega) (by omega)]; rfl
  · rw [z 8 (by omega) (by omega)]; rfl
  · rw [a1 (10 + k) (by omega), if_neg (by omega), if_neg (by omega), if_pos (by omega)]
    exact e3 k hk
end MRG
