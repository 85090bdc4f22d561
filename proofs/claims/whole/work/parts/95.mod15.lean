section MBW
variable {sh : mm_Sh} {m : Nat} {M : Ms} {μ : mm_U} {s : Fo} {c : Ce} {Q : Option Value → mm_U → Prop}
/-- what the model's burst has made before the ends melt -/
def bu2 (M : Ms) (a : Hf) : Ms := sSd (lkM (lkM (crL (rx M a) (ry M a) (sd M (ow M (tw a)) - 1) M (nx M (tw a))) (pv M a) (nx M (tw a))) (pv M (tw a)) (nx M a)) (ow M (tw a)) 0
theorem bu2_f (M : Ms) (a : Hf) : lv (bu2 M a) = lv M ∧ ow (bu2 M a) = ow M ∧ nx (bu2 M a) = nx (joM1 M (wl a) a) ∧ pv (bu2 M a) = pv (joM1 M (wl a) a) ∧ rx (bu2 M a) = rx (joM1 M (wl a) a) ∧ ry (bu2 M a) = ry (joM1 M (wl a) a) ∧ sd (bu2 M a) = fu (sd M) (ow M (tw a)) 0 ∧ ar (bu2 M a) = ar M ∧ ln (bu2 M a) = ln M := by
  obtain ⟨c1, c2, c3, c4, c5, c6, c7⟩ := crL_f (rx M a) (ry M a) (sd M (ow M (tw a)) - 1) M (nx M (tw a))
  obtain ⟨F1, F2, F3, F4, F5, F6⟩ := joM1_f M (wl a) a
  obtain ⟨k1, k2⟩ := crL_jL (ow M a) (rx M a) (ry M a) (sd M (ow M (tw a)) - 1) M M (nx M (tw a)) rfl rfl rfl
  refine ⟨?_, ?_, ?_, ?_, ?_, ?_, ?_, ?_, ?_⟩
  · unfold bu2 lkM
    simp only [g_lv_sLv, g_lv_sOw, g_lv_sNx, g_lv_sPv, g_lv_sRx, g_lv_sRy, g_lv_sLn, g_lv_sSd, g_lv_sAr, c3]
  · unfold bu2 lkM
    simp only [g_ow_sLv, g_ow_sOw, g_ow_sNx, g_ow_sPv, g_ow_sRx, g_ow_sRy, g_ow_sLn, g_ow_sSd, g_ow_sAr, c7]
  · rw [F3]
    unfold bu2 lkM
    simp only [g_nx_sLv, g_nx_sOw, g_nx_sNx, g_nx_sPv, g_nx_sRx, g_nx_sRy, g_nx_sLn, g_nx_sSd, g_nx_sAr, c1]
  · rw [F4]
    unfold bu2 lkM
    simp only [g_pv_sLv, g_pv_sOw, g_pv_sNx, g_pv_sPv, g_pv_sRx, g_pv_sRy, g_pv_sLn, g_pv_sSd, g_pv_sAr, c2]
  · unfold bu2 lkM joM1 lkM
    simp only [g_rx_sLv, g_rx_sOw, g_rx_sNx, g_rx_sPv, g_rx_sRx, g_rx_sRy, g_rx_sLn, g_rx_sSd, g_rx_sAr, k1]
  · unfold bu2 lkM joM1 lkM
    simp only [g_ry_sLv, g_ry_sOw, g_ry_sNx, g_ry_sPv, g_ry_sRx, g_ry_sRy, g_ry_sLn, g_ry_sSd, g_ry_sAr, k2]
  · unfold bu2 lkM
    simp only [g_sd_sLv, g_sd_sOw, g_sd_sNx, g_sd_sPv, g_sd_sRx, g_sd_sRy, g_sd_sLn, g_sd_sSd, g_sd_sAr, c4]
  · unfold bu2 lkM
    simp only [g_ar_sLv, g_ar_sOw, g_ar_sNx, g_ar_sPv, g_ar_sRx, g_ar_sRy, g_ar_sLn, g_ar_sSd, g_ar_sAr, c5]
  · unfold bu2 lkM
    simp only [g_ln_sLv, g_ln_sOw, g_ln_sNx, g_ln_sPv, g_ln_sRx, g_ln_sRy, g_ln_sLn, g_ln_sSd, g_ln_sAr, c6]
def bu3 (M : Ms) (a : Hf) (n : Nat) : Ms := sLv (sAr (sSd (hoL (ow M a) n (bu2 M a) (nx M a)) (ow M a) n) (ow M a) (ar M (ow M a) + ar M (ow M (tw a)))) (wl a) false
theorem bu3_to {a : Hf} {r : Nat → Int32} (la : LvH M a) (d3 : ow M a ≠ ow M (tw a)) (no : nx M a ≠ tw a) (LN : LvH (joM1 M (wl a) a) (nx M a)) (oN : ow M (nx M a) = ow M a) (K : Cy (LvH (joM1 M (wl a) a)) (nx (joM1 M (wl a) a)) (pv (joM1 M (wl a) a)) (ow (joM1 M (wl a) a))) (hs : ∀ c, sd (joM1 M (wl a) a) c = cH (fib (joM1 M (wl a) a) c)) (Ow : ∀ g, LvH M g → g ≠ tw a → ow (joM1 M (wl a) a) g = if ow M g = ow M (tw a) then ow M a else ow M g) (L : ∀ g, LvH (joM1 M (wl a) a) g ↔ (LvH M g ∧ g ≠ a) ∧ g ≠ tw a) (A : MeR (bu3 M a (sd M (ow M a) + sd M (ow M (tw a)) - 2)) r) : MeR (joM1 M (wl a) a) r := by
  obtain ⟨b1, b2, b3, b4, b5, b6, b7, b8, b9⟩ := bu2_f M a
  obtain ⟨F1, F2, F3, F4, F5, F6⟩ := joM1_f M (wl a) a
  obtain ⟨q1, q2, q3, q4, q5, q6, q7, q8⟩ := hoL_nx (ow M a) (sd M (ow M a) + sd M (ow M (tw a)) - 2) (bu2 M a) (nx M a)
  have sA : sd (joM1 M (wl a) a) (ow M a) = sd M (ow M a) + sd M (ow M (tw a)) - 2 := by rw [F5, fu_n _ _ d3, fu_s]
  have oNj : ow (joM1 M (wl a) a) (nx M a) = ow M a := by rw [Ow _ ((L _).mp LN).1.1 no, oN, if_neg d3]
  obtain ⟨o1, o2, o3, o4⟩ := K.orb (nx M a) LN (fib (joM1 M (wl a) a) (ow M a)) (fun g => by rw [fib_iff, oNj])
  rw [← hs, sA] at o2 o3 o4
  refine A.to (fun h lh => ?_) (fun v => ?_) ?_ (fun d hd => ?_)
  · obtain ⟨⟨l1, l2⟩, l3⟩ := (L h).mp lh
    refine ⟨?_, ?_, ?_, ?_, ?_, ?_⟩
    · show lv (bu3 M a _) (wl h) = true
      have lh : lv (joM1 M (wl a) a) (wl h) = true := lh
      rw [F1] at lh
      unfold bu3
      simp only [g_lv_sLv, g_lv_sOw, g_lv_sNx, g_lv_sPv, g_lv_sRx, g_lv_sRy, g_lv_sLn, g_lv_sSd, g_lv_sAr, q3, b1]
      exact lh
    · unfold bu3
      simp only [g_nx_sLv, g_nx_sOw, g_nx_sNx, g_nx_sPv, g_nx_sRx, g_nx_sRy, g_nx_sLn, g_nx_sSd, g_nx_sAr, q1, b3]
    · unfold bu3
      simp only [g_pv_sLv, g_pv_sOw, g_pv_sNx, g_pv_sPv, g_pv_sRx, g_pv_sRy, g_pv_sLn, g_pv_sSd, g_pv_sAr, q2, b4]
    · have e : ow (bu3 M a (sd M (ow M a) + sd M (ow M (tw a)) - 2)) h = ow (hoL (ow M a) (sd M (ow M a) + sd M (ow M (tw a)) - 2) (bu2 M a) (nx M a)) h := by
        unfold bu3
        simp only [g_ow_sLv, g_ow_sOw, g_ow_sNx, g_ow_sPv, g_ow_sRx, g_ow_sRy, g_ow_sLn, g_ow_sSd, g_ow_sAr]
      rw [e]
      obtain ⟨w1, w2⟩ := hoL_own (ow M a) (sd M (ow M a) + sd M (ow M (tw a)) - 2) (bu2 M a) (nx M a) h
      rw [b3] at w1 w2
      by_cases z : ow (joM1 M (wl a) a) h = ow M a
      · rw [z, w1 (o4 h lh (by rw [oNj]; exact z))]
      · rw [w2 (fun i _ ei => z (by rw [← ei, (K.lit i _ LN).2]; exact oNj)), b2]
        have := Ow h l1 l3
        split at this
        · exact absurd this z
        · exact this
    · unfold bu3
      simp only [g_rx_sLv, g_rx_sOw, g_rx_sNx, g_rx_sPv, g_rx_sRx, g_rx_sRy, g_rx_sLn, g_rx_sSd, g_rx_sAr, q7, b5]
    · unfold bu3
      simp only [g_ry_sLv, g_ry_sOw, g_ry_sNx, g_ry_sPv, g_ry_sRx, g_ry_sRy, g_ry_sLn, g_ry_sSd, g_ry_sAr, q8, b6]
  · have e1 : lv (bu3 M a (sd M (ow M a) + sd M (ow M (tw a)) - 2)) = fu (lv M) (wl a) false := by
      unfold bu3
      simp only [g_lv_sLv, g_lv_sOw, g_lv_sNx, g_lv_sPv, g_lv_sRx, g_lv_sRy, g_lv_sLn, g_lv_sSd, g_lv_sAr, q3, b1]
    have e2 : ln (bu3 M a (sd M (ow M a) + sd M (ow M (tw a)) - 2)) = ln M := by
      unfold bu3
      simp only [g_ln_sLv, g_ln_sOw, g_ln_sNx, g_ln_sPv, g_ln_sRx, g_ln_sRy, g_ln_sLn, g_ln_sSd, g_ln_sAr, q6, b9]
    rw [e1, e2, F1, F6]
  · have e1 : sd (bu3 M a (sd M (ow M a) + sd M (ow M (tw a)) - 2)) = fu (fu (sd M) (ow M (tw a)) 0) (ow M a) (sd M (ow M a) + sd M (ow M (tw a)) - 2) := by
      unfold bu3
      simp only [g_sd_sLv, g_sd_sOw, g_sd_sNx, g_sd_sPv, g_sd_sRx, g_sd_sRy, g_sd_sLn, g_sd_sSd, g_sd_sAr, q4, b7]
    rw [e1, F5, fu_comm _ _ _ d3]
  · have dg : d ≠ ow M (tw a) := fun e => by rw [F5, e, fu_s] at hd; omega
    have j5 := (jL_nx (ow M a) (rx M a) (ry M a) (sd M (ow M (tw a)) - 1) M (nx M (tw a))).2.2.2.2.1
    have e1 : ar (bu3 M a (sd M (ow M a) + sd M (ow M (tw a)) - 2)) = fu (ar M) (ow M a) (ar M (ow M a) + ar M (ow M (tw a))) := by
      unfold bu3
      simp only [g_ar_sLv, g_ar_sOw, g_ar_sNx, g_ar_sPv, g_ar_sRx, g_ar_sRy, g_ar_sLn, g_ar_sSd, g_ar_sAr, q5, b8]
    have e2 : ar (joM1 M (wl a) a) = fu (fu (ar M) (ow M a) (ar M (ow M a) + ar M (ow M (tw a)))) (ow M (tw a)) (nI 0) := by
      unfold joM1 lkM
      simp only [g_ar_sLv, g_ar_sOw, g_ar_sNx, g_ar_sPv, g_ar_sRx, g_ar_sRy, g_ar_sLn, g_ar_sSd, g_ar_sAr, j5]
    rw [e1, e2, fu_n _ _ dg]
end MBW
