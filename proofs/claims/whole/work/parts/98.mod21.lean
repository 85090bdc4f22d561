theorem fu_idem {α β : Type} [DecidableEq α] (f : α → β) (a : α) (x y : β) : fu (fu f a x) a y = fu f a y := by
  funext k
  unfold fu
  split <;> rfl
theorem hv_ln {n : Nat} (hn : n ≤ 99) : nI ((n + 1) / 2) = nI n - nI (n / 2) := by
  have key : ∀ k : Fin 100, nI ((k.val + 1) / 2) = nI k.val - nI (k.val / 2) := by decide +kernel
  exact key ⟨n, by omega⟩
section CTQ
variable {M : Ms} {a b t : Hf} {c fr : Ce} {j1 j2 j3 : Wa} {n n1 n2 : Nat}
theorem ct8_to {r : Nat → Int32} (J : Inv M) (J' : Inv (spM M a b c fr j1 j2 j3 n)) (la : LvH M a) (lb : LvH M b) (oa : ow M a = c) (ob : ow M b = c) (et : t = pv M (tw a)) (l : ∀ h, LvH M h → wl h ≠ j1 ∧ wl h ≠ j2 ∧ wl h ≠ j3) (j12 : j1 ≠ j2) (j13 : j1 ≠ j3) (j23 : j2 ≠ j3) (hn : n + 2 ≤ sd M c) (wab : wl a ≠ wl b) (gX : ow M (tw a) ≠ c) (gY : ow M (tw b) ≠ c) (cfr : c ≠ fr) (sf : sd M fr = 0) (h1n : n1 ≤ 99) (h2n : n2 ≤ 99) (e1 : ln M (wl a) = nI n1) (e2 : ln M (wl b) = nI n2)
    (A : MeR (ct8 M a b t c fr j1 j2 j3 (nI ((n1 + 1) / 2)) (nI (n1 / 2)) (nI ((n2 + 1) / 2)) (nI (n2 / 2)) n (sd (spM M a b c fr j1 j2 j3 n) c) (sd (spM M a b c fr j1 j2 j3 n) fr)) r) : MeR (spM M a b c fr j1 j2 j3 n) r := by
  have lta : LvH M (tw a) := LvH_tw.mpr la
  have ltb : LvH M (tw b) := LvH_tw.mpr lb
  have en : nx M t = tw a := by rw [et]; exact (J.1.1 _ lta).2.2.1
  have lt : LvH M t := by rw [et]; exact J.pl lta
  have ot : ow M t = ow M (tw a) := by rw [et]; exact J.op lta
  obtain ⟨la1, la2, la3⟩ := l _ la
  obtain ⟨lb1, lb2, lb3⟩ := l _ lb
  have lu : fu (fu (nx M) t (h1 j1)) (h1 j1) (tw a) (tw b) ≠ h1 j2 := by
    rw [fu_n _ _ (fun e => lb1 (by rw [← wl_tw, e, wl_h1]))]
    by_cases z : tw b = t
    · rw [z, fu_s]
      exact fun e => j12 (by have := congrArg wl e; rw [wl_h1, wl_h1] at this; exact this)
    · rw [fu_n _ _ z]
      exact fun e => (l _ (J.nl ltb)).2.1 (by rw [e, wl_h1])
  have Nx := ct6_nx t c fr (nI ((n1 + 1) / 2)) (nI (n1 / 2)) (nI ((n2 + 1) / 2)) (nI (n2 / 2)) n et en l j12 j13 j23 lb (J.pl lb)
  have Pv := ct6_pv t c fr (nI ((n1 + 1) / 2)) (nI (n1 / 2)) (nI ((n2 + 1) / 2)) (nI (n2 / 2)) n et en l j12 j13 j23 lu (J.nl la)
  obtain ⟨f1, f2, f3, f4, f5, f6, f7, f8, f9⟩ := ct7_f M a b t c fr j1 j2 j3 (nI ((n1 + 1) / 2)) (nI (n1 / 2)) (nI ((n2 + 1) / 2)) (nI (n2 / 2)) n (sd (spM M a b c fr j1 j2 j3 n) c) (sd (spM M a b c fr j1 j2 j3 n) fr)
  obtain ⟨g1, g2, g3, g4, g5, g6, g7, g8, g9⟩ := ct5_f M a b t j1 j2 j3 (nI ((n1 + 1) / 2)) (nI (n1 / 2)) (nI ((n2 + 1) / 2)) (nI (n2 / 2))
  have c9 := (ct3_f M a b j1 j2 j3 (nI ((n1 + 1) / 2)) (nI (n1 / 2)) (nI ((n2 + 1) / 2)) (nI (n2 / 2))).2.2.2.2.2.2.2.2
  have o6 := (ct6_f M a b t j1 j2 j3 (nI ((n1 + 1) / 2)) (nI (n1 / 2)) (nI ((n2 + 1) / 2)) (nI (n2 / 2)) n).2.1
  -- who owns what then
  have arc : ∀ k, ow M (itn (nx M) k (nx M a)) = c := fun k => ((J.1.lit k _ (J.nl la)).2).trans ((J.on la).trans oa)
  obtain ⟨_, oa2, _⟩ := J.orb a la
  rw [oa] at oa2
  have hna : ∀ k, k < n → itn (nx M) k (nx M a) ≠ a := fun k hk e => oa2 0 (k + 1) (by omega) (by omega) e.symm
  have H : ∀ g, ((∃ i, i < n ∧ itn (nx M) i (nx M a) = g) → ow (hoL fr n M (nx M a)) g = fr) ∧ ((∀ i, i < n → itn (nx M) i (nx M a) ≠ g) → ow (hoL fr n M (nx M a)) g = ow M g) := hoL_own fr n M (nx M a)
  have Ha := (H a).2 hna
  have Hta := (H (tw a)).2 (fun k _ e => gX (by rw [← e]; exact arc k))
  have Htb := (H (tw b)).2 (fun k _ e => gY (by rw [← e]; exact arc k))
  have So := spM_ow M a b c fr j1 j2 j3 n
  have w2 : ∀ {x y : Hf}, wl x ≠ wl y → x ≠ y := fun h e => h (by rw [e])
  have tb01 : tw b ≠ h0 j1 := fun e => lb1 (by rw [← wl_tw, e, wl_h0])
  have tb11 : tw b ≠ h1 j1 := fun e => lb1 (by rw [← wl_tw, e, wl_h1])
  have h01 : ∀ j : Wa, h0 j ≠ h1 j := fun j e => tw_ne (h0 j) (by rw [tw_h0]; exact e.symm)
  rw [fu_n _ _ tb11, fu_n _ _ tb01, Hta, Htb] at So
  have hd : ∀ {x y : Wa}, x ≠ y → h0 x ≠ h0 y ∧ h0 x ≠ h1 y ∧ h1 x ≠ h0 y ∧ h1 x ≠ h1 y := fun {x y} h => ⟨fun e => h (by have := congrArg wl e; rw [wl_h0, wl_h0] at this; exact this), fun e => h (by have := congrArg wl e; rw [wl_h0, wl_h1] at this; exact this), fun e => h (by have := congrArg wl e; rw [wl_h1, wl_h0] at this; exact this), fun e => h (by have := congrArg wl e; rw [wl_h1, wl_h1] at this; exact this)⟩
  obtain ⟨x12a, x12b, x12c, x12d⟩ := hd j12
  obtain ⟨x13a, x13b, x13c, x13d⟩ := hd j13
  obtain ⟨x23a, x23b, x23c, x23d⟩ := hd j23
  have od : ∀ h, wl h ≠ j1 → wl h ≠ j2 → wl h ≠ j3 → h ≠ h0 j1 ∧ h ≠ h1 j1 ∧ h ≠ h0 j2 ∧ h ≠ h1 j2 ∧ h ≠ h0 j3 ∧ h ≠ h1 j3 := fun h y1 y2 y3 => ⟨fun e => y1 (by rw [e, wl_h0]), fun e => y1 (by rw [e, wl_h1]), fun e => y2 (by rw [e, wl_h0]), fun e => y2 (by rw [e, wl_h1]), fun e => y3 (by rw [e, wl_h0]), fun e => y3 (by rw [e, wl_h1])⟩
  have S1 : ow (spM M a b c fr j1 j2 j3 n) (h0 j1) = fr := by rw [So, fu_n _ _ x13b, fu_n _ _ x13a, fu_n _ _ x12b, fu_n _ _ x12a, fu_n _ _ (h01 j1), fu_s]
  have S2 : ow (spM M a b c fr j1 j2 j3 n) (h1 j1) = ow M (tw a) := by rw [So, fu_n _ _ x13d, fu_n _ _ x13c, fu_n _ _ x12d, fu_n _ _ x12c, fu_s]
  have S3 : ow (spM M a b c fr j1 j2 j3 n) (h0 j2) = fr := by rw [So, fu_n _ _ x23b, fu_n _ _ x23a, fu_n _ _ (h01 j2), fu_s]
  have S4 : ow (spM M a b c fr j1 j2 j3 n) (h1 j2) = ow M (tw b) := by rw [So, fu_n _ _ x23d, fu_n _ _ x23c, fu_s]
  have S5 : ow (spM M a b c fr j1 j2 j3 n) (h0 j3) = c := by rw [So, fu_n _ _ (h01 j3), fu_s]
  have S6 : ow (spM M a b c fr j1 j2 j3 n) (h1 j3) = fr := by rw [So, fu_s]
  have S0 : ∀ h, wl h ≠ j1 → wl h ≠ j2 → wl h ≠ j3 → ow (spM M a b c fr j1 j2 j3 n) h = ow (hoL fr n M (nx M a)) h := fun h y1 y2 y3 => by
    obtain ⟨z1, z2, z3, z4, z5, z6⟩ := od h y1 y2 y3
    rw [So, fu_n _ _ z6, fu_n _ _ z5, fu_n _ _ z4, fu_n _ _ z3, fu_n _ _ z2, fu_n _ _ z1]
  have Sa : ow (spM M a b c fr j1 j2 j3 n) a = c := by rw [S0 a la1 la2 la3, Ha, oa]
  have Slv := spM_lv M a b c fr j1 j2 j3 n
  have L0 : LvH (spM M a b c fr j1 j2 j3 n) (h0 j1) := by
    unfold LvH
    rw [Slv, wl_h0, fu_n _ _ j13, fu_n _ _ j12, fu_s]
  have La : LvH (spM M a b c fr j1 j2 j3 n) a := by
    unfold LvH
    rw [Slv, fu_n _ _ la3, fu_n _ _ la2, fu_n _ _ la1]
    exact la
  obtain ⟨p1, p2, p3⟩ := J'.orb (h0 j1) L0
  obtain ⟨q1, q2, q3⟩ := J'.orb a La
  rw [S1] at p1 p2 p3
  rw [Sa] at q1 q2 q3
  have lit := J'.1.lit
  have o5 : ∀ h, LvH (spM M a b c fr j1 j2 j3 n) h → ow (spM M a b c fr j1 j2 j3 n) h ≠ fr → ow (spM M a b c fr j1 j2 j3 n) h ≠ c → ow (spM M a b c fr j1 j2 j3 n) h = ow (ct5 M a b t j1 j2 j3 (nI ((n1 + 1) / 2)) (nI (n1 / 2)) (nI ((n2 + 1) / 2)) (nI (n2 / 2))) h := by
    intro h lh y1 y2
    rw [g2, fu_n _ _ tb11]
    by_cases z1 : wl h = j1
    · rcases wl2 h j1 z1 with z | z
      · exact absurd (by rw [z]; exact S1) y1
      · rw [z, S2, fu_n _ _ x12d, fu_s, ot]
    by_cases z2 : wl h = j2
    · rcases wl2 h j2 z2 with z | z
      · exact absurd (by rw [z]; exact S3) y1
      · rw [z, S4, fu_s]
    by_cases z3 : wl h = j3
    · rcases wl2 h j3 z3 with z | z
      · exact absurd (by rw [z]; exact S5) y2
      · exact absurd (by rw [z]; exact S6) y1
    obtain ⟨d1, d2, d3, d4, d5, d6⟩ := od h z1 z2 z3
    rw [fu_n _ _ d4, fu_n _ _ d2]
    have q := S0 h z1 z2 z3
    by_cases w : ∃ i, i < n ∧ itn (nx M) i (nx M a) = h
    · exact absurd (q.trans ((H h).1 w)) y1
    · exact q.trans ((H h).2 (fun i hi e => w ⟨i, hi, e⟩))
  have ow8 : ∀ h, LvH (spM M a b c fr j1 j2 j3 n) h → ow (spM M a b c fr j1 j2 j3 n) h = ow (ct7 M a b t c fr j1 j2 j3 (nI ((n1 + 1) / 2)) (nI (n1 / 2)) (nI ((n2 + 1) / 2)) (nI (n2 / 2)) n (sd (spM M a b c fr j1 j2 j3 n) c) (sd (spM M a b c fr j1 j2 j3 n) fr)) h := by
    intro h lh
    rw [f2]
    have eI := (hoL_nx c (sd (spM M a b c fr j1 j2 j3 n) c) (ct6 M a b t j1 j2 j3 (nI ((n1 + 1) / 2)) (nI (n1 / 2)) (nI ((n2 + 1) / 2)) (nI (n2 / 2)) n) a).1
    have K2 := hoL_own fr (sd (spM M a b c fr j1 j2 j3 n) fr) (sSd (hoL c (sd (spM M a b c fr j1 j2 j3 n) c) (ct6 M a b t j1 j2 j3 (nI ((n1 + 1) / 2)) (nI (n1 / 2)) (nI ((n2 + 1) / 2)) (nI (n2 / 2)) n) a) c (sd (spM M a b c fr j1 j2 j3 n) c)) (h0 j1) h
    have K1 := hoL_own c (sd (spM M a b c fr j1 j2 j3 n) c) (ct6 M a b t j1 j2 j3 (nI ((n1 + 1) / 2)) (nI (n1 / 2)) (nI ((n2 + 1) / 2)) (nI (n2 / 2)) n) a h
    simp only [g_nx_sLv, g_nx_sOw, g_nx_sNx, g_nx_sPv, g_nx_sRx, g_nx_sRy, g_nx_sLn, g_nx_sSd, g_nx_sAr, eI, Nx] at K2
    rw [Nx, o6] at K1
    simp only [g_ow_sSd] at K2
    by_cases z : ow (spM M a b c fr j1 j2 j3 n) h = fr
    · rw [z, K2.1 (p3 h lh z)]
    · rw [K2.2 (fun i _ e => z (by rw [← e, (lit i _ L0).2]; exact S1))]
      by_cases y : ow (spM M a b c fr j1 j2 j3 n) h = c
      · rw [y, K1.1 (q3 h lh y)]
      · rw [K1.2 (fun i _ e => y (by rw [← e, (lit i _ La).2]; exact Sa))]
        exact o5 h lh z y
  refine A.to (fun h lh => ?_) (fun v => ?_) ?_ (fun d _ => ?_)
  · refine ⟨?_, ?_, ?_, ?_, ?_, ?_⟩
    · have lh : lv (spM M a b c fr j1 j2 j3 n) (wl h) = true := lh
      rw [Slv] at lh
      unfold LvH ct8 rdM
      simp only [g_lv_sLv, g_lv_sOw, g_lv_sNx, g_lv_sPv, g_lv_sRx, g_lv_sRy, g_lv_sLn, g_lv_sSd, g_lv_sAr, f1]
      exact lh
    · unfold ct8 rdM
      simp only [g_nx_sLv, g_nx_sOw, g_nx_sNx, g_nx_sPv, g_nx_sRx, g_nx_sRy, g_nx_sLn, g_nx_sSd, g_nx_sAr, f3, Nx]
    · unfold ct8 rdM
      simp only [g_pv_sLv, g_pv_sOw, g_pv_sNx, g_pv_sPv, g_pv_sRx, g_pv_sRy, g_pv_sLn, g_pv_sSd, g_pv_sAr, f4, Pv]
    · rw [ow8 h lh]
      unfold ct8 rdM
      simp only [g_ow_sLv, g_ow_sOw, g_ow_sNx, g_ow_sPv, g_ow_sRx, g_ow_sRy, g_ow_sLn, g_ow_sSd, g_ow_sAr]
    · have nb := od b lb1 lb2 lb3
      rw [spM_rx, fu_n (fu (rx M) (h0 j1) (rx M a)) _ (show b ≠ tw (h0 j1) by rw [tw_h0]; exact nb.2.1), fu_n (rx M) _ nb.1]
      unfold ct8 rdM
      simp only [g_rx_sLv, g_rx_sOw, g_rx_sNx, g_rx_sPv, g_rx_sRx, g_rx_sRy, g_rx_sLn, g_rx_sSd, g_rx_sAr, f5]
    · have nb := od b lb1 lb2 lb3
      rw [spM_ry, fu_n (fu (ry M) (h0 j1) (ry M a)) _ (show b ≠ tw (h0 j1) by rw [tw_h0]; exact nb.2.1), fu_n (ry M) _ nb.1]
      unfold ct8 rdM
      simp only [g_ry_sLv, g_ry_sOw, g_ry_sNx, g_ry_sPv, g_ry_sRx, g_ry_sRy, g_ry_sLn, g_ry_sSd, g_ry_sAr, f6]
  · have lv8 : lv (ct8 M a b t c fr j1 j2 j3 (nI ((n1 + 1) / 2)) (nI (n1 / 2)) (nI ((n2 + 1) / 2)) (nI (n2 / 2)) n (sd (spM M a b c fr j1 j2 j3 n) c) (sd (spM M a b c fr j1 j2 j3 n) fr)) = lv (spM M a b c fr j1 j2 j3 n) := by
      rw [Slv]
      unfold ct8 rdM
      simp only [g_lv_sLv, g_lv_sOw, g_lv_sNx, g_lv_sPv, g_lv_sRx, g_lv_sRy, g_lv_sLn, g_lv_sSd, g_lv_sAr, f1]
    have ln8 : ln (ct8 M a b t c fr j1 j2 j3 (nI ((n1 + 1) / 2)) (nI (n1 / 2)) (nI ((n2 + 1) / 2)) (nI (n2 / 2)) n (sd (spM M a b c fr j1 j2 j3 n) c) (sd (spM M a b c fr j1 j2 j3 n) fr)) = ln (spM M a b c fr j1 j2 j3 n) := by
      have i1 : nI n1 / nI 2 = nI (n1 / 2) := nI_div2 (by omega)
      have i2 : nI n2 / nI 2 = nI (n2 / 2) := nI_div2 (by omega)
      rw [spM_ln, e1, i1, fu_n _ _ (fun e => wab e.symm), fu_n _ _ lb1, e2, i2, ← hv_ln h1n, ← hv_ln h2n]
      unfold ct8 rdM
      simp only [g_ln_sLv, g_ln_sOw, g_ln_sNx, g_ln_sPv, g_ln_sRx, g_ln_sRy, g_ln_sLn, g_ln_sSd, g_ln_sAr, f9, c9]
      rw [fu_comm (ln M) _ _ la1, fu_comm _ _ _ lb2]
    rw [lv8, ln8]
  · have s8 : sd (ct8 M a b t c fr j1 j2 j3 (nI ((n1 + 1) / 2)) (nI (n1 / 2)) (nI ((n2 + 1) / 2)) (nI (n2 / 2)) n (sd (spM M a b c fr j1 j2 j3 n) c) (sd (spM M a b c fr j1 j2 j3 n) fr)) = sd (ct7 M a b t c fr j1 j2 j3 (nI ((n1 + 1) / 2)) (nI (n1 / 2)) (nI ((n2 + 1) / 2)) (nI (n2 / 2)) n (sd (spM M a b c fr j1 j2 j3 n) c) (sd (spM M a b c fr j1 j2 j3 n) fr)) := by
      unfold ct8 rdM
      simp only [g_sd_sLv, g_sd_sOw, g_sd_sNx, g_sd_sPv, g_sd_sRx, g_sd_sRy, g_sd_sLn, g_sd_sSd, g_sd_sAr]
    rw [s8, f7, g7, fu_n _ _ tb11, ot]
    have q := spM_sd M a b c fr j1 j2 j3 n
    unfold spS2 spS1 at q
    rw [fu_n _ _ tb11, fu_n _ _ tb01, Hta, Htb] at q
    funext d
    by_cases z : d = fr
    · rw [z, fu_s]
    rw [fu_n _ _ z]
    by_cases y : d = c
    · rw [y, fu_s]
    rw [fu_n _ _ y, q, fu_n _ _ z, fu_n _ _ y]
  · rw [spM_ar]
    unfold ct8 rdM
    simp only [g_ar_sLv, g_ar_sOw, g_ar_sNx, g_ar_sPv, g_ar_sRx, g_ar_sRy, g_ar_sLn, g_ar_sSd, g_ar_sAr, f8]
    rw [fu_idem]
end CTQ
