section BCK
variable {M : Ms} {w : Wa}
theorem Inv.can2 (J : Inv M) (hl : lv M w = true) (hc : can M w = true) : can (flM M w) w = true ∧ ow (flM M w) (h0 w) = en M (h0 w) ∧ ow (flM M w) (h1 w) = en M (h1 w) ∧ en (flM M w) (h0 w) = ow M (h1 w) ∧ en (flM M w) (h1 w) = ow M (h0 w) := by
  obtain ⟨⟨c1, c2⟩, c3, c4, c5, c6, c7, c8⟩ := can_iff.mp hc
  have la : LvH M (h0 w) := LvH_h0.mpr hl
  have lo : LvH M (h1 w) := LvH_h1.mpr hl
  have Fnx := flM_nx M w (J.pne la) (fun e => c3 (by rw [← J.op la, e])) (fun e => c3 (by rw [← J.on la, e]))
  have Fow := flM_ow M w
  have Fsd := flM_sd M w
  have ao : h0 w ≠ h1 w := fun e => c3 (by rw [e])
  have oP := J.op la
  have oP2 := J.op lo
  have pa := J.pne la
  have po := J.pne lo
  have r5 : tw (nx M (h1 w)) ≠ h0 w := fun e => c5 (by show _ = ow M (tw (nx M (h1 w))); rw [e])
  have s2 : pv M (h1 w) ≠ h0 w := fun e => c3 (by rw [← oP2, e])
  have s3 : pv M (h0 w) ≠ h1 w := fun e => c3 (by rw [← oP, e])
  rw [fu_n (ow M) _ r5] at Fow
  have k1 : ow (flM M w) (h0 w) = en M (h0 w) := by rw [Fow, fu_n _ _ ao, fu_s]
  have k2 : ow (flM M w) (h1 w) = en M (h1 w) := by rw [Fow, fu_s]
  have k3 : en (flM M w) (h0 w) = ow M (h1 w) := by
    show ow (flM M w) (tw (nx (flM M w) (h0 w))) = _
    rw [Fnx, fu_n _ _ ao, fu_n _ _ (fun e => r5 e.symm), fu_s, tw_tw, Fow, fu_n _ _ po, fu_n _ _ s2, oP2]
  have k4 : en (flM M w) (h1 w) = ow M (h0 w) := by
    show ow (flM M w) (tw (nx (flM M w) (h1 w))) = _
    rw [Fnx, fu_s, tw_tw, Fow, fu_n _ _ s3, fu_n _ _ pa, oP]
  have pC := J.pos (h := tw (nx M (h0 w))) (LvH_tw.mpr (J.nl la))
  have pD := J.pos (h := tw (nx M (h1 w))) (LvH_tw.mpr (J.nl lo))
  have J2 := J.fl hl hc
  refine ⟨can_iff.mpr ⟨⟨?_, ?_⟩, ?_⟩, k1, k2, k3, k4⟩
  · rw [k1, Fsd, fu_n (ow M) _ r5]
    show 3 < fu (fu (fu (fu (sd M) (ow M (h0 w)) _) (ow M (h1 w)) _) (en M (h0 w)) _) (en M (h1 w)) _ (en M (h0 w))
    rw [fu_n _ _ c8, fu_s]
    show 3 < fu (fu (sd M) (ow M (h0 w)) _) (ow M (h1 w)) _ (en M (h0 w)) + 1
    rw [fu_n _ _ c6.symm, fu_n _ _ c4.symm]
    show 3 < sd M (ow M (tw (nx M (h0 w)))) + 1
    omega
  · rw [k2, Fsd, fu_n (ow M) _ r5]
    show 3 < fu (fu (fu (fu (sd M) (ow M (h0 w)) _) (ow M (h1 w)) _) (en M (h0 w)) _) (en M (h1 w)) _ (en M (h1 w))
    rw [fu_s]
    show 3 < fu (fu (fu (sd M) (ow M (h0 w)) _) (ow M (h1 w)) _) (en M (h0 w)) _ (en M (h1 w)) + 1
    rw [fu_n _ _ c8.symm, fu_n _ _ c7.symm, fu_n _ _ c5.symm]
    show 3 < sd M (ow M (tw (nx M (h1 w)))) + 1
    omega
  · rw [k1, k2, k3, k4]
    exact ⟨c8, c6.symm, c4.symm, c7.symm, c5.symm, c3.symm⟩
theorem Inv_back : BackI Inv := by
  intro M w J hl hc
  have J2 := J.fl hl hc
  have c2 := (J.can2 hl hc).1
  have l2 : lv (flM M w) w = true := by rw [flM_lv]; exact hl
  exact ⟨J2.flok l2 c2, J2.fl l2 c2⟩
end BCK
theorem Cy.sh {L : Hf → Prop} {M : Ms} {o : Hf → Ce} {u : Hf} (C : Cy L (nx M) (pv M) o) (lu : L u) (hn : nx M u ≠ u) : Cy (fun h => L h ∧ h ≠ u) (nx (shS M u)) (pv (shS M u)) o := by
  have hp : pv M u ≠ u := fun e => hn (by have := (C.1 u lu).2.2.1; rw [e] at this; exact this)
  have := C.un lu hn
  rw [← (unM_f M u hp).1, ← (unM_f M u hp).2] at this
  exact this
theorem cH_rm (P : Hf → Bool) (a : Hf) : cH P = cH (fun g => P g && decide (g ≠ a)) + b1 (P a) := by
  have := cH_upd (P := P) (P' := fun g => P g && decide (g ≠ a)) a (fun x hx => by rw [decide_eq_true hx, Bool.and_true])
  rw [decide_eq_false (fun h : a ≠ a => h rfl), Bool.and_false, show b1 false = 0 from rfl, Nat.add_zero] at this
  exact this
theorem sm_rm {n : Nat} (f g : Nat → Nat) (i : Nat) (hi : i < n) (h : ∀ j, j < n → j ≠ i → f j = g j) (h1 : f i = 1) (h0 : g i = 0) : sm n f = sm n g + 1 := by
  have := sm_upd (f := f) (g := g) (i := i) n hi h
  omega
theorem cWf (f : Wa → Bool) (w : Wa) (hw : f w = true) : sm 144 (fun i => b1 (f (wI i))) = sm 144 (fun i => b1 (fu f w false (wI i))) + 1 := by
  refine sm_rm _ _ w.val w.isLt (fun j hj hne => ?_) ?_ ?_
  · show b1 (f (wI j)) = b1 (fu f w false (wI j))
    rw [fu_n _ _ (fun e => hne (by rw [← e, wI_lt hj]))]
  · show b1 (f (wI w.val)) = 1
    rw [wI_val, hw]
    rfl
  · show b1 (fu f w false (wI w.val)) = 0
    rw [wI_val, fu_s]
    rfl
theorem cCf (f g : Ce → Nat) (c : Ce) (h1 : 0 < f c) (h0 : g c = 0) (h : ∀ d, d ≠ c → (0 < f d ↔ 0 < g d)) : sm 48 (fun i => b1 (decide (0 < f (cI i)))) = sm 48 (fun i => b1 (decide (0 < g (cI i)))) + 1 := by
  refine sm_rm _ _ c.val c.isLt (fun j hj hne => ?_) ?_ ?_
  · show b1 (decide (0 < f (cI j))) = b1 (decide (0 < g (cI j)))
    rw [decide_eq_decide.mpr (h (cI j) (fun e => hne (by rw [← e, cI_lt hj])))]
  · show b1 (decide (0 < f (cI c.val))) = 1
    rw [cI_val, b1_t h1]
  · show b1 (decide (0 < g (cI c.val))) = 0
    rw [cI_val, b1_f (by omega)]
theorem wl_eq {a b : Hf} (e : wl a = wl b) : a = b ∨ a = tw b := by
  rcases wl2 a _ e with h | h <;> rcases wl2 b _ rfl with k | k
  · exact Or.inl (h.trans k.symm)
  · refine Or.inr (h.trans ?_)
    rw [k, tw_h1, wl_h1]
  · refine Or.inr (h.trans ?_)
    rw [k, tw_h0, wl_h0]
  · exact Or.inl (h.trans k.symm)
section VAN
variable {M : Ms} {c : Ce}
theorem shS_lv (M : Ms) (u : Hf) : lv (shS M u) = fu (lv M) (wl u) false := by
  unfold shS unM
  simp only [g_lv_sLv, g_lv_sSd, g_lv_sPv, g_lv_sNx]
theorem shS_ow (M : Ms) (u : Hf) : ow (shS M u) = ow M := by
  unfold shS unM
  simp only [g_ow_sLv, g_ow_sSd, g_ow_sPv, g_ow_sNx]
theorem shS_sd (M : Ms) (u : Hf) : sd (shS M u) = fu (sd M) (ow M u) (sd M (ow M u) - 1) := by
  unfold shS unM
  simp only [g_sd_sLv, g_sd_sSd, g_sd_sPv, g_sd_sNx]
theorem shS_ln (M : Ms) (u : Hf) : ln (shS M u) = ln M := by
  unfold shS unM
  simp only [g_ln_sLv, g_ln_sSd, g_ln_sPv, g_ln_sNx]
theorem shS_ar (M : Ms) (u : Hf) : ar (shS M u) = ar M := by
  unfold shS unM
  simp only [g_ar_sLv, g_ar_sSd, g_ar_sPv, g_ar_sNx]
theorem shS_rx (M : Ms) (u : Hf) : rx (shS M u) = rx M := by
  unfold shS unM
  simp only [g_rx_sLv, g_rx_sSd, g_rx_sPv, g_rx_sNx]
theorem shS_ry (M : Ms) (u : Hf) : ry (shS M u) = ry M := by
  unfold shS unM
  simp only [g_ry_sLv, g_ry_sSd, g_ry_sPv, g_ry_sNx]
theorem shS_nx (M : Ms) (u : Hf) : nx (shS M u) = fu (nx M) (pv M u) (nx M u) := by
  unfold shS unM
  simp only [g_nx_sLv, g_nx_sSd, g_nx_sPv, g_nx_sNx]
theorem shS_pv (M : Ms) (u : Hf) (h : pv M u ≠ u) : pv (shS M u) = fu (pv M) (nx M u) (pv M u) := by
  unfold shS unM
  simp only [g_pv_sLv, g_pv_sSd, g_pv_sPv, g_pv_sNx, g_nx_sNx]
  rw [fu_n _ _ (fun e => h e.symm)]
theorem vaM_f (M : Ms) (c : Ce) (u0 u1 u2 : Hf) : lv (vaM M c u0 u1 u2) = lv (shS (shS (shS M u0) u1) u2) ∧ ow (vaM M c u0 u1 u2) = ow M ∧ nx (vaM M c u0 u1 u2) = nx (shS (shS (shS M u0) u1) u2) ∧ pv (vaM M c u0 u1 u2) = pv (shS (shS (shS M u0) u1) u2) ∧ sd (vaM M c u0 u1 u2) = fu (sd (shS (shS (shS M u0) u1) u2)) c 0 ∧ ln (vaM M c u0 u1 u2) = ln M := by
  unfold vaM
  refine ⟨?_, ?_, ?_, ?_, ?_, ?_⟩
  · simp only [g_lv_sAr, g_lv_sSd]
  · simp only [g_ow_sAr, g_ow_sSd, shS_ow]
  · simp only [g_nx_sAr, g_nx_sSd]
  · simp only [g_pv_sAr, g_pv_sSd]
  · simp only [g_sd_sAr, g_sd_sSd]
  · simp only [g_ln_sAr, g_ln_sSd, shS_ln]
/-- a cell of three: what lies about it -/
theorem Inv.tri (J : Inv M) {h : Hf} (hl : LvH M h) (h3 : sd M (ow M h) = 3) : nx M (nx M h) = pv M h ∧ nx M (pv M h) = h ∧ (∀ g, LvH M g → ow M g = ow M h → g = h ∨ g = nx M h ∨ g = pv M h) := by
  obtain ⟨o1, o2, o3⟩ := J.orb h hl
  rw [h3] at o1 o3
  have e3 : nx M (nx M (nx M h)) = h := o1
  have e2 : nx M (nx M h) = pv M h := by
    have := J.pn (J.nl (J.nl hl))
    rw [e3] at this
    exact this.symm
  refine ⟨e2, J.np hl, fun g gl eg => ?_⟩
  obtain ⟨k, hk, ek⟩ := o3 g gl eg
  have : k = 0 ∨ k = 1 ∨ k = 2 := by omega
  rcases this with rfl | rfl | rfl
  · exact Or.inl ek.symm
  · exact Or.inr (Or.inl ek.symm)
  · refine Or.inr (Or.inr ?_)
    rw [← ek, ← e2]
    rfl
end VAN
