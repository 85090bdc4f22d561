/-! ===== what setters leave ===== -/
theorem g_lv_sLv (M : Ms) (w : Wa) (v : Bool) : lv (sLv M w v) = fu (lv M) w v := rfl
theorem g_ow_sLv (M : Ms) (w : Wa) (v : Bool) : ow (sLv M w v) = ow M := rfl
theorem g_nx_sLv (M : Ms) (w : Wa) (v : Bool) : nx (sLv M w v) = nx M := rfl
theorem g_pv_sLv (M : Ms) (w : Wa) (v : Bool) : pv (sLv M w v) = pv M := rfl
theorem g_rx_sLv (M : Ms) (w : Wa) (v : Bool) : rx (sLv M w v) = rx M := rfl
theorem g_ry_sLv (M : Ms) (w : Wa) (v : Bool) : ry (sLv M w v) = ry M := rfl
theorem g_ln_sLv (M : Ms) (w : Wa) (v : Bool) : ln (sLv M w v) = ln M := rfl
theorem g_sd_sLv (M : Ms) (w : Wa) (v : Bool) : sd (sLv M w v) = sd M := rfl
theorem g_ar_sLv (M : Ms) (w : Wa) (v : Bool) : ar (sLv M w v) = ar M := rfl
theorem g_lv_sOw (M : Ms) (h : Hf) (v : Ce) : lv (sOw M h v) = lv M := rfl
theorem g_ow_sOw (M : Ms) (h : Hf) (v : Ce) : ow (sOw M h v) = fu (ow M) h v := rfl
theorem g_nx_sOw (M : Ms) (h : Hf) (v : Ce) : nx (sOw M h v) = nx M := rfl
theorem g_pv_sOw (M : Ms) (h : Hf) (v : Ce) : pv (sOw M h v) = pv M := rfl
theorem g_rx_sOw (M : Ms) (h : Hf) (v : Ce) : rx (sOw M h v) = rx M := rfl
theorem g_ry_sOw (M : Ms) (h : Hf) (v : Ce) : ry (sOw M h v) = ry M := rfl
theorem g_ln_sOw (M : Ms) (h : Hf) (v : Ce) : ln (sOw M h v) = ln M := rfl
theorem g_sd_sOw (M : Ms) (h : Hf) (v : Ce) : sd (sOw M h v) = sd M := rfl
theorem g_ar_sOw (M : Ms) (h : Hf) (v : Ce) : ar (sOw M h v) = ar M := rfl
theorem g_lv_sNx (M : Ms) (h v : Hf) : lv (sNx M h v) = lv M := rfl
theorem g_ow_sNx (M : Ms) (h v : Hf) : ow (sNx M h v) = ow M := rfl
theorem g_nx_sNx (M : Ms) (h v : Hf) : nx (sNx M h v) = fu (nx M) h v := rfl
theorem g_pv_sNx (M : Ms) (h v : Hf) : pv (sNx M h v) = pv M := rfl
theorem g_rx_sNx (M : Ms) (h v : Hf) : rx (sNx M h v) = rx M := rfl
theorem g_ry_sNx (M : Ms) (h v : Hf) : ry (sNx M h v) = ry M := rfl
theorem g_ln_sNx (M : Ms) (h v : Hf) : ln (sNx M h v) = ln M := rfl
theorem g_sd_sNx (M : Ms) (h v : Hf) : sd (sNx M h v) = sd M := rfl
theorem g_ar_sNx (M : Ms) (h v : Hf) : ar (sNx M h v) = ar M := rfl
theorem g_lv_sPv (M : Ms) (h v : Hf) : lv (sPv M h v) = lv M := rfl
theorem g_ow_sPv (M : Ms) (h v : Hf) : ow (sPv M h v) = ow M := rfl
theorem g_nx_sPv (M : Ms) (h v : Hf) : nx (sPv M h v) = nx M := rfl
theorem g_pv_sPv (M : Ms) (h v : Hf) : pv (sPv M h v) = fu (pv M) h v := rfl
theorem g_rx_sPv (M : Ms) (h v : Hf) : rx (sPv M h v) = rx M := rfl
theorem g_ry_sPv (M : Ms) (h v : Hf) : ry (sPv M h v) = ry M := rfl
theorem g_ln_sPv (M : Ms) (h v : Hf) : ln (sPv M h v) = ln M := rfl
theorem g_sd_sPv (M : Ms) (h v : Hf) : sd (sPv M h v) = sd M := rfl
theorem g_ar_sPv (M : Ms) (h v : Hf) : ar (sPv M h v) = ar M := rfl
theorem g_lv_sRx (M : Ms) (h : Hf) (v : Int32) : lv (sRx M h v) = lv M := rfl
theorem g_ow_sRx (M : Ms) (h : Hf) (v : Int32) : ow (sRx M h v) = ow M := rfl
theorem g_nx_sRx (M : Ms) (h : Hf) (v : Int32) : nx (sRx M h v) = nx M := rfl
theorem g_pv_sRx (M : Ms) (h : Hf) (v : Int32) : pv (sRx M h v) = pv M := rfl
theorem g_rx_sRx (M : Ms) (h : Hf) (v : Int32) : rx (sRx M h v) = fu (rx M) h v := rfl
theorem g_ry_sRx (M : Ms) (h : Hf) (v : Int32) : ry (sRx M h v) = ry M := rfl
theorem g_ln_sRx (M : Ms) (h : Hf) (v : Int32) : ln (sRx M h v) = ln M := rfl
theorem g_sd_sRx (M : Ms) (h : Hf) (v : Int32) : sd (sRx M h v) = sd M := rfl
theorem g_ar_sRx (M : Ms) (h : Hf) (v : Int32) : ar (sRx M h v) = ar M := rfl
theorem g_lv_sRy (M : Ms) (h : Hf) (v : Int32) : lv (sRy M h v) = lv M := rfl
theorem g_ow_sRy (M : Ms) (h : Hf) (v : Int32) : ow (sRy M h v) = ow M := rfl
theorem g_nx_sRy (M : Ms) (h : Hf) (v : Int32) : nx (sRy M h v) = nx M := rfl
theorem g_pv_sRy (M : Ms) (h : Hf) (v : Int32) : pv (sRy M h v) = pv M := rfl
theorem g_rx_sRy (M : Ms) (h : Hf) (v : Int32) : rx (sRy M h v) = rx M := rfl
theorem g_ry_sRy (M : Ms) (h : Hf) (v : Int32) : ry (sRy M h v) = fu (ry M) h v := rfl
theorem g_ln_sRy (M : Ms) (h : Hf) (v : Int32) : ln (sRy M h v) = ln M := rfl
theorem g_sd_sRy (M : Ms) (h : Hf) (v : Int32) : sd (sRy M h v) = sd M := rfl
theorem g_ar_sRy (M : Ms) (h : Hf) (v : Int32) : ar (sRy M h v) = ar M := rfl
theorem g_lv_sLn (M : Ms) (w : Wa) (v : Int32) : lv (sLn M w v) = lv M := rfl
theorem g_ow_sLn (M : Ms) (w : Wa) (v : Int32) : ow (sLn M w v) = ow M := rfl
theorem g_nx_sLn (M : Ms) (w : Wa) (v : Int32) : nx (sLn M w v) = nx M := rfl
theorem g_pv_sLn (M : Ms) (w : Wa) (v : Int32) : pv (sLn M w v) = pv M := rfl
theorem g_rx_sLn (M : Ms) (w : Wa) (v : Int32) : rx (sLn M w v) = rx M := rfl
theorem g_ry_sLn (M : Ms) (w : Wa) (v : Int32) : ry (sLn M w v) = ry M := rfl
theorem g_ln_sLn (M : Ms) (w : Wa) (v : Int32) : ln (sLn M w v) = fu (ln M) w v := rfl
theorem g_sd_sLn (M : Ms) (w : Wa) (v : Int32) : sd (sLn M w v) = sd M := rfl
theorem g_ar_sLn (M : Ms) (w : Wa) (v : Int32) : ar (sLn M w v) = ar M := rfl
theorem g_lv_sSd (M : Ms) (c : Ce) (v : Nat) : lv (sSd M c v) = lv M := rfl
theorem g_ow_sSd (M : Ms) (c : Ce) (v : Nat) : ow (sSd M c v) = ow M := rfl
theorem g_nx_sSd (M : Ms) (c : Ce) (v : Nat) : nx (sSd M c v) = nx M := rfl
theorem g_pv_sSd (M : Ms) (c : Ce) (v : Nat) : pv (sSd M c v) = pv M := rfl
theorem g_rx_sSd (M : Ms) (c : Ce) (v : Nat) : rx (sSd M c v) = rx M := rfl
theorem g_ry_sSd (M : Ms) (c : Ce) (v : Nat) : ry (sSd M c v) = ry M := rfl
theorem g_ln_sSd (M : Ms) (c : Ce) (v : Nat) : ln (sSd M c v) = ln M := rfl
theorem g_sd_sSd (M : Ms) (c : Ce) (v : Nat) : sd (sSd M c v) = fu (sd M) c v := rfl
theorem g_ar_sSd (M : Ms) (c : Ce) (v : Nat) : ar (sSd M c v) = ar M := rfl
theorem g_lv_sAr (M : Ms) (c : Ce) (v : Int32) : lv (sAr M c v) = lv M := rfl
theorem g_ow_sAr (M : Ms) (c : Ce) (v : Int32) : ow (sAr M c v) = ow M := rfl
theorem g_nx_sAr (M : Ms) (c : Ce) (v : Int32) : nx (sAr M c v) = nx M := rfl
theorem g_pv_sAr (M : Ms) (c : Ce) (v : Int32) : pv (sAr M c v) = pv M := rfl
theorem g_rx_sAr (M : Ms) (c : Ce) (v : Int32) : rx (sAr M c v) = rx M := rfl
theorem g_ry_sAr (M : Ms) (c : Ce) (v : Int32) : ry (sAr M c v) = ry M := rfl
theorem g_ln_sAr (M : Ms) (c : Ce) (v : Int32) : ln (sAr M c v) = ln M := rfl
theorem g_sd_sAr (M : Ms) (c : Ce) (v : Int32) : sd (sAr M c v) = sd M := rfl
theorem g_ar_sAr (M : Ms) (c : Ce) (v : Int32) : ar (sAr M c v) = fu (ar M) c v := rfl
section FLIP
variable {M : Ms} {w : Wa}
theorem flM_sd (M : Ms) (w : Wa) : sd (flM M w) = fu (fu (fu (fu (sd M) (ow M (h0 w)) (sd M (ow M (h0 w)) - 1)) (ow M (h1 w)) (fu (sd M) (ow M (h0 w)) (sd M (ow M (h0 w)) - 1) (ow M (h1 w)) - 1)) (ow M (tw (nx M (h0 w)))) (fu (fu (sd M) (ow M (h0 w)) (sd M (ow M (h0 w)) - 1)) (ow M (h1 w)) (fu (sd M) (ow M (h0 w)) (sd M (ow M (h0 w)) - 1) (ow M (h1 w)) - 1) (ow M (tw (nx M (h0 w)))) + 1)) (fu (ow M) (h0 w) (ow M (tw (nx M (h0 w)))) (tw (nx M (h1 w)))) (fu (fu (fu (sd M) (ow M (h0 w)) (sd M (ow M (h0 w)) - 1)) (ow M (h1 w)) (fu (sd M) (ow M (h0 w)) (sd M (ow M (h0 w)) - 1) (ow M (h1 w)) - 1)) (ow M (tw (nx M (h0 w)))) (fu (fu (sd M) (ow M (h0 w)) (sd M (ow M (h0 w)) - 1)) (ow M (h1 w)) (fu (sd M) (ow M (h0 w)) (sd M (ow M (h0 w)) - 1) (ow M (h1 w)) - 1) (ow M (tw (nx M (h0 w)))) + 1) (fu (ow M) (h0 w) (ow M (tw (nx M (h0 w)))) (tw (nx M (h1 w)))) + 1) := by
  unfold flM rdM inM unM
  simp only [g_ow_sLv, g_nx_sLv, g_sd_sLv, g_ow_sOw, g_nx_sOw, g_sd_sOw, g_ow_sNx, g_nx_sNx, g_sd_sNx, g_ow_sPv, g_nx_sPv, g_sd_sPv, g_ow_sRx, g_nx_sRx, g_sd_sRx, g_ow_sRy, g_nx_sRy, g_sd_sRy, g_ow_sLn, g_nx_sLn, g_sd_sLn, g_ow_sSd, g_nx_sSd, g_sd_sSd, g_ow_sAr, g_nx_sAr, g_sd_sAr]
theorem flM_ow (M : Ms) (w : Wa) : ow (flM M w) = fu (fu (ow M) (h0 w) (ow M (tw (nx M (h0 w))))) (h1 w) (fu (ow M) (h0 w) (ow M (tw (nx M (h0 w)))) (tw (nx M (h1 w)))) := by
  unfold flM rdM inM unM
  simp only [g_ow_sLv, g_ow_sOw, g_ow_sNx, g_ow_sPv, g_ow_sRx, g_ow_sRy, g_ow_sLn, g_ow_sSd, g_ow_sAr]
theorem flM_ln (M : Ms) (w : Wa) : ln (flM M w) = fu (ln M) w (nI 10) := by
  unfold flM rdM inM unM
  simp only [g_ln_sLv, g_ln_sOw, g_ln_sNx, g_ln_sPv, g_ln_sRx, g_ln_sRy, g_ln_sLn, g_ln_sSd, g_ln_sAr]
theorem flM_ar (M : Ms) (w : Wa) : ar (flM M w) = ar M := by
  unfold flM rdM inM unM
  simp only [g_ar_sLv, g_ar_sOw, g_ar_sNx, g_ar_sPv, g_ar_sRx, g_ar_sRy, g_ar_sLn, g_ar_sSd, g_ar_sAr]
theorem flM_rx (M : Ms) (w : Wa) : rx (flM M w) = fu (fu (rx M) (h0 w) (rx M (tw (nx M (h0 w))) + rx M (pv M (h0 w)))) (tw (h0 w)) (-(rx M (tw (nx M (h0 w))) + rx M (pv M (h0 w)))) := by
  unfold flM rdM inM unM
  simp only [g_rx_sLv, g_rx_sOw, g_rx_sNx, g_rx_sPv, g_rx_sRx, g_rx_sRy, g_rx_sLn, g_rx_sSd, g_rx_sAr]
theorem flM_ry (M : Ms) (w : Wa) : ry (flM M w) = fu (fu (ry M) (h0 w) (ry M (tw (nx M (h0 w))) + ry M (pv M (h0 w)))) (tw (h0 w)) (-(ry M (tw (nx M (h0 w))) + ry M (pv M (h0 w)))) := by
  unfold flM rdM inM unM
  simp only [g_ry_sLv, g_ry_sOw, g_ry_sNx, g_ry_sPv, g_ry_sRx, g_ry_sRy, g_ry_sLn, g_ry_sSd, g_ry_sAr]
theorem flM_nx (M : Ms) (w : Wa) (e1 : pv M (h0 w) ≠ h0 w) (e2 : pv M (h0 w) ≠ h1 w) (e3 : nx M (h0 w) ≠ h1 w) : nx (flM M w) = fu (fu (fu (fu (fu (fu (nx M) (pv M (h0 w)) (nx M (h0 w))) (pv M (h1 w)) (nx M (h1 w))) (tw (nx M (h0 w))) (h0 w)) (h0 w) (tw (pv M (h1 w)))) (tw (nx M (h1 w))) (h1 w)) (h1 w) (tw (pv M (h0 w))) := by
  unfold flM rdM inM unM
  simp only [g_nx_sLv, g_pv_sLv, g_nx_sOw, g_pv_sOw, g_nx_sNx, g_pv_sNx, g_nx_sPv, g_pv_sPv, g_nx_sRx, g_pv_sRx, g_nx_sRy, g_pv_sRy, g_nx_sLn, g_pv_sLn, g_nx_sSd, g_pv_sSd, g_nx_sAr, g_pv_sAr]
  rw [fu_n (nx M) (nx M (h0 w)) (fun e => e1 e.symm), fu_n (pv M) (pv M (h0 w)) (fun e => e3 e.symm), fu_n (nx M) (nx M (h0 w)) (fun e => e2 e.symm)]
theorem flM_pv (M : Ms) (w : Wa) (e1 : pv M (h0 w) ≠ h0 w) (e2 : pv M (h0 w) ≠ h1 w) (e3 : nx M (h0 w) ≠ h1 w) (e4 : pv M (h1 w) ≠ h1 w) : pv (flM M w) = fu (fu (fu (fu (fu (fu (pv M) (nx M (h0 w)) (pv M (h0 w))) (nx M (h1 w)) (pv M (h1 w))) (h0 w) (tw (nx M (h0 w)))) (tw (pv M (h1 w))) (h0 w)) (h1 w) (tw (nx M (h1 w)))) (tw (pv M (h0 w))) (h1 w) := by
  unfold flM rdM inM unM
  simp only [g_nx_sLv, g_pv_sLv, g_nx_sOw, g_pv_sOw, g_nx_sNx, g_pv_sNx, g_nx_sPv, g_pv_sPv, g_nx_sRx, g_pv_sRx, g_nx_sRy, g_pv_sRy, g_nx_sLn, g_pv_sLn, g_nx_sSd, g_pv_sSd, g_nx_sAr, g_pv_sAr]
  rw [fu_n (nx M) (nx M (h0 w)) (fun e => e1 e.symm), fu_n (pv M) (pv M (h0 w)) (fun e => e3 e.symm), fu_n (nx M) (nx M (h0 w)) (fun e => e2 e.symm), fu_n _ (nx M (h1 w)) (fun e => e4 e.symm), fu_n (nx M) (nx M (h0 w)) (fun e => e2 e.symm)]
end FLIP
