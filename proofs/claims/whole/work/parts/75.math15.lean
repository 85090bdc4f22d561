section SPF
variable (M : Ms) (a b : Hf) (c fr : Ce) (j1 j2 j3 : Wa) (n : Nat)
theorem spM_lv : lv (spM M a b c fr j1 j2 j3 n) = fu (fu (fu (lv M) j1 true) j2 true) j3 true := by
  obtain ⟨k1, k2, k3, k4, k5, k6, k7, k8⟩ := hoL_nx fr n M (nx M a)
  unfold spM spE spD spC spB spA hvM awM lkM rdM
  split <;> simp only [g_lv_sLv, g_lv_sOw, g_lv_sNx, g_lv_sPv, g_lv_sRx, g_lv_sRy, g_lv_sLn, g_lv_sSd, g_lv_sAr, k3]
theorem spM_ow : ow (spM M a b c fr j1 j2 j3 n) = fu (fu (fu (fu (fu (fu (ow (hoL fr n M (nx M a))) (h0 j1) fr) (h1 j1) (ow (hoL fr n M (nx M a)) (tw a))) (h0 j2) fr) (h1 j2) (fu (fu (ow (hoL fr n M (nx M a))) (h0 j1) fr) (h1 j1) (ow (hoL fr n M (nx M a)) (tw a)) (tw b))) (h0 j3) c) (h1 j3) fr := by
  unfold spM spE spD spC spB spA hvM awM lkM rdM
  split <;> simp only [g_ow_sLv, g_ow_sOw, g_ow_sNx, g_ow_sPv, g_ow_sRx, g_ow_sRy, g_ow_sLn, g_ow_sSd, g_ow_sAr]
theorem spM_nx1 (h : n ≠ 0) : nx (spM M a b c fr j1 j2 j3 n) = fu (fu (fu (fu (fu (fu (fu (fu (fu (fu (nx M) (pv M (tw a)) (h1 j1)) (h1 j1) (tw a)) (h1 j2) (fu (fu (nx M) (pv M (tw a)) (h1 j1)) (h1 j1) (tw a) (tw b))) (tw b) (h1 j2)) a (h0 j3)) (h0 j3) b) (h0 j2) (h1 j3)) (h1 j3) (h0 j1)) (h0 j1) (nx M a)) (pv M b) (h0 j2) := by
  obtain ⟨k1, k2, k3, k4, k5, k6, k7, k8⟩ := hoL_nx fr n M (nx M a)
  unfold spM spE spD spC spB spA hvM awM lkM rdM
  rw [if_neg h]
  simp only [g_nx_sLv, g_pv_sLv, g_nx_sOw, g_pv_sOw, g_nx_sNx, g_pv_sNx, g_nx_sPv, g_pv_sPv, g_nx_sRx, g_pv_sRx, g_nx_sRy, g_pv_sRy, g_nx_sLn, g_pv_sLn, g_nx_sSd, g_pv_sSd, g_nx_sAr, g_pv_sAr, k1, k2]
theorem spM_nx0 (h : n = 0) : nx (spM M a b c fr j1 j2 j3 n) = fu (fu (fu (fu (fu (fu (fu (fu (fu (nx M) (pv M (tw a)) (h1 j1)) (h1 j1) (tw a)) (h1 j2) (fu (fu (nx M) (pv M (tw a)) (h1 j1)) (h1 j1) (tw a) (tw b))) (tw b) (h1 j2)) a (h0 j3)) (h0 j3) b) (h0 j2) (h1 j3)) (h1 j3) (h0 j1)) (h0 j1) (h0 j2) := by
  obtain ⟨k1, k2, k3, k4, k5, k6, k7, k8⟩ := hoL_nx fr n M (nx M a)
  unfold spM spE spD spC spB spA hvM awM lkM rdM
  rw [if_pos h]
  simp only [g_nx_sLv, g_pv_sLv, g_nx_sOw, g_pv_sOw, g_nx_sNx, g_pv_sNx, g_nx_sPv, g_pv_sPv, g_nx_sRx, g_pv_sRx, g_nx_sRy, g_pv_sRy, g_nx_sLn, g_pv_sLn, g_nx_sSd, g_pv_sSd, g_nx_sAr, g_pv_sAr, k1, k2]
theorem spM_pv1 (h : n ≠ 0) : pv (spM M a b c fr j1 j2 j3 n) = fu (fu (fu (fu (fu (fu (fu (fu (fu (fu (pv M) (h1 j1) (pv M (tw a))) (tw a) (h1 j1)) (fu (fu (nx M) (pv M (tw a)) (h1 j1)) (h1 j1) (tw a) (tw b)) (h1 j2)) (h1 j2) (tw b)) (h0 j3) a) b (h0 j3)) (h1 j3) (h0 j2)) (h0 j1) (h1 j3)) (nx M a) (h0 j1)) (h0 j2) (pv M b) := by
  obtain ⟨k1, k2, k3, k4, k5, k6, k7, k8⟩ := hoL_nx fr n M (nx M a)
  unfold spM spE spD spC spB spA hvM awM lkM rdM
  rw [if_neg h]
  simp only [g_nx_sLv, g_pv_sLv, g_nx_sOw, g_pv_sOw, g_nx_sNx, g_pv_sNx, g_nx_sPv, g_pv_sPv, g_nx_sRx, g_pv_sRx, g_nx_sRy, g_pv_sRy, g_nx_sLn, g_pv_sLn, g_nx_sSd, g_pv_sSd, g_nx_sAr, g_pv_sAr, k1, k2]
theorem spM_pv0 (h : n = 0) : pv (spM M a b c fr j1 j2 j3 n) = fu (fu (fu (fu (fu (fu (fu (fu (fu (pv M) (h1 j1) (pv M (tw a))) (tw a) (h1 j1)) (fu (fu (nx M) (pv M (tw a)) (h1 j1)) (h1 j1) (tw a) (tw b)) (h1 j2)) (h1 j2) (tw b)) (h0 j3) a) b (h0 j3)) (h1 j3) (h0 j2)) (h0 j1) (h1 j3)) (h0 j2) (h0 j1) := by
  obtain ⟨k1, k2, k3, k4, k5, k6, k7, k8⟩ := hoL_nx fr n M (nx M a)
  unfold spM spE spD spC spB spA hvM awM lkM rdM
  rw [if_pos h]
  simp only [g_nx_sLv, g_pv_sLv, g_nx_sOw, g_pv_sOw, g_nx_sNx, g_pv_sNx, g_nx_sPv, g_pv_sPv, g_nx_sRx, g_pv_sRx, g_nx_sRy, g_pv_sRy, g_nx_sLn, g_pv_sLn, g_nx_sSd, g_pv_sSd, g_nx_sAr, g_pv_sAr, k1, k2]
def spS1 : Ce → Nat := fu (sd M) (ow (hoL fr n M (nx M a)) (tw a)) (sd M (ow (hoL fr n M (nx M a)) (tw a)) + 1)
def spS2 : Ce → Nat := fu (spS1 M a fr n) (fu (fu (ow (hoL fr n M (nx M a))) (h0 j1) fr) (h1 j1) (ow (hoL fr n M (nx M a)) (tw a)) (tw b)) (spS1 M a fr n (fu (fu (ow (hoL fr n M (nx M a))) (h0 j1) fr) (h1 j1) (ow (hoL fr n M (nx M a)) (tw a)) (tw b)) + 1)
theorem spM_sd : sd (spM M a b c fr j1 j2 j3 n) = fu (fu (spS2 M a b fr j1 n) c (spS2 M a b fr j1 n c + 1 - n)) fr (3 + n) := by
  obtain ⟨k1, k2, k3, k4, k5, k6, k7, k8⟩ := hoL_nx fr n M (nx M a)
  unfold spS2 spS1
  unfold spM spE spD spC spB spA hvM awM lkM rdM
  split <;> simp only [g_ow_sLv, g_sd_sLv, g_ow_sOw, g_sd_sOw, g_ow_sNx, g_sd_sNx, g_ow_sPv, g_sd_sPv, g_ow_sRx, g_sd_sRx, g_ow_sRy, g_sd_sRy, g_ow_sLn, g_sd_sLn, g_ow_sSd, g_sd_sSd, g_ow_sAr, g_sd_sAr, k4]
theorem spM_ln : ln (spM M a b c fr j1 j2 j3 n) = fu (fu (fu (fu (fu (ln M) j1 (ln M (wl a) / nI 2)) (wl a) (ln M (wl a) - ln M (wl a) / nI 2)) j2 (fu (fu (ln M) j1 (ln M (wl a) / nI 2)) (wl a) (ln M (wl a) - ln M (wl a) / nI 2) (wl b) / nI 2)) (wl b) (fu (fu (ln M) j1 (ln M (wl a) / nI 2)) (wl a) (ln M (wl a) - ln M (wl a) / nI 2) (wl b) - fu (fu (ln M) j1 (ln M (wl a) / nI 2)) (wl a) (ln M (wl a) - ln M (wl a) / nI 2) (wl b) / nI 2)) j3 (nI 10) := by
  obtain ⟨k1, k2, k3, k4, k5, k6, k7, k8⟩ := hoL_nx fr n M (nx M a)
  unfold spM spE spD spC spB spA hvM awM lkM rdM
  split <;> simp only [g_ln_sLv, g_ln_sOw, g_ln_sNx, g_ln_sPv, g_ln_sRx, g_ln_sRy, g_ln_sLn, g_ln_sSd, g_ln_sAr, k6]
end SPF
theorem hoL_own (c : Ce) : ∀ (k : Nat) (M : Ms) (h g : Hf), ((∃ i, i < k ∧ itn (nx M) i h = g) → ow (hoL c k M h) g = c) ∧ ((∀ i, i < k → itn (nx M) i h ≠ g) → ow (hoL c k M h) g = ow M g)
  | 0, M, h, g => ⟨fun ⟨i, hi, _⟩ => absurd hi (Nat.not_lt_zero _), fun _ => rfl⟩
  | k + 1, M, h, g => by
    have ih := hoL_own c k (sOw M h c) (nx M h) g
    have en : nx (sOw M h c) = nx M := rfl
    rw [en] at ih
    have eo : ow (sOw M h c) = fu (ow M) h c := rfl
    rw [eo] at ih
    show ((∃ i, i < k + 1 ∧ itn (nx M) i h = g) → ow (hoL c k (sOw M h c) (nx M h)) g = c) ∧ ((∀ i, i < k + 1 → itn (nx M) i h ≠ g) → ow (hoL c k (sOw M h c) (nx M h)) g = ow M g)
    constructor
    · rintro ⟨i, hi, ei⟩
      by_cases z : ∃ i, i < k ∧ itn (nx M) i (nx M h) = g
      · exact ih.1 z
      · have hn : ∀ i, i < k → itn (nx M) i (nx M h) ≠ g := fun i hi e => z ⟨i, hi, e⟩
        rw [ih.2 hn]
        cases i with
        | zero =>
          have : h = g := ei
          rw [this, fu_s]
        | succ i => exact absurd ⟨i, by omega, ei⟩ z
    · intro hn
      have h0_ : g ≠ h := fun e => hn 0 (by omega) e.symm
      rw [ih.2 (fun i hi => hn (i + 1) (by omega)), fu_n _ _ h0_]
/-- the halves handed over, counted -/
theorem hoL_cnt {c fr : Ce} (hcf : c ≠ fr) : ∀ (k : Nat) (M : Ms) (h : Hf), (∀ i, i < k → LvH M (itn (nx M) i h) ∧ ow M (itn (nx M) i h) = c) → Dst (nx M) h k → ∀ d, cH (fun g => lv M (wl g) && decide (ow (hoL fr k M h) g = d)) + (if d = c then k else 0) = cH (fib M d) + (if d = fr then k else 0)
  | 0, M, h, _, _, d => by
    show cH (fib M d) + _ = _
    rw [ite_self, ite_self]
  | k + 1, M, h, hl, D, d => by
    have h0_ := hl 0 (by omega)
    have l0 : LvH M h := h0_.1
    have o0 : ow M h = c := h0_.2
    have en : nx (sOw M h fr) = nx M := rfl
    have ih := hoL_cnt hcf k (sOw M h fr) (nx M h) (fun i hi => by
      have q := hl (i + 1) (by omega)
      rw [en]
      refine ⟨q.1, ?_⟩
      have ne : itn (nx M) i (nx M h) ≠ h := fun e => D 0 (i + 1) (by omega) (by omega) e.symm
      show fu (ow M) h fr (itn (nx M) i (nx M h)) = c
      rw [fu_n _ _ ne]
      exact q.2) (fun i j hi hj => by
      rw [en]
      exact D (i + 1) (j + 1) (by omega) (by omega)) d
    have k1 := cH_fu (M := M) (a := h) (X := fr) (f := ow M) l0 d
    have ef : cH (fib (sOw M h fr) d) = cH (fun g => lv M (wl g) && decide (fu (ow M) h fr g = d)) := rfl
    rw [ef] at ih
    have el : (fun g => lv (sOw M h fr) (wl g) && decide (ow (hoL fr k (sOw M h fr) (nx M h)) g = d)) = (fun g => lv M (wl g) && decide (ow (hoL fr (k + 1) M h) g = d)) := rfl
    rw [el] at ih
    have e0 : cH (fun g => lv M (wl g) && decide (ow M g = d)) = cH (fib M d) := rfl
    rw [e0, o0] at k1
    by_cases z1 : d = c
    · have z2 : d ≠ fr := fun e => hcf (z1.symm.trans e)
      rw [if_pos z1, if_neg z2] at ih ⊢
      rw [b1_f (fun e => z2 e.symm), b1_t z1.symm] at k1
      omega
    · rw [if_neg z1] at ih ⊢
      by_cases z2 : d = fr
      · rw [if_pos z2] at ih ⊢
        rw [b1_t z2.symm, b1_f (fun e => z1 e.symm)] at k1
        omega
      · rw [if_neg z2] at ih ⊢
        rw [b1_f (fun e => z2 e.symm), b1_f (fun e => z1 e.symm)] at k1
        omega
