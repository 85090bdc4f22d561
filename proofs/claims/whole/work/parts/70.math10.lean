theorem it_cnt (P : Nat → Bool) : ∀ (n : Nat), it (fun i a => if P i = true then a + nI 1 else a) n 0 (nI 0) = nI (sm n (fun i => b1 (P i)))
  | 0 => rfl
  | n + 1 => by
    rw [it_last0, it_cnt P n]
    show (if P n = true then nI (sm n (fun i => b1 (P i))) + nI 1 else nI (sm n (fun i => b1 (P i)))) = nI (sm n (fun i => b1 (P i)) + b1 (P n))
    cases P n with
    | true => rw [if_pos rfl, nI_add]; rfl
    | false => rw [if_neg (by decide)]; rfl
theorem sm_two {f : Nat → Nat} {n i j : Nat} (hi : i < n) (hj : j < n) (ne : i ≠ j) (h1 : 1 ≤ f i) (h2 : 1 ≤ f j) : 2 ≤ sm n f := by
  have k1 := sm_upd (f := f) (g := fun k => if k = i then 0 else f k) (i := i) n hi (fun k _ hk => (if_neg hk).symm)
  have k2 := sm_ge (f := fun k => if k = i then 0 else f k) (i := j) n hj
  rw [if_pos rfl] at k1
  rw [if_neg (fun e => ne e.symm)] at k2
  omega
theorem bt_of {M : Ms} {h : Hf} {c d : Ce} (lh : LvH M h) (q1 : ow M h = c) (q2 : ow M (tw h) = d) : bt M (wl h) c d = true ∧ bt M (wl h) d c = true := by
  have l : lv M (wl h) = true := lh
  rcases wl2 h _ rfl with z | z
  · have e0 : ow M (h0 (wl h)) = c := by rw [← z]; exact q1
    have e1 : ow M (h1 (wl h)) = d := by rw [← tw_h0, ← z]; exact q2
    unfold bt
    rw [l, Bool.true_and, Bool.true_and, e0, e1]
    exact ⟨decide_eq_true (Or.inl ⟨rfl, rfl⟩), decide_eq_true (Or.inr ⟨rfl, rfl⟩)⟩
  · have e0 : ow M (h1 (wl h)) = c := by rw [← z]; exact q1
    have e1 : ow M (h0 (wl h)) = d := by rw [← tw_h1, ← z]; exact q2
    unfold bt
    rw [l, Bool.true_and, Bool.true_and, e0, e1]
    exact ⟨decide_eq_true (Or.inr ⟨rfl, rfl⟩), decide_eq_true (Or.inl ⟨rfl, rfl⟩)⟩
theorem wB_one {M : Ms} {c d : Ce} (h : wB M c d = nI 1) {v w : Wa} (hv : bt M v c d = true) (hw : bt M w c d = true) : v = w := by
  unfold wB at h
  rw [it_cnt (fun i => bt M (wI i) c d)] at h
  have b := sm_le (f := fun i => b1 (bt M (wI i) c d)) (b := 1) 144 (fun j _ => b1_le _)
  have h := (nI_eq (by omega) (by decide)).mp h
  by_cases z : v = w
  · exact z
  · have k := sm_two (f := fun i => b1 (bt M (wI i) c d)) (n := 144) v.isLt w.isLt (fun e => z (Fin.ext e)) (by rw [wI_val, hv]; exact Nat.le_refl _) (by rw [wI_val, hw]; exact Nat.le_refl _)
    omega
theorem jL_ow (left : Ce) (x y : Int32) : ∀ (k : Nat) (M : Ms) (h g : Hf), ((∃ i, i < k ∧ itn (nx M) i h = g) → ow (jL left x y k M h) g = left) ∧ ((∀ i, i < k → itn (nx M) i h ≠ g) → ow (jL left x y k M h) g = ow M g)
  | 0, M, h, g => ⟨fun ⟨i, hi, _⟩ => absurd hi (Nat.not_lt_zero _), fun _ => rfl⟩
  | k + 1, M, h, g => by
    have ih := jL_ow left x y k (jS left x y M h) (nx M h) g
    have en : nx (jS left x y M h) = nx M := rfl
    rw [en] at ih
    have eo : ow (jS left x y M h) = fu (ow M) h left := rfl
    rw [eo] at ih
    show ((∃ i, i < k + 1 ∧ itn (nx M) i h = g) → ow (jL left x y k (jS left x y M h) (nx M h)) g = left) ∧ ((∀ i, i < k + 1 → itn (nx M) i h ≠ g) → ow (jL left x y k (jS left x y M h) (nx M h)) g = ow M g)
    constructor
    · rintro ⟨i, hi, ei⟩
      by_cases z : ∃ i, i < k ∧ itn (nx M) i (nx M h) = g
      · exact ih.1 z
      · have hn : ∀ i, i < k → itn (nx M) i (nx M h) ≠ g := fun i hi e => z ⟨i, hi, e⟩
        rw [ih.2 hn]
        cases i with
        | zero =>
          have : h = g := ei
          rw [this, fu_s]
        | succ i => exact absurd ⟨i, by omega, ei⟩ z
    · intro hn
      have h0_ : g ≠ h := fun e => hn 0 (by omega) e.symm
      rw [ih.2 (fun i hi => hn (i + 1) (by omega)), fu_n _ _ h0_]
theorem joM1_f (M : Ms) (w : Wa) (a : Hf) : lv (joM1 M w a) = fu (lv M) w false ∧ ow (joM1 M w a) = ow (jL (ow M a) (rx M a) (ry M a) (sd M (ow M (tw a)) - 1) M (nx M (tw a))) ∧ nx (joM1 M w a) = fu (fu (nx M) (pv M a) (nx M (tw a))) (pv M (tw a)) (nx M a) ∧ pv (joM1 M w a) = fu (fu (pv M) (nx M (tw a)) (pv M a)) (nx M a) (pv M (tw a)) ∧ sd (joM1 M w a) = fu (fu (sd M) (ow M a) (sd M (ow M a) + sd M (ow M (tw a)) - 2)) (ow M (tw a)) 0 ∧ ln (joM1 M w a) = ln M := by
  obtain ⟨j1, j2, j3, j4, j5, j6⟩ := jL_nx (ow M a) (rx M a) (ry M a) (sd M (ow M (tw a)) - 1) M (nx M (tw a))
  unfold joM1 lkM
  refine ⟨?_, ?_, ?_, ?_, ?_, ?_⟩
  · simp only [g_lv_sAr, g_lv_sSd, g_lv_sLv, g_lv_sPv, g_lv_sNx, j3]
  · simp only [g_ow_sAr, g_ow_sSd, g_ow_sLv, g_ow_sPv, g_ow_sNx]
  · simp only [g_nx_sAr, g_nx_sSd, g_nx_sLv, g_nx_sPv, g_nx_sNx, j1]
  · simp only [g_pv_sAr, g_pv_sSd, g_pv_sLv, g_pv_sPv, g_pv_sNx, j2]
  · simp only [g_sd_sAr, g_sd_sSd, g_sd_sLv, g_sd_sPv, g_sd_sNx, j4]
  · simp only [g_ln_sAr, g_ln_sSd, g_ln_sLv, g_ln_sPv, g_ln_sNx, j6]
theorem cH_or {P Q : Hf → Bool} (h : ∀ x, P x = true → Q x = false) : cH (fun x => P x || Q x) = cH P + cH Q := by
  have key : ∀ n, sm n (fun i => b1 (P (hI i) || Q (hI i))) = sm n (fun i => b1 (P (hI i))) + sm n (fun i => b1 (Q (hI i))) := by
    intro n
    induction n with
    | zero => rfl
    | succ n ih =>
      show sm n (fun i => b1 (P (hI i) || Q (hI i))) + b1 (P (hI n) || Q (hI n)) = (sm n (fun i => b1 (P (hI i))) + b1 (P (hI n))) + (sm n (fun i => b1 (Q (hI i))) + b1 (Q (hI n)))
      rw [ih]
      have e : b1 (P (hI n) || Q (hI n)) = b1 (P (hI n)) + b1 (Q (hI n)) := by
        cases e1 : P (hI n) with
        | true => rw [h _ e1]; rfl
        | false => rw [Bool.false_or, show b1 false = 0 from rfl, Nat.zero_add]
      omega
  exact key 288
