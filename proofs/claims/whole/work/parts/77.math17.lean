theorem sm_all {f : Nat → Nat} : ∀ (n : Nat), (∀ j, j < n → f j = 1) → sm n f = n
  | 0, _ => rfl
  | n + 1, h => by
    show sm n f + f n = n + 1
    rw [sm_all n (fun j hj => h j (by omega)), h n (by omega)]
theorem frW_ex (f : Wa → Bool) (h : sm 144 (fun i => b1 (f (wI i))) < 144) : ∃ j : Wa, fd (fun i => !(f (wI i))) 144 0 = some j.val ∧ f j = false := by
  cases e : fd (fun i => !(f (wI i))) 144 0 with
  | none =>
    have : sm 144 (fun i => b1 (f (wI i))) = 144 := sm_all 144 (fun j hj => by
      have := fd_none e j (Nat.zero_le _) (by omega)
      cases e2 : f (wI j) with
      | true => rfl
      | false => rw [e2] at this; cases this)
    omega
  | some j =>
    obtain ⟨h1, _, h2, _⟩ := fd_some e
    have hj : j < 144 := by omega
    refine ⟨wI j, by rw [wI_lt hj], ?_⟩
    cases e2 : f (wI j) with
    | false => rfl
    | true => rw [e2] at h1; cases h1
theorem cCe_lt {M : Ms} {fr : Ce} (h : sd M fr = 0) : cCe M ≤ 47 := by
  unfold cCe
  have k1 := sm_upd (f := fun i => b1 (decide (0 < sd M (cI i)))) (g := fun k => if k = fr.val then 1 else b1 (decide (0 < sd M (cI k)))) (i := fr.val) 48 fr.isLt (fun k _ hk => (if_neg hk).symm)
  have k2 := sm_le (f := fun k => if k = fr.val then 1 else b1 (decide (0 < sd M (cI k)))) (b := 1) 48 (fun j _ => by
    split
    · omega
    · exact b1_le _)
  rw [if_pos rfl, cI_val, b1_f (by omega)] at k1
  omega
theorem sW_cnt (M : Ms) : sW M (fun _ => nI 1) = nI (cWa M) := it_cnt (fun i => lv M (wI i)) 144
theorem frW_lv {M N : Ms} (h : lv N = lv M) : frW N = frW M := by unfold frW; rw [h]
theorem hvM_lv (M : Ms) (j : Wa) (h : Hf) (c : Ce) : lv (hvM M j h c) = fu (lv M) j true := by
  unfold hvM awM rdM
  simp only [g_lv_sSd, g_lv_sRy, g_lv_sRx, g_lv_sLn, g_lv_sLv, g_lv_sOw]
theorem spB_lv (M : Ms) (a b : Hf) (j1 j2 : Wa) : lv (spB M a b j1 j2) = lv M := by
  unfold spB lkM
  simp only [g_lv_sPv, g_lv_sNx]
section GX
variable {M : Ms}
theorem Inv.cutok (J : Inv M) {c fr : Ce} {f : Hf} {i j : Nat} (fh : fH M c = some f.val) (hi : i < sd M c) (hj : j < sd M c) (ne : i ≠ j) : nxi M i f ≠ nxi M j f ∧ (frC M = some fr.val → SpOk M (nxi M i f) (nxi M j f) c fr (cuJ1 M) (cuJ2 M) (cuJ3 M) (cuN (sd M c) i j) ∧ Inv (cuM M c f i j fr) ∧ sW M (fun _ => nI 1) ≤ nI 141) := by
  obtain ⟨lf, of⟩ := fH_ow fh
  obtain ⟨o1, o2, _⟩ := J.orb f lf
  rw [of] at o1 o2
  rw [nxi_itn, nxi_itn]
  have nab : itn (nx M) i f ≠ itn (nx M) j f := by
    rcases Nat.lt_or_ge i j with h | h
    · exact o2 i j h hj
    · exact fun e => o2 j i (by omega) hi e.symm
  refine ⟨nab, fun ec => ?_⟩
  have sf : sd M fr = 0 := by
    have := of_decide_eq_true (fd_some ec).1
    rw [cI_val] at this
    exact this
  have la := J.1.lit i f lf
  have lb := J.1.lit j f lf
  rw [of] at la lb
  have hc3 := J.2.2.2.2.1 c (by omega)
  obtain ⟨n, en⟩ : ∃ n, n = cuN (sd M c) i j := ⟨_, rfl⟩
  have nv : (i < j ∧ n = j - i - 1) ∨ (j < i ∧ n = j + sd M c - i - 1) := by
    rw [en]
    unfold cuN
    rcases Nat.lt_or_ge i j with h | h
    · refine Or.inl ⟨h, ?_⟩
      rw [show j + sd M c - i - 1 = (j - i - 1) + sd M c by omega, Nat.add_mod_right, Nat.mod_eq_of_lt (by omega)]
    · exact Or.inr ⟨by omega, Nat.mod_eq_of_lt (by omega)⟩
  have eb : itn (nx M) n (nx M (itn (nx M) i f)) = itn (nx M) j f := by
    rw [← itn_s (nx M), ← itn_add]
    rcases nv with ⟨h1, h2⟩ | ⟨h1, h2⟩
    · rw [show i + 1 + n = j by omega]
    · rw [show i + 1 + n = sd M c + j by omega, itn_add, o1]
  have hn : n + 2 ≤ sd M c := by omega
  rw [← en]
  generalize ha : itn (nx M) i f = a at *
  generalize hb : itn (nx M) j f = b at *
  obtain ⟨oa1, oa2, _⟩ := J.orb a la.1
  rw [la.2] at oa1 oa2
  have hne : ∀ k, k < n → itn (nx M) k (nx M a) ≠ b := fun k hk e => oa2 (k + 1) (n + 1) (by omega) (by omega) (e.trans eb.symm)
  have hna : ∀ k, k ≤ n → itn (nx M) k (nx M a) ≠ a := fun k hk e => oa2 0 (k + 1) (by omega) (by omega) e.symm
  have w141 : cWa M ≤ 141 := by
    have := cCe_lt sf
    have := J.2.2.2.2.2.1
    omega
  obtain ⟨j1, e1, d1⟩ := frW_ex (lv M) (by unfold cWa at w141; omega)
  have E1 : cuJ1 M = j1 := by
    unfold cuJ1
    rw [show frW M = some j1.val from e1]
    exact wI_val j1
  have c1 := cWt (lv M) j1 d1
  obtain ⟨j2, e2, d2'⟩ := frW_ex (fu (lv M) j1 true) (by unfold cWa at w141; omega)
  have E2 : cuJ2 M = j2 := by
    unfold cuJ2
    rw [E1, show frW (sLv M j1 true) = some j2.val from e2]
    exact wI_val j2
  have j12 : j1 ≠ j2 := fun e => by rw [← e, fu_s] at d2'; cases d2'
  have d2 : lv M j2 = false := by rw [fu_n _ _ (fun e => j12 e.symm)] at d2'; exact d2'
  have c2 := cWt (fu (lv M) j1 true) j2 d2'
  obtain ⟨j3, e3, d3'⟩ := frW_ex (fu (fu (lv M) j1 true) j2 true) (by unfold cWa at w141; omega)
  have E3 : cuJ3 M = j3 := by
    unfold cuJ3
    rw [E1, E2, show frW (sLv (sLv M j1 true) j2 true) = some j3.val from e3]
    exact wI_val j3
  have j23 : j2 ≠ j3 := fun e => by rw [← e, fu_s] at d3'; cases d3'
  rw [fu_n _ _ (fun e => j23 e.symm)] at d3'
  have j13 : j1 ≠ j3 := fun e => by rw [← e, fu_s] at d3'; cases d3'
  rw [fu_n _ _ (fun e => j13 e.symm)] at d3'
  have gX : ow M (tw a) ≠ c := fun e => J.2.2.1 a la.1 (e.trans la.2.symm)
  have gY : ow M (tw b) ≠ c := fun e => J.2.2.1 b lb.1 (e.trans lb.2.symm)
  have cfr : c ≠ fr := fun e => by rw [e, sf] at hc3; omega
  have arc : ∀ k, ow M (itn (nx M) k (nx M a)) = c := fun k => ((J.1.lit k _ (J.nl la.1)).2).trans ((J.on la.1).trans la.2)
  have hl := (hoL_nx fr n M (nx M a)).2.2.1
  rw [E1, E2, E3]
  refine ⟨⟨la.1, lb.1, J.lvn, ec, hn, by rw [nxi_itn]; exact eb, fun k hk => by rw [nxi_itn]; exact hne k hk, ?_, ?_, ?_, gX, gY, J.owl _ (LvH_tw.mpr la.1 : LvH M (tw a)), J.owl _ (LvH_tw.mpr lb.1 : LvH M (tw b)), fun k _ => ?_, fun e => (wl_eq e).elim nab (fun q => gY (by rw [← q]; exact la.2)), cfr, nab⟩, ?_, ?_⟩
  · rw [frW_lv hl]; exact e1
  · rw [frW_lv (N := hvM (hoL fr n M (nx M a)) j1 a fr) (M := sLv M j1 true) (by rw [hvM_lv, hl]; rfl)]; exact e2
  · rw [frW_lv (N := spB (spA M a b c fr j1 j2 n) a b j1 j2) (M := sLv (sLv M j1 true) j2 true) (by
      rw [spB_lv]
      unfold spA
      rw [hvM_lv, hvM_lv, hl]
      rfl)]
    exact e3
  · rw [nxi_itn]
    exact ⟨fun e => gX (by rw [← e]; exact arc k), fun e => gY (by rw [← e]; exact arc k)⟩
  · unfold cuM
    rw [nxi_itn, nxi_itn, ha, hb, E1, E2, E3, ← en]
    exact J.cut la.1 lb.1 la.2 lb.2 hn eb hne hna sf d1 d2 d3' j12 j13 j23
  · rw [sW_cnt, nI_le_ (by omega) (by decide)]
    exact w141
end GX
theorem Inv_x : GoodX Inv := ⟨Inv_good, Inv_back, fun _ J => ⟨J.hasF, J.owl⟩, fun _ _ J hl hc => J.burst hl hc, fun _ _ _ _ _ _ J fh _ hi hj ne => J.cutok fh hi hj ne, fun _ c v J => J.sAr c v, fun _ w n J hn => J.sLn w n hn, fun _ _ a b c d => Inv.ring a b c d⟩
