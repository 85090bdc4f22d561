/-! ===== there are always cells ===== -/
def NE (M : Ms) : Prop := ∃ c, 0 < sd M c
def In (M : Ms) : Prop := Inv M ∧ NE M
theorem Inv.ne {M : Ms} (J : Inv M) {h : Hf} (lh : LvH M h) : NE M := ⟨_, J.owl h lh⟩
theorem goM_sdge (M : Ms) (g : Hf) (c : Ce) : sd M c ≤ sd (goM M g) c + 2 := by
  unfold goM unM
  simp only [g_sd_sLv, g_sd_sPv, g_sd_sNx, g_sd_sSd]
  unfold fu
  by_cases z1 : c = ow M (tw g)
  · rw [if_pos z1]
    by_cases z2 : ow M (tw g) = ow M g
    · rw [if_pos z2, z1, z2]; omega
    · rw [if_neg z2, z1]; omega
  · rw [if_neg z1]
    by_cases z2 : c = ow M g
    · rw [if_pos z2, z2]; omega
    · rw [if_neg z2]; omega
theorem mkM_sdge (M : Ms) (p q : Hf) (c : Ce) : sd M c ≤ sd (mkM M p q) c + 2 := by
  unfold mkM
  exact goM_sdge (sLn M (wl (mst p q)) (imin (ln M (wl p) + ln M (wl q)) (nI 99))) (mgo p q) c
theorem In_x : GoodX In := by
  obtain ⟨⟨g1, g2, g3, g4, g5, g6, g7, g8⟩, k2, k3, k4, k5, k6, k7, k8⟩ := Inv_x
  have fl : ∀ M w, Inv M → lv M w = true → can M w = true → NE (flM M w) := fun M w J hl hc => (J.fl hl hc).ne (LvH_h0.mpr (by rw [flM_lv]; exact hl) : LvH (flM M w) (h0 w))
  refine ⟨⟨fun M J => g1 M J.1, fun M w J hl hc => ⟨(g2 M w J.1 hl hc).1, (g2 M w J.1 hl hc).2, fl M w J.1 hl hc⟩, fun M p J => ⟨g3 M p J.1, J.2⟩, fun M J => ⟨g4 M J.1, J.2⟩, fun M c J => g5 M c J.1, fun M c J hc => ?_, fun M c w J => g7 M c w J.1, fun M J => g8 M J.1⟩, fun M w J hl hc => ?_, fun M J => k3 M J.1, fun M w J hl hc => ?_, fun M c f i j fr J fh lf hi hj ne => ?_, fun M c v J => ⟨k6 M c v J.1, J.2⟩, fun M w n J hn => ⟨k7 M w n J.1 hn, J.2⟩, fun w h a b c d => ⟨k8 w h a b c d, ⟨cI 0, ?_⟩⟩⟩
  · obtain ⟨h, e1, e2, e3, e4, e5⟩ := g6 M c J.1 hc
    refine ⟨h, e1, e2, e3, e4, fun k => ?_⟩
    obtain ⟨q1, q2⟩ := e5 k
    refine ⟨q1, q2, ?_⟩
    obtain ⟨_, _, _, _, _, _, c0, _, _, d01, d02, _, s0, _⟩ := q1
    unfold vaC
    refine ⟨ow M (vu M c).1, ?_⟩
    rw [(vaM_f M c _ _ _).2.2.2.2.1, fu_n _ _ c0, shS_sd, shS_ow, shS_ow, fu_n _ _ d02, shS_sd, shS_ow, fu_n _ _ d01, shS_sd, fu_s]
    omega
  · have q := k2 M w J.1 hl hc
    refine ⟨q.1, q.2, q.2.ne (h := h0 w) (LvH_h0.mpr ?_)⟩
    rw [flM_lv, flM_lv]
    exact hl
  · have q := k4 M w J.1 hl hc
    refine ⟨q.1, q.2, ⟨ow M (buA M w), ?_⟩⟩
    obtain ⟨⟨⟨d3, _⟩, _⟩, _, _, s3⟩ := canJ_iff.mp hc
    have e := (joM1_f M w (buA M w)).2.2.2.2.1
    have b1_ := mkM_sdge (mkM (joM1 M w (buA M w)) (pv M (buA M w)) (nx M (tw (buA M w)))) (pv M (tw (buA M w))) (nx M (buA M w)) (ow M (buA M w))
    have b2_ := mkM_sdge (joM1 M w (buA M w)) (pv M (buA M w)) (nx M (tw (buA M w))) (ow M (buA M w))
    have lt := q.1.2.2.1
    have ne : ow M (buA M w) ≠ ow M (tw (buA M w)) := fun z => by rw [z] at lt; omega
    have e2 : sd (joM1 M w (buA M w)) (ow M (buA M w)) = sd M (ow M (buA M w)) + sd M (ow M (tw (buA M w))) - 2 := by rw [e, fu_n _ _ ne, fu_s]
    have e3 : sd M (ow M (buA M w)) + sd M (ow M (tw (buA M w))) = sd M (ow M (h0 w)) + sd M (ow M (h1 w)) := by
      unfold buA
      split
      · rw [tw_h0]
      · rw [tw_h1]; omega
    show 0 < sd (mkM (mkM (joM1 M w (buA M w)) (pv M (buA M w)) (nx M (tw (buA M w)))) (pv M (tw (buA M w))) (nx M (buA M w))) (ow M (buA M w))
    omega
  · have q := k5 M c f i j fr J.1 fh lf hi hj ne
    refine ⟨q.1, fun ec => ⟨(q.2 ec).1, ⟨(q.2 ec).2.1, ⟨fr, ?_⟩⟩, (q.2 ec).2.2⟩⟩
    unfold cuM
    rw [spM_sd, fu_s]
    omega
  · show 0 < if (0 : Nat) % 48 < w * h then 6 else 0
    have : 3 * 3 ≤ w * h := Nat.mul_le_mul a c
    rw [if_pos (by omega)]
    omega
