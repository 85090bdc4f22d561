section VAN3
variable {M : Ms} {c : Ce}
theorem canS_iff {h : Hf} : canS M c h = true ↔ (sd M c = 3 ∧ ow M (tw h) ≠ ow M (tw (nx M h)) ∧ ow M (tw (nx M h)) ≠ ow M (tw (pv M h)) ∧ ow M (tw (pv M h)) ≠ ow M (tw h) ∧ 3 < sd M (ow M (tw h)) ∧ 3 < sd M (ow M (tw (nx M h))) ∧ 3 < sd M (ow M (tw (pv M h)))) := by
  unfold canS
  exact decide_eq_true_iff
theorem Inv.wlt (J : Inv M) {h g : Hf} (fh : fH M c = some h.val) (lg : LvH M g) (og : ow M g = c) (ne : g ≠ h) : (wl h).val < (wl g).val := by
  obtain ⟨lh, oh⟩ := fH_ow fh
  have h1 := (fd_some fh).2.2.2 g.val (Nat.zero_le _)
  have h2 : ¬ g.val < h.val := fun q => by
    have := h1 q
    unfold fHp at this
    rw [hI_val] at this
    exact of_decide_eq_false this ⟨lg, og⟩
  have h3 : wl g ≠ wl h := fun e => (wl_eq e).elim ne (fun z => J.2.2.1 h lh (by rw [← z, og, oh]))
  have h4 : (wl g).val ≠ (wl h).val := fun e => h3 (Fin.ext e)
  rw [wl_val, wl_val] at *
  have h5 : g.val ≠ h.val := fun e => ne (Fin.ext e)
  omega
theorem Inv.van (J : Inv M) {h : Hf} (fh : fH M c = some h.val) (hc : canS M c h = true) : VaOk M c (vu M c).1 (vu M c).2.1 (vu M c).2.2 ∧ Inv (vaC M c) := by
  obtain ⟨lh, oh⟩ := fH_ow fh
  obtain ⟨k0, k1, k2, k3, k4, k5, k6⟩ := canS_iff.mp hc
  have hp : 0 < sd M c := by omega
  rw [← oh] at k0
  obtain ⟨e1, e2, e3⟩ := J.tri lh k0
  have ln_ := J.nl lh
  have lp_ := J.pl lh
  have on_ := (J.on lh).trans oh
  have op_ := (J.op lh).trans oh
  have tl : LvH M (tw h) := LvH_tw.mpr lh
  have tn_ : LvH M (tw (nx M h)) := LvH_tw.mpr ln_
  have tp_ : LvH M (tw (pv M h)) := LvH_tw.mpr lp_
  have g1 : ow M (tw h) ≠ c := fun e => J.2.2.1 h lh (e.trans oh.symm)
  have g2 : ow M (tw (nx M h)) ≠ c := fun e => J.2.2.1 _ ln_ (e.trans on_.symm)
  have g3 : ow M (tw (pv M h)) ≠ c := fun e => J.2.2.1 _ lp_ (e.trans op_.symm)
  have a1 : ow M (tw (tw h)) = c := by rw [tw_tw]; exact oh
  have a2 : ow M (tw (tw (nx M h))) = c := by rw [tw_tw]; exact on_
  have a3 : ow M (tw (tw (pv M h))) = c := by rw [tw_tw]; exact op_
  have hall : ∀ g, LvH M g → ow M g = c → g = tw (tw h) ∨ g = tw (tw (nx M h)) ∨ g = tw (tw (pv M h)) := fun g lg og => by
    rw [tw_tw, tw_tw, tw_tw]
    exact e3 g lg (og.trans oh.symm)
  have m1 := J.meet lh
  have m2 := J.meet ln_
  have m3 := J.meet lp_
  rw [e1] at m2
  rw [e2] at m3
  have q1 : tw (nx M (tw (nx M h))) = pv M (tw h) := by rw [m1, tw_tw]
  have q2 : tw (nx M (tw (pv M h))) = pv M (tw (nx M h)) := by rw [m2, tw_tw]
  have q3 : tw (nx M (tw h)) = pv M (tw (pv M h)) := by rw [m3, tw_tw]
  have w1 := J.wlt fh ln_ on_ (J.nne lh)
  have w2 := J.wlt fh lp_ op_ (J.pne lh)
  have w3 : wl (nx M h) ≠ wl (pv M h) := fun e => (wl_eq e).elim (J.npne lh) (fun z => g3 (by rw [← z]; exact on_))
  have w3' : (wl (nx M h)).val ≠ (wl (pv M h)).val := fun e => w3 (Fin.ext e)
  have tc : ∀ w, tch M c w ↔ w = wl h ∨ w = wl (nx M h) ∨ w = wl (pv M h) := by
    intro w
    constructor
    · rintro ⟨lw, hw⟩
      have key : ∀ g, wl g = w → LvH M g → ow M g = c → w = wl h ∨ w = wl (nx M h) ∨ w = wl (pv M h) := by
        rintro g rfl lg og
        rcases e3 g lg (og.trans oh.symm) with z | z | z
        · exact Or.inl (by rw [z])
        · exact Or.inr (Or.inl (by rw [z]))
        · exact Or.inr (Or.inr (by rw [z]))
      rcases hw with hw | hw
      · exact key (h0 w) (wl_h0 w) (LvH_h0.mpr lw) hw
      · exact key (h1 w) (wl_h1 w) (LvH_h1.mpr lw) hw
    · have key : ∀ g, LvH M g → ow M g = c → tch M c (wl g) := by
        intro g lg og
        refine ⟨lg, ?_⟩
        rcases wl2 g _ rfl with z | z
        · exact Or.inl (by rw [← z]; exact og)
        · exact Or.inr (by rw [← z]; exact og)
      rintro (rfl | rfl | rfl)
      · exact key h lh oh
      · exact key _ ln_ on_
      · exact key _ lp_ op_
  unfold vaC vu
  rw [fH_hI fh]
  dsimp only
  by_cases z : (wl (nx M h)).val < (wl (pv M h)).val
  · rw [if_pos z]
    dsimp only
    refine ⟨⟨by rw [wl_tw, wl_tw]; exact w1, by rw [wl_tw, wl_tw]; exact z, fun w => by rw [wl_tw, wl_tw, wl_tw]; exact tc w, a1, a2, a3, g1, g2, g3, k1, fun e => k3 e.symm, k2, by omega, by omega, by omega, hp⟩, ?_⟩
    exact J.va tl tn_ tp_ a1 a2 a3 hall k1 (fun e => k3 e.symm) k2 k4 k5 k6 (Or.inr ⟨q3, q2, q1⟩)
  · rw [if_neg z]
    dsimp only
    have hall' : ∀ g, LvH M g → ow M g = c → g = tw (tw h) ∨ g = tw (tw (pv M h)) ∨ g = tw (tw (nx M h)) := fun g lg og => by
      rcases hall g lg og with y | y | y
      · exact Or.inl y
      · exact Or.inr (Or.inr y)
      · exact Or.inr (Or.inl y)
    refine ⟨⟨by rw [wl_tw, wl_tw]; exact w2, by rw [wl_tw, wl_tw]; omega, fun w => by rw [wl_tw, wl_tw, wl_tw, tc w, or_comm (a := w = wl (nx M h))], a1, a3, a2, g1, g3, g2, fun e => k3 e.symm, k1, fun e => k2 e.symm, by omega, by omega, by omega, hp⟩, ?_⟩
    exact J.va tl tp_ tn_ a1 a3 a2 hall' (fun e => k3 e.symm) k1 (fun e => k2 e.symm) k4 k6 k5 (Or.inl ⟨q3, q2, q1⟩)
theorem shs_some {w : Wa} (h : shs M c = some w) : lv M w = true ∧ can M w = true := by
  have key := it_ind (shg M c) 144 (fun _ a => ∀ w, a = some w → lv M w = true ∧ can M w = true) (fun i a _ ha => ?_) none (fun w h => by cases h)
  · exact key w h
  · intro w hw
    unfold shg at hw
    split at hw
    · rename_i z
      cases a with
      | none =>
        cases hw
        exact ⟨z.1, z.2.2⟩
      | some b =>
        dsimp only at hw
        split at hw
        · cases hw
          exact ⟨z.1, z.2.2⟩
        · exact ha w hw
    · exact ha w hw
theorem es_some (h : ¬ (es M).1 < 0) : ∃ w : Wa, (es M).1 = nI w.val ∧ lv M w = true ∧ can M w = true := by
  have key := it_ind (esg M) 144 (fun _ a => a.1 < 0 ∨ ∃ w : Wa, a.1 = nI w.val ∧ lv M w = true ∧ can M w = true) (fun i a hi ha => ?_) (-1, nI 0) (Or.inl (by decide))
  · exact key.resolve_left h
  · unfold esg
    split
    · split
      · split
        · exact Or.inr ⟨wI i, by show nI i = nI (wI i).val; rw [wI_lt hi], by assumption, by assumption⟩
        · exact ha
      · exact ha
    · exact ha
end VAN3
theorem Inv_good : GoodI Inv := by
  refine ⟨fun M J => ⟨J.sdb, J.lvn⟩, fun M w J hl hc => ⟨J.flok hl hc, J.fl hl hc⟩, fun M p J => J.gro p, fun M J => J.str, fun M c J h => J.2.2.2.2.1 c h, fun M c J hc => ?_, fun M c w J h => shs_some h, fun M J h => es_some h⟩
  obtain ⟨h, fh, lh, oh⟩ := J.hasf c hc
  exact ⟨h, fh, lh, J.nl lh, J.pl lh, fun k => J.van fh k⟩
