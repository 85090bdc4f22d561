theorem cH_fu {M : Ms} {a : Hf} {X : Ce} {f : Hf → Ce} (la : LvH M a) (c : Ce) : cH (fun h => lv M (wl h) && decide (f h = c)) + b1 (decide (X = c)) = cH (fun h => lv M (wl h) && decide (fu f a X h = c)) + b1 (decide (f a = c)) := by
  have := cH_upd (P := fun h => lv M (wl h) && decide (f h = c)) (P' := fun h => lv M (wl h) && decide (fu f a X h = c)) a (fun x hx => by rw [fu_n _ _ hx])
  have e : lv M (wl a) = true := la
  rw [fu_s, e, Bool.true_and, Bool.true_and] at this
  exact this
theorem b1_t {p : Prop} [Decidable p] (h : p) : b1 (decide p) = 1 := by rw [decide_eq_true h]; rfl
theorem b1_f {p : Prop} [Decidable p] (h : ¬ p) : b1 (decide p) = 0 := by rw [decide_eq_false h]; rfl
section FLI
variable {M : Ms} {w : Wa}
theorem Inv.fl (J : Inv M) (hl : lv M w = true) (hc : can M w = true) : Inv (flM M w) := by
  obtain ⟨⟨c1, c2⟩, c3, c4, c5, c6, c7, c8⟩ := can_iff.mp hc
  have la : LvH M (h0 w) := LvH_h0.mpr hl
  have lo : LvH M (h1 w) := LvH_h1.mpr hl
  have m0 := J.meet la
  have m1 := J.meet lo
  rw [tw_h0] at m0
  rw [tw_h1] at m1
  have e0 : tw (h0 w) = h1 w := tw_h0 w
  have e1 : tw (h1 w) = h0 w := tw_h1 w
  have Fnx := flM_nx M w (J.pne la) (fun e => c3 (by rw [← J.op la, e])) (fun e => c3 (by rw [← J.on la, e]))
  have Fpv := flM_pv M w (J.pne la) (fun e => c3 (by rw [← J.op la, e])) (fun e => c3 (by rw [← J.on la, e])) (J.pne lo)
  have Fow := flM_ow M w
  have Fsd := flM_sd M w
  have Flv := flM_lv M w
  have Fln := flM_ln M w
  have ao : h0 w ≠ h1 w := fun e => c3 (by rw [e])
  generalize h0 w = a at *
  generalize h1 w = o at *
  have lN := J.nl la
  have lP := J.pl la
  have lN2 := J.nl lo
  have lP2 := J.pl lo
  have lTN : LvH M (tw (nx M a)) := LvH_tw.mpr lN
  have lTN2 : LvH M (tw (nx M o)) := LvH_tw.mpr lN2
  have oN := J.on la
  have oP := J.op la
  have oN2 := J.on lo
  have oP2 := J.op lo
  have oT2 : ow M (tw (pv M o)) = en M a := by rw [← m0]; exact J.on lTN
  have oTP : ow M (tw (pv M a)) = en M o := by rw [← m1]; exact J.on lTN2
  have np := J.np la
  have np2 := J.np lo
  have pn := J.pn la
  have pn2 := J.pn lo
  have pa := J.pne la
  have po := J.pne lo
  have na := J.nne la
  have no := J.nne lo
  have oTN : ow M (tw (nx M a)) = en M a := rfl
  have oTN2 : ow M (tw (nx M o)) = en M o := rfl
  have q1 : o ≠ pv M a := fun e => c3 (by rw [e, oP])
  have q2 : o ≠ nx M a := fun e => c3 (by rw [e, oN])
  have q3 : tw (nx M a) ≠ pv M a := fun e => c4 (by rw [← oP, ← e])
  have q4 : tw (nx M a) ≠ pv M o := fun e => c6 (by rw [← oP2, ← e])
  have q5 : tw (nx M a) ≠ a := fun e => c4 (by rw [← oTN, e])
  have q6 : tw (nx M a) ≠ o := fun e => c6 (by rw [← oTN, e])
  have r3 : tw (nx M o) ≠ pv M a := fun e => c5 (by rw [← oP, ← e])
  have r4 : tw (nx M o) ≠ pv M o := fun e => c7 (by rw [← oP2, ← e])
  have r5 : tw (nx M o) ≠ a := fun e => c5 (by rw [← oTN2, e])
  have r6 : tw (nx M o) ≠ o := fun e => c7 (by rw [← oTN2, e])
  have r7 : tw (nx M o) ≠ tw (nx M a) := fun e => c8 (by rw [← oTN2, e])
  have s1 : pv M a ≠ pv M o := fun e => c3 (by rw [← oP, e, oP2])
  have s2 : a ≠ pv M o := fun e => c3 (by rw [e, oP2])
  -- the cycles
  have eL : LvH (flM M w) = LvH M := by unfold LvH; rw [Flv]
  have CY : Cy (LvH (flM M w)) (nx (flM M w)) (pv (flM M w)) (ow (flM M w)) := by
    have C1 := J.1.un la na
    have x1 : fu (nx M) (pv M a) (nx M a) o = nx M o := fu_n _ _ q1
    have x2 : fu (pv M) (nx M a) (pv M a) o = pv M o := fu_n _ _ q2
    have C2 := C1.un (a := o) ⟨lo, fun e => ao e.symm⟩ (by rw [x1]; exact no)
    rw [x1, x2] at C2
    have x3 : fu (fu (nx M) (pv M a) (nx M a)) (pv M o) (nx M o) (tw (nx M a)) = tw (pv M o) := by rw [fu_n _ _ q4, fu_n _ _ q3, m0]
    have C3 := C2.ins (a := a) (t := tw (nx M a)) (fun h => h.1.2 rfl) ⟨⟨lTN, q5⟩, q6⟩
    rw [x3] at C3
    have x4 : fu (fu (fu (fu (nx M) (pv M a) (nx M a)) (pv M o) (nx M o)) (tw (nx M a)) a) a (tw (pv M o)) (tw (nx M o)) = tw (pv M a) := by rw [fu_n _ _ r5, fu_n _ _ r7, fu_n _ _ r4, fu_n _ _ r3, m1]
    have C4 := C3.ins (a := o) (t := tw (nx M o)) (fun h => h.elim (fun h => h.2 rfl) (fun h => ao h.symm)) (Or.inl ⟨⟨lTN2, r5⟩, r6⟩)
    rw [x4] at C4
    rw [eL, Fnx, Fpv, Fow]
    refine C4.cg (fun h => ?_) (fun _ _ => rfl) (fun _ _ => rfl) (fun _ _ => rfl)
    constructor
    · intro hh
      by_cases z : h = o
      · exact Or.inr z
      · by_cases y : h = a
        · exact Or.inl (Or.inr y)
        · exact Or.inl (Or.inl ⟨⟨hh, y⟩, z⟩)
    · rintro ((⟨⟨hh, _⟩, _⟩ | rfl) | rfl)
      · exact hh
      · exact la
      · exact lo
  have Fow' : ow (flM M w) = fu (fu (ow M) a (en M a)) o (en M o) := by
    rw [Fow, fu_n (ow M) _ r5]
  have fD : ∀ c, c = ow M a ∨ c = ow M o ∨ c = en M a ∨ c = en M o ∨ (c ≠ ow M a ∧ c ≠ ow M o ∧ c ≠ en M a ∧ c ≠ en M o) := by
    intro c
    by_cases z1 : c = ow M a
    · exact Or.inl z1
    by_cases z2 : c = ow M o
    · exact Or.inr (Or.inl z2)
    by_cases z3 : c = en M a
    · exact Or.inr (Or.inr (Or.inl z3))
    by_cases z4 : c = en M o
    · exact Or.inr (Or.inr (Or.inr (Or.inl z4)))
    exact Or.inr (Or.inr (Or.inr (Or.inr ⟨z1, z2, z3, z4⟩)))
  have n3 := c3.symm
  have n4 := c4.symm
  have n5 := c5.symm
  have n6 := c6.symm
  have n7 := c7.symm
  have n8 := c8.symm
  have Sd : ∀ c, sd (flM M w) c = if c = ow M a then sd M (ow M a) - 1 else if c = ow M o then sd M (ow M o) - 1 else if c = en M a then sd M (en M a) + 1 else if c = en M o then sd M (en M o) + 1 else sd M c := by
    intro c
    rw [Fsd, fu_n (ow M) _ r5]
    show fu (fu (fu (fu (sd M) (ow M a) (sd M (ow M a) - 1)) (ow M o) (fu (sd M) (ow M a) (sd M (ow M a) - 1) (ow M o) - 1)) (en M a) _) (en M o) _ c = _
    rcases fD c with rfl | rfl | rfl | rfl | ⟨z1, z2, z3, z4⟩
    · rw [if_pos rfl, fu_n _ _ c5, fu_n _ _ c4, fu_n _ _ c3, fu_s]
    · rw [if_neg n3, if_pos rfl, fu_n _ _ c7, fu_n _ _ c6, fu_s, fu_n _ _ n3]
    · rw [if_neg n4, if_neg n6, if_pos rfl, fu_n _ _ c8, fu_s]
      show fu (fu (sd M) (ow M a) (sd M (ow M a) - 1)) (ow M o) _ (en M a) + 1 = _
      rw [fu_n _ _ n6, fu_n _ _ n4]
    · rw [if_neg n5, if_neg n7, if_neg n8, if_pos rfl, fu_s]
      show fu (fu (fu (sd M) (ow M a) (sd M (ow M a) - 1)) (ow M o) _) (en M a) _ (en M o) + 1 = _
      rw [fu_n _ _ n8, fu_n _ _ n7, fu_n _ _ n5]
    · rw [if_neg z1, if_neg z2, if_neg z3, if_neg z4, fu_n _ _ z4, fu_n _ _ z3, fu_n _ _ z2, fu_n _ _ z1]
  have pC := J.pos lTN
  have pD := J.pos lTN2
  rw [oTN] at pC
  rw [oTN2] at pD
  refine ⟨CY, fun c => ?_, fun h hh => ?_, fun h hh => ?_, fun c hc' => ?_, ?_, fun v hv => ?_⟩
  · have k1 := cH_fu (M := M) (a := a) (X := en M a) (f := ow M) la c
    have k2 := cH_fu (M := M) (a := o) (X := en M o) (f := fu (ow M) a (en M a)) lo c
    rw [fu_n (ow M) _ (fun e => ao e.symm)] at k2
    have k0 := J.2.1 c
    have ef : fib (flM M w) c = fun h => lv M (wl h) && decide (fu (fu (ow M) a (en M a)) o (en M o) h = c) := by
      unfold fib
      rw [Flv, Fow']
    rw [ef, Sd]
    unfold fib at k0
    rcases fD c with rfl | rfl | rfl | rfl | ⟨z1, z2, z3, z4⟩
    · rw [if_pos rfl]
      rw [b1_f n4, b1_t rfl] at k1
      rw [b1_f n5, b1_f n3] at k2
      omega
    · rw [if_neg n3, if_pos rfl]
      rw [b1_f n6, b1_f c3] at k1
      rw [b1_f n7, b1_t rfl] at k2
      omega
    · rw [if_neg n4, if_neg n6, if_pos rfl]
      rw [b1_t rfl, b1_f c4] at k1
      rw [b1_f n8, b1_f c6] at k2
      omega
    · rw [if_neg n5, if_neg n7, if_neg n8, if_pos rfl]
      rw [b1_f c8, b1_f c5] at k1
      rw [b1_t rfl, b1_f c7] at k2
      omega
    · rw [if_neg z1, if_neg z2, if_neg z3, if_neg z4]
      rw [b1_f (fun e => z3 e.symm), b1_f (fun e => z1 e.symm)] at k1
      rw [b1_f (fun e => z4 e.symm), b1_f (fun e => z2 e.symm)] at k2
      omega
  · rw [eL] at hh
    rw [Fow']
    by_cases z : h = a
    · rw [z, e0, fu_s, fu_n _ _ ao, fu_s]
      exact n8
    · by_cases y : h = o
      · rw [y, e1, fu_s, fu_n _ _ ao, fu_s]
        exact c8
      · have t1 : tw h ≠ o := fun e => z (by rw [← tw_tw h, e, e1])
        have t2 : tw h ≠ a := fun e => y (by rw [← tw_tw h, e, e0])
        rw [fu_n _ _ t1, fu_n _ _ t2, fu_n _ _ y, fu_n _ _ z]
        exact J.2.2.1 h hh
  · rw [eL] at hh
    have Na : nx (flM M w) a = tw (pv M o) := by rw [Fnx, fu_n _ _ ao, fu_n _ _ (fun e => r5 e.symm), fu_s]
    have No : nx (flM M w) o = tw (pv M a) := by rw [Fnx, fu_s]
    have Ntn : nx (flM M w) (tw (nx M a)) = a := by rw [Fnx, fu_n _ _ q6, fu_n _ _ (fun e => r7 e.symm), fu_n _ _ q5, fu_s]
    have Ntn2 : nx (flM M w) (tw (nx M o)) = o := by rw [Fnx, fu_n _ _ r6, fu_s]
    have Np : nx (flM M w) (pv M a) = nx M a := by rw [Fnx, fu_n _ _ (fun e => q1 e.symm), fu_n _ _ (fun e => r3 e.symm), fu_n _ _ pa, fu_n _ _ (fun e => q3 e.symm), fu_n _ _ s1, fu_s]
    have Np2 : nx (flM M w) (pv M o) = nx M o := by rw [Fnx, fu_n _ _ po, fu_n _ _ (fun e => r4 e.symm), fu_n _ _ (fun e => s2 e.symm), fu_n _ _ (fun e => q4 e.symm), fu_s]
    have Nx : ∀ g, g ≠ a → g ≠ o → g ≠ tw (nx M a) → g ≠ tw (nx M o) → g ≠ pv M a → g ≠ pv M o → nx (flM M w) g = nx M g := by
      intro g g1 g2 g3 g4 g5 g6
      rw [Fnx, fu_n _ _ g2, fu_n _ _ g4, fu_n _ _ g1, fu_n _ _ g3, fu_n _ _ g6, fu_n _ _ g5]
    have pa' : ph (flM M w) a = pv M o := by unfold ph; rw [Na, tw_tw]
    have po' : ph (flM M w) o = pv M a := by unfold ph; rw [No, tw_tw]
    have ptn : ph (flM M w) (tw (nx M a)) = o := by unfold ph; rw [Ntn, e0]
    have ptn2 : ph (flM M w) (tw (nx M o)) = a := by unfold ph; rw [Ntn2, e1]
    have pp : ph (flM M w) (pv M a) = tw (nx M a) := by unfold ph; rw [Np]
    have pp2 : ph (flM M w) (pv M o) = tw (nx M o) := by unfold ph; rw [Np2]
    by_cases g1 : h = a
    · rw [g1, pa', pp2, ptn2]
    by_cases g2 : h = o
    · rw [g2, po', pp, ptn]
    by_cases g3 : h = tw (nx M a)
    · rw [g3, ptn, po', pp]
    by_cases g4 : h = tw (nx M o)
    · rw [g4, ptn2, pa', pp2]
    by_cases g5 : h = pv M a
    · rw [g5, pp, ptn, po']
    by_cases g6 : h = pv M o
    · rw [g6, pp2, ptn2, pa']
    -- elsewhere nothing has changed
    have inj : ∀ u v, LvH M u → LvH M v → ph M u = ph M v → u = v := fun u v lu lv_ e => J.1.inj lu lv_ (tw_inj e)
    have o1 : ph M a = tw (nx M a) := rfl
    have o2 : ph M o = tw (nx M o) := rfl
    have o3 : ph M (tw (nx M a)) = pv M o := by unfold ph; rw [m0, tw_tw]
    have o4 : ph M (tw (nx M o)) = pv M a := by unfold ph; rw [m1, tw_tw]
    have o5 : ph M (pv M a) = o := by unfold ph; rw [np, e0]
    have o6 : ph M (pv M o) = a := by unfold ph; rw [np2, e1]
    have out : ∀ g, LvH M g → g ≠ a → g ≠ o → g ≠ tw (nx M a) → g ≠ tw (nx M o) → g ≠ pv M a → g ≠ pv M o → ph (flM M w) g = ph M g ∧ LvH M (ph M g) ∧ ph M g ≠ a ∧ ph M g ≠ o ∧ ph M g ≠ tw (nx M a) ∧ ph M g ≠ tw (nx M o) ∧ ph M g ≠ pv M a ∧ ph M g ≠ pv M o := by
      intro g lg g1 g2 g3 g4 g5 g6
      refine ⟨by unfold ph; rw [Nx g g1 g2 g3 g4 g5 g6], LvH_tw.mpr (J.nl lg), fun e => g6 (inj g _ lg lP2 (by rw [e, o6])), fun e => g5 (inj g _ lg lP (by rw [e, o5])), fun e => g1 (inj g _ lg la (by rw [e, o1])), fun e => g2 (inj g _ lg lo (by rw [e, o2])), fun e => g4 (inj g _ lg lTN2 (by rw [e, o4])), fun e => g3 (inj g _ lg lTN (by rw [e, o3]))⟩
    obtain ⟨x1, x2, x3, x4, x5, x6, x7, x8⟩ := out h hh g1 g2 g3 g4 g5 g6
    obtain ⟨y1, y2, y3, y4, y5, y6, y7, y8⟩ := out _ x2 x3 x4 x5 x6 x7 x8
    obtain ⟨z1, _⟩ := out _ y2 y3 y4 y5 y6 y7 y8
    rw [x1, y1, z1]
    exact J.2.2.2.1 h hh
  · rw [Sd] at hc' ⊢
    have j5 := J.2.2.2.2.1 c
    split
    · omega
    · split
      · omega
      · split
        · omega
        · split
          · omega
          · rename_i z1 z2 z3 z4
            rw [if_neg z1, if_neg z2, if_neg z3, if_neg z4] at hc'
            exact j5 hc'
  · have ec : cCe (flM M w) = cCe M := by
      unfold cCe
      refine sm_congr 48 (fun j _ => ?_)
      show b1 (decide (0 < sd (flM M w) (cI j))) = b1 (decide (0 < sd M (cI j)))
      have : (0 < sd (flM M w) (cI j)) ↔ 0 < sd M (cI j) := by
        rw [Sd]
        split
        · rename_i z; rw [z]; omega
        · split
          · rename_i z; rw [z]; omega
          · split
            · rename_i z; rw [z]; omega
            · split
              · rename_i z; rw [z]; omega
              · exact Iff.rfl
      rw [decide_eq_decide.mpr this]
    have ew : cWa (flM M w) = cWa M := by unfold cWa; rw [Flv]
    rw [ec, ew]
    exact J.2.2.2.2.2.1
  · rw [Fln]
    rw [Flv] at hv
    by_cases z : v = w
    · rw [z, fu_s]; exact ⟨10, by omega, rfl⟩
    · rw [fu_n _ _ z]; exact J.2.2.2.2.2.2 v hv
end FLI
