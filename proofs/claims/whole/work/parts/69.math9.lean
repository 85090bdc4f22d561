section MLT
variable {M M' : Ms} {X : Hf → Prop} {r g : Hf}
/-- a meeting of two goes with one of its walls -/
theorem KI.go (K : KI M (fun h => X h ∨ h = r ∨ h = tw g)) (lr : LvH M r) (lg : LvH M g) (hr : r ≠ g) (e1 : nx M r = g) (e2 : nx M (tw g) = tw r) (Xc : ∀ h, LvH M h → ¬ X h → ¬ X (ph M h)) (xg : ¬ X g) (f1 : lv M' = fu (lv M) (wl g) false) (f2 : ow M' = ow M) (f3 : ∀ h, nx M' h = if h = pv M g then nx M g else if h = pv M (tw g) then nx M (tw g) else nx M h) (f5 : ∀ c, sd M' c = if c = ow M g then sd M (ow M g) - 1 else if c = ow M (tw g) then sd M (ow M (tw g)) - 1 else sd M c) (f6 : ∀ w, lv M' w = true → ∃ n, n ≤ 99 ∧ ln M' w = nI n) (CY : Cy (fun h => (LvH M h ∧ h ≠ g) ∧ h ≠ tw g) (nx M') (pv M') (ow M')) : KI M' X := by
  obtain ⟨k1, k2, k3, k4, k5⟩ := K
  have lt : LvH M (tw g) := LvH_tw.mpr lg
  have L : ∀ h, LvH M' h ↔ (LvH M h ∧ h ≠ g) ∧ h ≠ tw g := by
    intro h
    unfold LvH
    rw [f1]
    constructor
    · intro hh
      have z : wl h ≠ wl g := fun e => by rw [e, fu_s] at hh; cases hh
      rw [fu_n _ _ z] at hh
      exact ⟨⟨hh, fun e => z (by rw [e])⟩, fun e => z (by rw [e, wl_tw])⟩
    · rintro ⟨⟨hh, z1⟩, z2⟩
      rw [fu_n _ _ (fun e => (wl_eq e).elim z1 z2)]
      exact hh
  have CY' : Cy (LvH M') (nx M') (pv M') (ow M') := CY.cg L (fun _ _ => rfl) (fun _ _ => rfl) (fun _ _ => rfl)
  have pg : pv M g = r := by rw [← e1]; exact (k1.1 r lr).2.2.2
  have inj : ∀ u v, LvH M u → LvH M v → ph M u = ph M v → u = v := fun u v lu lv_ e => k1.inj lu lv_ (tw_inj e)
  have gt : g ≠ tw g := fun e => tw_ne g e.symm
  have go := k3 g lg
  have ng : nx M g ≠ g := fun e => hr (k1.inj lr lg (by rw [e1, e]))
  have ntg : nx M (tw g) ≠ tw g := fun e => hr (tw_inj (by rw [← e2, e]))
  -- the old walk about the meeting
  have a1 : ph M r = tw g := by unfold ph; rw [e1]
  have a2 : ph M (tw g) = r := by unfold ph; rw [e2, tw_tw]
  have ly : LvH M (pv M (tw g)) := (k1.1 _ lt).2.1
  have a3 : ph M (pv M (tw g)) = g := by unfold ph; rw [(k1.1 _ lt).2.2.1, tw_tw]
  have lpg : LvH M (ph M g) := LvH_tw.mpr (k1.1 g lg).1
  have lppg : LvH M (ph M (ph M g)) := LvH_tw.mpr (k1.1 _ lpg).1
  have a4 : ph M (ph M (ph M g)) = g := k4 g lg (fun z => by
    rcases z with z | z | z
    · exact xg z
    · exact hr z.symm
    · exact gt z)
  have a5 : ph M (ph M g) = pv M (tw g) := inj _ _ lppg ly (a4.trans a3.symm)
  have b1_ : ph M g ≠ g := fun e => by
    have : nx M g = tw g := by rw [← tw_tw (nx M g)]; exact congrArg tw e
    exact go (by rw [← this]; exact k1.on lg)
  have b2_ : ph M g ≠ tw g := fun e => hr (inj r g lr lg (a1.trans e.symm))
  have b3_ : ph M g ≠ r := fun e => gt (inj g _ lg lt (e.trans a2.symm))
  have b4_ : ph M g ≠ pv M (tw g) := fun e => b1_ (by
    have h1 : ph M (ph M g) = ph M g := a5.trans e.symm
    exact inj _ _ lpg lg h1)
  have c1_ : pv M (tw g) ≠ g := fun e => b1_ ((congrArg (ph M) e).symm.trans a3)
  have c2_ : pv M (tw g) ≠ tw g := fun e => by
    have h1 := (k1.1 _ lt).2.2.1
    rw [e] at h1
    exact ntg h1
  have c3_ : pv M (tw g) ≠ r := fun e => gt (a3.symm.trans ((congrArg (ph M) e).trans a1))
  -- the new one
  have N1 : ph M' r = ph M g := by
    unfold ph
    rw [f3, if_pos pg.symm]
  have N2 : ph M' (pv M (tw g)) = r := by
    unfold ph
    rw [f3, if_neg (by rw [pg]; exact c3_), if_pos rfl, e2, tw_tw]
  have No : ∀ h, h ≠ r → h ≠ pv M (tw g) → ph M' h = ph M h := by
    intro h h1 h2
    unfold ph
    rw [f3, if_neg (by rw [pg]; exact h1), if_neg h2]
  have N3 : ph M' (ph M g) = pv M (tw g) := by rw [No _ b3_ b4_, a5]
  refine ⟨CY', fun c => ?_, fun h hh => ?_, fun h hh xh => ?_, f6⟩
  · have q1 := cH_rm (fib M c) g
    have q2 := cH_rm (fun h => fib M c h && decide (h ≠ g)) (tw g)
    have ef : cH (fib M' c) = cH (fun h => (fib M c h && decide (h ≠ g)) && decide (h ≠ tw g)) := by
      refine cH_congr (fun h => ?_)
      rw [Bool.eq_iff_iff, fib_iff, L, f2]
      simp only [Bool.and_eq_true, decide_eq_true_iff, fib_iff]
      constructor
      · rintro ⟨⟨⟨a, b⟩, e⟩, k⟩
        exact ⟨⟨⟨a, k⟩, b⟩, e⟩
      · rintro ⟨⟨⟨a, k⟩, b⟩, e⟩
        exact ⟨⟨⟨a, b⟩, e⟩, k⟩
    have f0 : fib M c g = decide (ow M g = c) := by unfold fib; rw [show lv M (wl g) = true from lg, Bool.true_and]
    have f0' : fib M c (tw g) = decide (ow M (tw g) = c) := by unfold fib; rw [show lv M (wl (tw g)) = true from lt, Bool.true_and]
    rw [f0] at q1
    rw [f0', decide_eq_true (gt.symm), Bool.and_true] at q2
    rw [ef, f5]
    have k0 := k2 c
    by_cases z0 : c = ow M g
    · rw [if_pos z0]
      rw [b1_t z0.symm] at q1
      rw [b1_f (fun e => go (e.trans z0))] at q2
      rw [← z0]
      omega
    · rw [if_neg z0]
      rw [b1_f (fun e => z0 e.symm)] at q1
      by_cases z1 : c = ow M (tw g)
      · rw [if_pos z1]
        rw [b1_t z1.symm] at q2
        rw [← z1]
        omega
      · rw [if_neg z1]
        rw [b1_f (fun e => z1 e.symm)] at q2
        omega
  · rw [f2]
    exact k3 h ((L h).mp hh).1.1
  · obtain ⟨⟨lh, h1⟩, h2⟩ := (L h).mp hh
    by_cases z1 : h = r
    · rw [z1, N1, N3, N2]
    by_cases z2 : h = ph M g
    · rw [z2, N3, N2, N1]
    by_cases z3 : h = pv M (tw g)
    · rw [z3, N2, N1, N3]
    have out : ∀ x, LvH M' x → ¬ X x → x ≠ r → x ≠ ph M g → x ≠ pv M (tw g) → ph M' x = ph M x ∧ LvH M' (ph M x) ∧ ¬ X (ph M x) ∧ ph M x ≠ r ∧ ph M x ≠ ph M g ∧ ph M x ≠ pv M (tw g) := by
      intro x lx xx y1 y2 y3
      obtain ⟨⟨l1, l2⟩, l3⟩ := (L x).mp lx
      have e := No x y1 y3
      refine ⟨e, ?_, Xc x l1 xx, fun z => l3 (inj x _ l1 lt (z.trans a2.symm)), fun z => l2 (inj x g l1 lg z), fun z => y2 (inj x _ l1 lpg (z.trans a5.symm))⟩
      rw [← e]
      exact LvH_tw.mpr (CY'.1 x lx).1
    obtain ⟨x1, x2, x3, x4, x5, x6⟩ := out h hh xh z1 z2 z3
    obtain ⟨y1, y2, y3, y4, y5, y6⟩ := out _ x2 x3 x4 x5 x6
    obtain ⟨w1, _⟩ := out _ y2 y3 y4 y5 y6
    rw [x1, y1, w1]
    exact k4 h lh (fun z => by
      rcases z with z | z | z
      · exact xh z
      · exact z1 z
      · exact h2 z)
end MLT
section MLT2
variable {M : Ms} {X : Hf → Prop} {p q : Hf}
theorem KI.mk (K : KI M (fun h => X h ∨ h = p ∨ h = tw q)) (lp : LvH M p) (lq : LvH M q) (hne : p ≠ q) (e1 : nx M p = q) (e2 : nx M (tw q) = tw p) (Xc : ∀ h, LvH M h → ¬ X h → ¬ X (ph M h)) (xq : ¬ X q) (xp : ¬ X (tw p)) : MkOk M p q ∧ KI (mkM M p q) X ∧ lv (mkM M p q) = fu (lv M) (wl (mgo p q)) false ∧ ow (mkM M p q) = ow M ∧ (∀ h, nx (mkM M p q) h = if h = pv M (mgo p q) then nx M (mgo p q) else if h = pv M (tw (mgo p q)) then nx M (tw (mgo p q)) else nx M h) ∧ (∀ c, sd (mkM M p q) c = if c = ow M p then sd M (ow M p) - 1 else if c = ow M (tw p) then sd M (ow M (tw p)) - 1 else sd M c) := by
  have K0 := K
  obtain ⟨k1, k2, k3, k4, k5⟩ := K
  have gx : mgo p q = p ∨ mgo p q = q := by unfold mgo; split; exact Or.inr rfl; exact Or.inl rfl
  have lg : LvH M (mgo p q) := by rcases gx with z | z <;> rw [z] <;> assumption
  have np : nx M p ≠ p := fun e => hne (e.symm.trans e1)
  have nq : nx M q ≠ q := fun e => hne (k1.inj lp lq (by rw [e1, e]))
  have ltq : LvH M (tw q) := LvH_tw.mpr lq
  have ltp : LvH M (tw p) := LvH_tw.mpr lp
  have ntq : nx M (tw q) ≠ tw q := fun e => hne (tw_inj (by rw [← e2, e]))
  have ntp : nx M (tw p) ≠ tw p := fun e => hne (tw_inj (k1.inj ltp ltq (by rw [e, e2])))
  have oq : ow M q = ow M p := by rw [← e1]; exact k1.on lp
  have otp : ow M (tw p) = ow M (tw q) := by rw [← e2]; exact k1.on ltq
  have og : ow M (mgo p q) = ow M p := by rcases gx with z | z <;> rw [z]; exact oq
  have otg : ow M (tw (mgo p q)) = ow M (tw p) := by rcases gx with z | z <;> rw [z]; exact otp.symm
  have ng : nx M (mgo p q) ≠ mgo p q := by rcases gx with z | z <;> rw [z] <;> assumption
  have ntg : nx M (tw (mgo p q)) ≠ tw (mgo p q) := by rcases gx with z | z <;> rw [z] <;> assumption
  have ltg : LvH M (tw (mgo p q)) := LvH_tw.mpr lg
  have so : 0 < sd M (ow M (mgo p q)) := by rw [k2]; exact cH_ge _ (fib_iff.mpr ⟨lg, rfl⟩)
  have sto : 0 < sd M (ow M (tw (mgo p q))) := by rw [k2]; exact cH_ge _ (fib_iff.mpr ⟨ltg, rfl⟩)
  have go := k3 _ lg
  have pne : ∀ x, LvH M x → nx M x ≠ x → pv M x ≠ x := fun x lx h e => h (by have := (k1.1 x lx).2.2.1; rw [e] at this; exact this)
  have F := goM_f (sLn M (wl (mst p q)) (imin (ln M (wl p) + ln M (wl q)) (nI 99))) (mgo p q) (pne _ lg ng) (fun e => go (by rw [e]; exact k1.on lg)) (fun e => go (by rw [e]; exact k1.op lg)) (pne _ ltg ntg) go
  have F1 : lv (mkM M p q) = fu (lv M) (wl (mgo p q)) false := F.1
  have F2 : ow (mkM M p q) = ow M := F.2.1
  have F3 : nx (mkM M p q) = fu (fu (nx M) (pv M (mgo p q)) (nx M (mgo p q))) (pv M (tw (mgo p q))) (nx M (tw (mgo p q))) := F.2.2.1
  have F4 : pv (mkM M p q) = fu (fu (pv M) (nx M (mgo p q)) (pv M (mgo p q))) (nx M (tw (mgo p q))) (pv M (tw (mgo p q))) := F.2.2.2.1
  have F5 : sd (mkM M p q) = fu (fu (sd M) (ow M (mgo p q)) (sd M (ow M (mgo p q)) - 1)) (ow M (tw (mgo p q))) (sd M (ow M (tw (mgo p q))) - 1) := F.2.2.2.2.1
  have F6 : ln (mkM M p q) = fu (ln M) (wl (mst p q)) (imin (ln M (wl p) + ln M (wl q)) (nI 99)) := F.2.2.2.2.2
  have pd : pv M (mgo p q) ≠ pv M (tw (mgo p q)) := fun e => go (by rw [← k1.op ltg, ← e]; exact k1.op lg)
  have G3 : ∀ h, nx (mkM M p q) h = if h = pv M (mgo p q) then nx M (mgo p q) else if h = pv M (tw (mgo p q)) then nx M (tw (mgo p q)) else nx M h := by
    intro h
    rw [F3]
    by_cases z1 : h = pv M (mgo p q)
    · rw [if_pos z1, z1, fu_n _ _ pd, fu_s]
    · rw [if_neg z1]
      by_cases z2 : h = pv M (tw (mgo p q))
      · rw [if_pos z2, z2, fu_s]
      · rw [if_neg z2, fu_n _ _ z2, fu_n _ _ z1]
  have G5 : ∀ c, sd (mkM M p q) c = if c = ow M (mgo p q) then sd M (ow M (mgo p q)) - 1 else if c = ow M (tw (mgo p q)) then sd M (ow M (tw (mgo p q))) - 1 else sd M c := by
    intro c
    rw [F5]
    by_cases z1 : c = ow M (mgo p q)
    · rw [if_pos z1, z1, fu_n _ _ (fun e => go e.symm), fu_s]
    · rw [if_neg z1]
      by_cases z2 : c = ow M (tw (mgo p q))
      · rw [if_pos z2, z2, fu_s]
      · rw [if_neg z2, fu_n _ _ z2, fu_n _ _ z1]
  have G6 : ∀ w, lv (mkM M p q) w = true → ∃ n, n ≤ 99 ∧ ln (mkM M p q) w = nI n := by
    intro w hw
    rw [F6]
    by_cases z : w = wl (mst p q)
    · rw [z, fu_s]
      obtain ⟨a, ha, ea⟩ := k5 _ lp
      obtain ⟨b, hb, eb⟩ := k5 _ lq
      rw [ea, eb, nI_add]
      unfold imin
      split
      · exact ⟨99, by omega, rfl⟩
      · rename_i h
        rw [nI_lt_ (by decide) (by omega)] at h
        exact ⟨a + b, by omega, rfl⟩
    · rw [fu_n _ _ z]
      refine k5 w ?_
      rw [F1] at hw
      have zz : w ≠ wl (mgo p q) := fun e => by rw [e, fu_s] at hw; cases hw
      rw [fu_n _ _ zz] at hw
      exact hw
  have CY : Cy (fun h => (LvH M h ∧ h ≠ mgo p q) ∧ h ≠ tw (mgo p q)) (nx (mkM M p q)) (pv (mkM M p q)) (ow (mkM M p q)) := by
    have x1 : fu (nx M) (pv M (mgo p q)) (nx M (mgo p q)) (tw (mgo p q)) = nx M (tw (mgo p q)) := fu_n _ _ (fun e => go (by rw [e]; exact k1.op lg))
    have x2 : fu (pv M) (nx M (mgo p q)) (pv M (mgo p q)) (tw (mgo p q)) = pv M (tw (mgo p q)) := fu_n _ _ (fun e => go (by rw [e]; exact k1.on lg))
    have C1 := k1.un lg ng
    have C2 := C1.un (a := tw (mgo p q)) ⟨ltg, tw_ne _⟩ (by rw [x1]; exact ntg)
    rw [x1, x2] at C2
    rw [F2, F3, F4]
    exact C2
  refine ⟨⟨lp, lq, so, sto, go⟩, ?_, F1, F2, G3, fun c => by rw [G5, og, otg]⟩
  rcases gx with z | z
  · -- the first one goes: seen from its other side
    rw [z] at F1 G3 G5 CY go
    have w1 : wl (tw p) = wl p := wl_tw p
    refine KI.go (M := M) (M' := mkM M p q) (X := X) (r := tw q) (g := tw p) ⟨k1, k2, k3, fun h hh hx => k4 h hh (fun t => hx ?_), k5⟩ ltq ltp (fun e => hne (tw_inj e).symm) e2 (by rw [tw_tw, tw_tw]; exact e1) Xc xp (by rw [w1]; exact F1) F2 (fun h => ?_) (fun c => ?_) G6 (CY.cg (fun h => ?_) (fun _ _ => rfl) (fun _ _ => rfl) (fun _ _ => rfl))
    · rcases t with t | t | t
      · exact Or.inl t
      · exact Or.inr (Or.inr (by rw [tw_tw]; exact t))
      · exact Or.inr (Or.inl t)
    · rw [G3, tw_tw]
      have pd' : pv M p ≠ pv M (tw p) := fun e => go (by rw [← k1.op ltp, ← e]; exact k1.op lp)
      by_cases y1 : h = pv M p
      · rw [if_pos y1, if_neg (fun e => pd' (y1.symm.trans e)), if_pos y1]
      · rw [if_neg y1]
        by_cases y2 : h = pv M (tw p)
        · rw [if_pos y2, if_pos y2]
        · rw [if_neg y2, if_neg y2, if_neg y1]
    · rw [G5, tw_tw]
      by_cases y1 : c = ow M p
      · rw [if_pos y1, if_neg (fun e => go (e.symm.trans y1)), if_pos y1]
      · rw [if_neg y1]
        by_cases y2 : c = ow M (tw p)
        · rw [if_pos y2, if_pos y2]
        · rw [if_neg y2, if_neg y2, if_neg y1]
    · rw [tw_tw]
      constructor
      · rintro ⟨⟨a, b⟩, d⟩
        exact ⟨⟨a, d⟩, b⟩
      · rintro ⟨⟨a, b⟩, d⟩
        exact ⟨⟨a, d⟩, b⟩
  · rw [z] at F1 G3 G5 CY
    exact KI.go (M := M) (M' := mkM M p q) (X := X) (r := p) (g := q) K0 lp lq hne e1 e2 Xc xq F1 F2 G3 G5 G6 CY
end MLT2
