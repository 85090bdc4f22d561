section BUR
variable {M : Ms}
/-- BURST of the wall between A, the cell of a, and B, that of its other side -/
theorem Inv.jo (J : Inv M) {a : Hf} (la : LvH M a) (lt : (ow M a).val < (ow M (tw a)).val) (d4 : ow M a ≠ en M a) (d5 : ow M a ≠ en M (tw a)) (d6 : ow M (tw a) ≠ en M a) (d7 : ow M (tw a) ≠ en M (tw a)) (d8 : en M a ≠ en M (tw a)) (w1 : wB M (ow M a) (ow M (tw a)) = nI 1) (s1 : 3 < sd M (en M a)) (s2 : 3 < sd M (en M (tw a))) (s3 : 6 < sd M (ow M a) + sd M (ow M (tw a))) : JoOk M (wl a) a ∧ Inv (joM M (wl a) a) := by
  have d3 : ow M a ≠ ow M (tw a) := fun e => by rw [e] at lt; omega
  have lo : LvH M (tw a) := LvH_tw.mpr la
  have m0 := J.meet la
  have m1 := J.meet lo
  rw [tw_tw] at m1
  have lN := J.nl la
  have lP := J.pl la
  have lN2 := J.nl lo
  have lP2 := J.pl lo
  have lTN : LvH M (tw (nx M a)) := LvH_tw.mpr lN
  have lTN2 : LvH M (tw (nx M (tw a))) := LvH_tw.mpr lN2
  have oN := J.on la
  have oP := J.op la
  have oN2 := J.on lo
  have oP2 := J.op lo
  have oT2 : ow M (tw (pv M (tw a))) = en M a := by rw [← m0]; exact J.on lTN
  have oTP : ow M (tw (pv M a)) = en M (tw a) := by rw [← m1]; exact J.on lTN2
  have oTN : ow M (tw (nx M a)) = en M a := rfl
  have oTN2 : ow M (tw (nx M (tw a))) = en M (tw a) := rfl
  obtain ⟨F1, F2, F3, F4, F5, F6⟩ := joM1_f M (wl a) a
  -- who owns what then
  have pB := J.pos lo
  have pA := J.pos la
  have O : ∀ g, LvH M g → g ≠ tw a → ow (joM1 M (wl a) a) g = if ow M g = ow M (tw a) then ow M a else ow M g := by
    intro g lg ng
    rw [F2]
    have jj := jL_ow (ow M a) (rx M a) (ry M a) (sd M (ow M (tw a)) - 1) M (nx M (tw a)) g
    by_cases z : ow M g = ow M (tw a)
    · rw [if_pos z]
      refine jj.1 ?_
      obtain ⟨k, hk, ek⟩ := (J.orb (tw a) lo).2.2 g lg z
      cases k with
      | zero => exact absurd ek.symm ng
      | succ k => exact ⟨k, by omega, ek⟩
    · rw [if_neg z]
      refine jj.2 (fun i _ e => z ?_)
      have := (J.1.lit i (nx M (tw a)) lN2).2
      rw [e] at this
      exact this.trans oN2
  have ao : a ≠ tw a := fun e => tw_ne a e.symm
  have Pa : pv M a ≠ a := J.pne la
  have Po : pv M a ≠ tw a := fun e => d3 (by rw [← oP, e])
  have P2o : pv M (tw a) ≠ tw a := J.pne lo
  have P2a : pv M (tw a) ≠ a := fun e => d3 (by rw [← oP2, e])
  have PP2 : pv M a ≠ pv M (tw a) := fun e => d3 (by rw [← oP, e, oP2])
  have Na : nx M a ≠ a := J.nne la
  have No : nx M a ≠ tw a := fun e => d3 (by rw [← oN, e])
  have N2o : nx M (tw a) ≠ tw a := J.nne lo
  have N2a : nx M (tw a) ≠ a := fun e => d3 (by rw [← oN2, e])
  have L : ∀ g, LvH (joM1 M (wl a) a) g ↔ (LvH M g ∧ g ≠ a) ∧ g ≠ tw a := by
    intro g
    unfold LvH
    rw [F1]
    constructor
    · intro hh
      have z : wl g ≠ wl a := fun e => by rw [e, fu_s] at hh; cases hh
      rw [fu_n _ _ z] at hh
      exact ⟨⟨hh, fun e => z (by rw [e])⟩, fun e => z (by rw [e, wl_tw])⟩
    · rintro ⟨⟨hh, z1⟩, z2⟩
      rw [fu_n _ _ (fun e => (wl_eq e).elim z1 z2)]
      exact hh
  have CY : Cy (LvH (joM1 M (wl a) a)) (nx (joM1 M (wl a) a)) (pv (joM1 M (wl a) a)) (ow (joM1 M (wl a) a)) := by
    have x1 : fu (nx M) (pv M a) (nx M a) (tw a) = nx M (tw a) := fu_n _ _ (fun e => Po e.symm)
    have x2 : fu (pv M) (nx M a) (pv M a) (tw a) = pv M (tw a) := fu_n _ _ (fun e => No e.symm)
    have C1 := J.1.un la Na
    have C2 := C1.un (a := tw a) ⟨lo, fun e => ao e.symm⟩ (by rw [x1]; exact N2o)
    rw [x1, x2] at C2
    have y1 : fu (fu (nx M) (pv M a) (nx M a)) (pv M (tw a)) (nx M (tw a)) (pv M a) = nx M a := by rw [fu_n _ _ PP2, fu_s]
    have y2 : fu (fu (nx M) (pv M a) (nx M a)) (pv M (tw a)) (nx M (tw a)) (pv M (tw a)) = nx M (tw a) := fu_s _ _ _
    have C3 := C2.merge (x := pv M a) (y := pv M (tw a)) ⟨⟨lP, Pa⟩, Po⟩ ⟨⟨lP2, P2a⟩, P2o⟩ (by rw [oP, oP2]; exact d3)
    rw [y1, y2] at C3
    refine C3.cg L (fun h hh => ?_) (fun h hh => ?_) (fun h hh => ?_)
    · rw [F3]
      unfold fu
      split
      · rfl
      · split
        · rfl
        · rfl
    · rw [F4]
      unfold fu
      split
      · rfl
      · split
        · rfl
        · rfl
    · rw [O h hh.1.1 hh.2, oP, oP2]
  have K1 : KI (joM1 M (wl a) a) (fun h => (False ∨ h = pv M (tw a) ∨ h = tw (nx M a)) ∨ h = pv M a ∨ h = tw (nx M (tw a))) := by
    refine ⟨CY, fun c => ?_, fun h hh => ?_, fun h hh xh => ?_, fun w hw => ?_⟩
    · rw [F5]
      by_cases zB : c = ow M (tw a)
      · rw [zB, fu_s, cH_none]
        intro g
        cases e : fib (joM1 M (wl a) a) (ow M (tw a)) g with
        | false => rfl
        | true =>
          obtain ⟨e1, e2⟩ := fib_iff.mp e
          obtain ⟨⟨e3, e4⟩, e5⟩ := (L g).mp e1
          rw [O g e3 e5] at e2
          split at e2
          · exact absurd e2 d3
          · rename_i z; exact absurd e2 z
      · rw [fu_n _ _ zB]
        by_cases zA : c = ow M a
        · rw [zA, fu_s]
          have q0 := cH_or (P := fib M (ow M a)) (Q := fib M (ow M (tw a))) (fun x hx => by
            cases e : fib M (ow M (tw a)) x with
            | false => rfl
            | true => exact absurd ((fib_iff.mp hx).2.symm.trans (fib_iff.mp e).2) d3)
          have q1 := cH_rm (fun x => fib M (ow M a) x || fib M (ow M (tw a)) x) a
          have q2 := cH_rm (fun h => (fib M (ow M a) h || fib M (ow M (tw a)) h) && decide (h ≠ a)) (tw a)
          have ef : cH (fib (joM1 M (wl a) a) (ow M a)) = cH (fun h => ((fib M (ow M a) h || fib M (ow M (tw a)) h) && decide (h ≠ a)) && decide (h ≠ tw a)) := by
            refine cH_congr (fun h => ?_)
            rw [Bool.eq_iff_iff, fib_iff, L]
            simp only [Bool.and_eq_true, Bool.or_eq_true, decide_eq_true_iff, fib_iff]
            constructor
            · rintro ⟨⟨⟨b1, b2⟩, b3⟩, b4⟩
              rw [O h b1 b3] at b4
              split at b4
              · rename_i z; exact ⟨⟨Or.inr ⟨b1, z⟩, b2⟩, b3⟩
              · exact ⟨⟨Or.inl ⟨b1, b4⟩, b2⟩, b3⟩
            · rintro ⟨⟨b1 | b1, b2⟩, b3⟩
              · refine ⟨⟨⟨b1.1, b2⟩, b3⟩, ?_⟩
                rw [O h b1.1 b3, if_neg (by rw [b1.2]; exact d3)]
                exact b1.2
              · refine ⟨⟨⟨b1.1, b2⟩, b3⟩, ?_⟩
                rw [O h b1.1 b3, if_pos b1.2]
          have f0 : fib M (ow M a) a = true := fib_iff.mpr ⟨la, rfl⟩
          have f1 : fib M (ow M (tw a)) (tw a) = true := fib_iff.mpr ⟨lo, rfl⟩
          rw [f0, Bool.true_or] at q1
          rw [f1, Bool.or_true, decide_eq_true ao.symm, Bool.and_true] at q2
          rw [ef]
          have t1 : b1 true = 1 := rfl
          rw [t1] at q1 q2
          have k1 := J.2.1 (ow M a)
          have k2 := J.2.1 (ow M (tw a))
          omega
        · rw [fu_n _ _ zA, J.2.1]
          refine cH_congr (fun h => ?_)
          rw [Bool.eq_iff_iff, fib_iff, fib_iff, L]
          constructor
          · rintro ⟨b1, b2⟩
            have n1 : h ≠ a := fun e => zA (by rw [← b2, e])
            have n2 : h ≠ tw a := fun e => zB (by rw [← b2, e])
            refine ⟨⟨⟨b1, n1⟩, n2⟩, ?_⟩
            rw [O h b1 n2, if_neg (by rw [b2]; exact zB)]
            exact b2
          · rintro ⟨⟨⟨b1, b2⟩, b3⟩, b4⟩
            rw [O h b1 b3] at b4
            split at b4
            · exact absurd b4.symm zA
            · exact ⟨b1, b4⟩
    · obtain ⟨⟨l1, l2⟩, l3⟩ := (L h).mp hh
      have t2 : tw h ≠ tw a := fun e => l2 (tw_inj e)
      rw [O h l1 l3, O (tw h) (LvH_tw.mpr l1) t2]
      have g := J.2.2.1 h l1
      have uniq : ¬ (ow M h = ow M a ∧ ow M (tw h) = ow M (tw a)) ∧ ¬ (ow M h = ow M (tw a) ∧ ow M (tw h) = ow M a) := by
        have ba := (bt_of la rfl rfl).1
        constructor
        · rintro ⟨y1, y2⟩
          have := wB_one w1 (bt_of l1 y1 y2).1 ba
          exact (wl_eq this).elim l2 l3
        · rintro ⟨y1, y2⟩
          have := wB_one w1 (bt_of l1 y1 y2).2 ba
          exact (wl_eq this).elim l2 l3
      by_cases y1 : ow M (tw h) = ow M (tw a)
      · rw [if_pos y1]
        by_cases y2 : ow M h = ow M (tw a)
        · exact absurd (y1.trans y2.symm) g
        · rw [if_neg y2]
          exact fun e => uniq.1 ⟨e.symm, y1⟩
      · rw [if_neg y1]
        by_cases y2 : ow M h = ow M (tw a)
        · rw [if_pos y2]
          exact fun e => uniq.2 ⟨y2, e⟩
        · rw [if_neg y2]
          exact g
    · have inj : ∀ u v, LvH M u → LvH M v → ph M u = ph M v → u = v := fun u v lu lv_ e => J.1.inj lu lv_ (tw_inj e)
      have o1 : ph M a = tw (nx M a) := rfl
      have o2 : ph M (tw a) = tw (nx M (tw a)) := rfl
      have o3 : ph M (tw (nx M a)) = pv M (tw a) := by unfold ph; rw [m0, tw_tw]
      have o4 : ph M (tw (nx M (tw a))) = pv M a := by unfold ph; rw [m1, tw_tw]
      have out : ∀ x, LvH (joM1 M (wl a) a) x → x ≠ pv M (tw a) → x ≠ tw (nx M a) → x ≠ pv M a → x ≠ tw (nx M (tw a)) → ph (joM1 M (wl a) a) x = ph M x ∧ LvH (joM1 M (wl a) a) (ph M x) ∧ ph M x ≠ pv M (tw a) ∧ ph M x ≠ tw (nx M a) ∧ ph M x ≠ pv M a ∧ ph M x ≠ tw (nx M (tw a)) := by
        intro x lx x1 x2 x3 x4
        obtain ⟨⟨l1, l2⟩, l3⟩ := (L x).mp lx
        have e : ph (joM1 M (wl a) a) x = ph M x := by unfold ph; rw [F3, fu_n _ _ x1, fu_n _ _ x3]
        refine ⟨e, ?_, fun z => x2 (inj x _ l1 lTN (z.trans o3.symm)), fun z => l2 (inj x a l1 la (z.trans o1.symm)), fun z => x4 (inj x _ l1 lTN2 (z.trans o4.symm)), fun z => l3 (inj x _ l1 lo (z.trans o2.symm))⟩
        rw [← e]
        exact LvH_tw.mpr (CY.1 x lx).1
      obtain ⟨x1, x2, x3, x4, x5, x6⟩ := out h hh (fun e => xh (Or.inl (Or.inr (Or.inl e)))) (fun e => xh (Or.inl (Or.inr (Or.inr e)))) (fun e => xh (Or.inr (Or.inl e))) (fun e => xh (Or.inr (Or.inr e)))
      obtain ⟨y1, y2, y3, y4, y5, y6⟩ := out _ x2 x3 x4 x5 x6
      obtain ⟨z1, _⟩ := out _ y2 y3 y4 y5 y6
      rw [x1, y1, z1]
      exact J.2.2.2.1 h ((L h).mp hh).1.1
    · rw [F6]
      refine J.2.2.2.2.2.2 w ?_
      rw [F1] at hw
      have z : w ≠ wl a := fun e => by rw [e, fu_s] at hw; cases hw
      rw [fu_n _ _ z] at hw
      exact hw
  -- the first of the two ends
  have TNa : tw (nx M a) ≠ a := fun e => d4 (by rw [← oTN, e])
  have TNo : tw (nx M a) ≠ tw a := fun e => Na (tw_inj e)
  have TN2a : tw (nx M (tw a)) ≠ a := fun e => d5 (by rw [← oTN2, e])
  have TN2o : tw (nx M (tw a)) ≠ tw a := fun e => N2a (tw_inj e)
  have n1P : nx (joM1 M (wl a) a) (pv M a) = nx M (tw a) := by rw [F3, fu_n _ _ PP2, fu_s]
  have n1P2 : nx (joM1 M (wl a) a) (pv M (tw a)) = nx M a := by rw [F3, fu_s]
  have n1TN2 : nx (joM1 M (wl a) a) (tw (nx M (tw a))) = tw (pv M a) := by
    rw [F3, fu_n _ _ (fun e => d7 (by rw [← oP2, ← e])), fu_n _ _ (fun e => d5 (by rw [← oP, ← e])), m1]
  have n1TN : nx (joM1 M (wl a) a) (tw (nx M a)) = tw (pv M (tw a)) := by
    rw [F3, fu_n _ _ (fun e => d6 (by rw [← oP2, ← e])), fu_n _ _ (fun e => d4 (by rw [← oP, ← e])), m0]
  have LP : LvH (joM1 M (wl a) a) (pv M a) := (L _).mpr ⟨⟨lP, Pa⟩, Po⟩
  have LP2 : LvH (joM1 M (wl a) a) (pv M (tw a)) := (L _).mpr ⟨⟨lP2, P2a⟩, P2o⟩
  have LN : LvH (joM1 M (wl a) a) (nx M a) := (L _).mpr ⟨⟨lN, Na⟩, No⟩
  have LN2 : LvH (joM1 M (wl a) a) (nx M (tw a)) := (L _).mpr ⟨⟨lN2, N2a⟩, N2o⟩
  have LTN : LvH (joM1 M (wl a) a) (tw (nx M a)) := LvH_tw.mpr LN
  have inj1 : ∀ u v, LvH (joM1 M (wl a) a) u → LvH (joM1 M (wl a) a) v → ph (joM1 M (wl a) a) u = ph (joM1 M (wl a) a) v → u = v := fun u v lu lv_ e => CY.inj lu lv_ (tw_inj e)
  have PN2 : pv M a ≠ nx M (tw a) := fun e => d3 (by rw [← oP, e, oN2])
  have P2N : pv M (tw a) ≠ nx M a := fun e => d3 (by rw [← oN, ← e, oP2])
  obtain ⟨ok1, K2, A1, A2, A3, A5⟩ := K1.mk LP LN2 PN2 n1P n1TN2 (fun h hh xh => by
    rintro (z | z | z)
    · exact z
    · refine xh (Or.inr (Or.inr (inj1 h _ hh LTN (z.trans ?_))))
      unfold ph
      rw [n1TN, tw_tw]
    · refine xh (Or.inr (Or.inl (inj1 h _ hh LP2 (z.trans ?_))))
      unfold ph
      rw [n1P2]) (by
    rintro (z | z | z)
    · exact z
    · exact J.npne lo z
    · exact d6 (by rw [← oN2, z])) (by
    rintro (z | z | z)
    · exact z
    · exact d7 (by rw [← oTP, z, oP2])
    · exact d8 (by rw [← oTP, z]))
  -- the other end
  have gx : mgo (pv M a) (nx M (tw a)) = pv M a ∨ mgo (pv M a) (nx M (tw a)) = nx M (tw a) := by unfold mgo; split; exact Or.inr rfl; exact Or.inl rfl
  have Lg : LvH (joM1 M (wl a) a) (mgo (pv M a) (nx M (tw a))) := by rcases gx with z | z <;> rw [z] <;> assumption
  have Ltg : LvH (joM1 M (wl a) a) (tw (mgo (pv M a) (nx M (tw a)))) := LvH_tw.mpr Lg
  have gAB : ow M (mgo (pv M a) (nx M (tw a))) = ow M a ∨ ow M (mgo (pv M a) (nx M (tw a))) = ow M (tw a) := by
    rcases gx with z | z
    · exact Or.inl (by rw [z, oP])
    · exact Or.inr (by rw [z, oN2])
  have gD : ow M (tw (mgo (pv M a) (nx M (tw a)))) = en M (tw a) := by
    rcases gx with z | z
    · rw [z, oTP]
    · rw [z]
  have gN : mgo (pv M a) (nx M (tw a)) ≠ nx M a := by
    rcases gx with z | z
    · rw [z]; exact fun e => J.npne la e.symm
    · rw [z]; exact fun e => d3 (by rw [← oN, ← e, oN2])
  have gP2 : mgo (pv M a) (nx M (tw a)) ≠ pv M (tw a) := by
    rcases gx with z | z
    · rw [z]; exact PP2
    · rw [z]; exact J.npne lo
  have npv : ∀ x, LvH (joM1 M (wl a) a) x → nx (joM1 M (wl a) a) (pv (joM1 M (wl a) a) x) = x := fun x lx => (CY.1 x lx).2.2.1
  generalize mgo (pv M a) (nx M (tw a)) = g at *
  have n2P2 : nx (mkM (joM1 M (wl a) a) (pv M a) (nx M (tw a))) (pv M (tw a)) = nx M a := by
    rw [A3, if_neg (fun e => gN (by rw [← npv g Lg, ← e, n1P2])), if_neg (fun e => d5 (by rw [← oN, ← n1P2, e, npv _ Ltg, gD])), n1P2]
  have n2TN : nx (mkM (joM1 M (wl a) a) (pv M a) (nx M (tw a))) (tw (nx M a)) = tw (pv M (tw a)) := by
    have t1 : tw (nx M a) ≠ pv (joM1 M (wl a) a) g := fun e => by
      have h1 : tw (pv M (tw a)) = g := by rw [← n1TN, e, npv _ Lg]
      rcases gAB with z | z
      · exact d4 (by rw [← z, ← h1, oT2])
      · exact d6 (by rw [← z, ← h1, oT2])
    have t2 : tw (nx M a) ≠ pv (joM1 M (wl a) a) (tw g) := fun e => by
      have h1 : tw (pv M (tw a)) = tw g := by rw [← n1TN, e, npv _ Ltg]
      exact gP2 (tw_inj h1).symm
    rw [A3, if_neg t1, if_neg t2, n1TN]
  have L2 : ∀ x, LvH (joM1 M (wl a) a) x → x ≠ g → x ≠ tw g → LvH (mkM (joM1 M (wl a) a) (pv M a) (nx M (tw a))) x := by
    intro x lx x1 x2
    unfold LvH
    rw [A1, fu_n _ _ (fun e => (wl_eq e).elim x1 x2)]
    exact lx
  have LP2' : LvH (mkM (joM1 M (wl a) a) (pv M a) (nx M (tw a))) (pv M (tw a)) := L2 _ LP2 (fun e => gP2 e.symm) (fun e => d7 (by rw [← oP2, e, gD]))
  have LN' : LvH (mkM (joM1 M (wl a) a) (pv M a) (nx M (tw a))) (nx M a) := L2 _ LN (fun e => gN e.symm) (fun e => d5 (by rw [← oN, e, gD]))
  obtain ⟨ok2, K3, B1, B2, B3, B5⟩ := K2.mk LP2' LN' P2N n2P2 n2TN (fun _ _ _ z => z) (fun z => z) (fun z => z)
  -- numbers
  have oP1 : ow (joM1 M (wl a) a) (pv M a) = ow M a := by rw [O _ lP Po, oP, if_neg d3]
  have oTP1 : ow (joM1 M (wl a) a) (tw (pv M a)) = en M (tw a) := by rw [O _ (LvH_tw.mpr lP) (fun e => Pa (tw_inj e)), oTP, if_neg (fun e => d7 e.symm)]
  have oP21 : ow (joM1 M (wl a) a) (pv M (tw a)) = ow M a := by rw [O _ lP2 P2o, oP2, if_pos rfl]
  have oT21 : ow (joM1 M (wl a) a) (tw (pv M (tw a))) = en M a := by rw [O _ (LvH_tw.mpr lP2) (fun e => P2a (tw_inj e)), oT2, if_neg (fun e => d6 e.symm)]
  have e1A : sd (joM1 M (wl a) a) (ow M a) = sd M (ow M a) + sd M (ow M (tw a)) - 2 := by rw [F5, fu_n _ _ d3, fu_s]
  have e1D : sd (joM1 M (wl a) a) (en M (tw a)) = sd M (en M (tw a)) := by rw [F5, fu_n _ _ (fun e => d7 e.symm), fu_n _ _ (fun e => d5 e.symm)]
  have e1C : sd (joM1 M (wl a) a) (en M a) = sd M (en M a) := by rw [F5, fu_n _ _ (fun e => d6 e.symm), fu_n _ _ (fun e => d4 e.symm)]
  have Sd : ∀ c, sd (joM M (wl a) a) c = if c = ow M a then sd M (ow M a) + sd M (ow M (tw a)) - 4 else if c = en M a then sd M (en M a) - 1 else if c = en M (tw a) then sd M (en M (tw a)) - 1 else if c = ow M (tw a) then 0 else sd M c := by
    intro c
    show sd (mkM (mkM (joM1 M (wl a) a) (pv M a) (nx M (tw a))) (pv M (tw a)) (nx M a)) c = _
    rw [B5, A2, oP21, oT21]
    by_cases z1 : c = ow M a
    · rw [if_pos z1, if_pos z1, A5, oP1, if_pos rfl, e1A]
      omega
    · rw [if_neg z1, if_neg z1]
      by_cases z2 : c = en M a
      · rw [if_pos z2, if_pos z2, A5, oP1, oTP1, if_neg (fun e => d4 e.symm), if_neg d8, e1C]
      · rw [if_neg z2, if_neg z2, A5, oP1, oTP1, if_neg z1]
        by_cases z3 : c = en M (tw a)
        · rw [if_pos z3, if_pos z3, e1D]
        · rw [if_neg z3, if_neg z3, F5]
          by_cases z4 : c = ow M (tw a)
          · rw [if_pos z4, z4, fu_s]
          · rw [if_neg z4, fu_n _ _ z4, fu_n _ _ z1]
  obtain ⟨k1, k2, k3, k4, k5⟩ := K3
  refine ⟨⟨la, rfl, lt, J.lvn, by omega, by omega, ok1, ok2⟩, k1, k2, k3, fun h hh => k4 h hh (fun z => z), fun c hc => ?_, ?_, k5⟩
  · rw [Sd] at hc ⊢
    have j5 := J.2.2.2.2.1 c
    split
    · omega
    · split
      · omega
      · split
        · omega
        · split
          · rename_i z1 z2 z3 z4
            rw [if_neg z1, if_neg z2, if_neg z3, if_pos z4] at hc
            omega
          · rename_i z1 z2 z3 z4
            rw [if_neg z1, if_neg z2, if_neg z3, if_neg z4] at hc
            exact j5 hc
  · have c1 := cWf (lv M) (wl a) la
    have c2 := cWf (lv (joM1 M (wl a) a)) (wl g) Lg
    rw [← A1] at c2
    rw [← F1] at c1
    have gy : mgo (pv M (tw a)) (nx M a) = pv M (tw a) ∨ mgo (pv M (tw a)) (nx M a) = nx M a := by unfold mgo; split; exact Or.inr rfl; exact Or.inl rfl
    have c3 := cWf (lv (mkM (joM1 M (wl a) a) (pv M a) (nx M (tw a)))) (wl (mgo (pv M (tw a)) (nx M a))) (by rcases gy with z | z <;> rw [z] <;> assumption)
    rw [← B1] at c3
    have c4 := cCf (sd M) (sd (joM M (wl a) a)) (ow M (tw a)) (by omega) (by rw [Sd, if_neg (fun e => d3 e.symm), if_neg d6, if_neg d7, if_pos rfl]) (fun d hd => by
      rw [Sd]
      split
      · rename_i z; rw [z]; omega
      · split
        · rename_i z; rw [z]; omega
        · split
          · rename_i z; rw [z]; omega
          · exact Iff.rfl)
    have j6 := J.2.2.2.2.2.1
    unfold cWa cCe at j6 ⊢
    have ej : lv (joM M (wl a) a) = lv (mkM (mkM (joM1 M (wl a) a) (pv M a) (nx M (tw a))) (pv M (tw a)) (nx M a)) := rfl
    rw [ej]
    omega
theorem canJ_iff {w : Wa} : canJ M w = true ↔ ((ow M (h0 w) ≠ ow M (h1 w) ∧ ow M (h0 w) ≠ en M (h0 w) ∧ ow M (h0 w) ≠ en M (h1 w) ∧ ow M (h1 w) ≠ en M (h0 w) ∧ ow M (h1 w) ≠ en M (h1 w) ∧ en M (h0 w) ≠ en M (h1 w)) ∧ wB M (ow M (h0 w)) (ow M (h1 w)) = nI 1) ∧ 3 < sd M (en M (h0 w)) ∧ 3 < sd M (en M (h1 w)) ∧ 6 < sd M (ow M (h0 w)) + sd M (ow M (h1 w)) := by
  unfold canJ four
  rw [Bool.and_eq_true, Bool.and_eq_true, decide_eq_true_iff, decide_eq_true_iff, decide_eq_true_iff]
theorem bt_comm (M : Ms) (w : Wa) (c d : Ce) : bt M w c d = bt M w d c := by
  unfold bt
  rw [decide_eq_decide.mpr (or_comm)]
theorem wB_comm (M : Ms) (c d : Ce) : wB M c d = wB M d c := by
  unfold wB
  rw [show (fun i a => if bt M (wI i) c d = true then a + nI 1 else a) = (fun i a => if bt M (wI i) d c = true then a + nI 1 else a) from funext (fun i => by rw [bt_comm])]
theorem Inv.burst (J : Inv M) {w : Wa} (hl : lv M w = true) (hc : canJ M w = true) : JoOk M w (buA M w) ∧ Inv (joM M w (buA M w)) := by
  obtain ⟨⟨⟨d3, d4, d5, d6, d7, d8⟩, w1⟩, s1, s2, s3⟩ := canJ_iff.mp hc
  unfold buA
  split
  · rename_i z
    have := J.jo (a := h0 w) (LvH_h0.mpr hl) (by rw [tw_h0]; exact z) d4 (by rw [tw_h0]; exact d5) (by rw [tw_h0]; exact d6) (by rw [tw_h0]; exact d7) (by rw [tw_h0]; exact d8) (by rw [tw_h0]; exact w1) s1 (by rw [tw_h0]; exact s2) (by rw [tw_h0]; exact s3)
    rw [wl_h0] at this
    exact this
  · rename_i z
    have z' : (ow M (h1 w)).val < (ow M (h0 w)).val := by
      have : (ow M (h0 w)).val ≠ (ow M (h1 w)).val := fun e => d3 (Fin.ext e)
      omega
    have := J.jo (a := h1 w) (LvH_h1.mpr hl) (by rw [tw_h1]; exact z') d7 (by rw [tw_h1]; exact d6) (by rw [tw_h1]; exact d5) (by rw [tw_h1]; exact d4) (by rw [tw_h1]; exact d8.symm) (by rw [tw_h1, wB_comm]; exact w1) s2 (by rw [tw_h1]; exact s1) (by rw [tw_h1]; omega)
    rw [wl_h1] at this
    exact this
end BUR
