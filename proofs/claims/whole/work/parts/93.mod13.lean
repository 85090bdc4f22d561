section MKP
variable {M : Ms} {X : Hf → Prop} {p q : Hf}
theorem KI.mkp (K : KI M X) (lp : LvH M p) (lq : LvH M q) (hne : p ≠ q) (e1 : nx M p = q) (e2 : nx M (tw q) = tw p) : pv M (mgo p q) ≠ mgo p q ∧ pv M (tw (mgo p q)) ≠ tw (mgo p q) := by
  have k1 := K.1
  have gx : mgo p q = p ∨ mgo p q = q := by unfold mgo; split; exact Or.inr rfl; exact Or.inl rfl
  have ltq : LvH M (tw q) := LvH_tw.mpr lq
  have ltp : LvH M (tw p) := LvH_tw.mpr lp
  have np : nx M p ≠ p := fun e => hne (e.symm.trans e1)
  have nq : nx M q ≠ q := fun e => hne (k1.inj lp lq (by rw [e1, e]))
  have ntq : nx M (tw q) ≠ tw q := fun e => hne (tw_inj (by rw [← e2, e]))
  have ntp : nx M (tw p) ≠ tw p := fun e => hne (tw_inj (k1.inj ltp ltq (by rw [e, e2])))
  have pne : ∀ x, LvH M x → nx M x ≠ x → pv M x ≠ x := fun x lx h e => h (by have := (k1.1 x lx).2.2.1; rw [e] at this; exact this)
  rcases gx with z | z <;> rw [z]
  · exact ⟨pne _ lp np, pne _ ltp ntp⟩
  · exact ⟨pne _ lq nq, pne _ ltq ntq⟩
end MKP
section BUR1
variable {M : Ms}
theorem Inv.jo1 (J : Inv M) {a : Hf} (la : LvH M a) (lt : (ow M a).val < (ow M (tw a)).val) (d4 : ow M a ≠ en M a) (d5 : ow M a ≠ en M (tw a)) (d6 : ow M (tw a) ≠ en M a) (d7 : ow M (tw a) ≠ en M (tw a)) (d8 : en M a ≠ en M (tw a)) (w1 : wB M (ow M a) (ow M (tw a)) = nI 1) (s1 : 3 < sd M (en M a)) (s2 : 3 < sd M (en M (tw a))) (s3 : 6 < sd M (ow M a) + sd M (ow M (tw a))) : KI (joM1 M (wl a) a) (fun h => (False ∨ h = pv M (tw a) ∨ h = tw (nx M a)) ∨ h = pv M a ∨ h = tw (nx M (tw a))) ∧ (∀ g, LvH M g → g ≠ tw a → ow (joM1 M (wl a) a) g = if ow M g = ow M (tw a) then ow M a else ow M g) ∧ (∀ g, LvH (joM1 M (wl a) a) g ↔ (LvH M g ∧ g ≠ a) ∧ g ≠ tw a) ∧ KI (mkM (joM1 M (wl a) a) (pv M a) (nx M (tw a))) (fun h => False ∨ h = pv M (tw a) ∨ h = tw (nx M a)) ∧ (pv (joM1 M (wl a) a) (mgo (pv M a) (nx M (tw a))) ≠ mgo (pv M a) (nx M (tw a)) ∧ pv (joM1 M (wl a) a) (tw (mgo (pv M a) (nx M (tw a)))) ≠ tw (mgo (pv M a) (nx M (tw a)))) ∧ (pv (mkM (joM1 M (wl a) a) (pv M a) (nx M (tw a))) (mgo (pv M (tw a)) (nx M a)) ≠ mgo (pv M (tw a)) (nx M a) ∧ pv (mkM (joM1 M (wl a) a) (pv M a) (nx M (tw a))) (tw (mgo (pv M (tw a)) (nx M a))) ≠ tw (mgo (pv M (tw a)) (nx M a))) := by
  have d3 : ow M a ≠ ow M (tw a) := fun e => by rw [e] at lt; omega
  have lo : LvH M (tw a) := LvH_tw.mpr la
  have m0 := J.meet la
  have m1 := J.meet lo
  rw [tw_tw] at m1
  have lN := J.nl la
  have lP := J.pl la
  have lN2 := J.nl lo
  have lP2 := J.pl lo
  have lTN : LvH M (tw (nx M a)) := LvH_tw.mpr lN
  have lTN2 : LvH M (tw (nx M (tw a))) := LvH_tw.mpr lN2
  have oN := J.on la
  have oP := J.op la
  have oN2 := J.on lo
  have oP2 := J.op lo
  have oT2 : ow M (tw (pv M (tw a))) = en M a := by rw [← m0]; exact J.on lTN
  have oTP : ow M (tw (pv M a)) = en M (tw a) := by rw [← m1]; exact J.on lTN2
  have oTN : ow M (tw (nx M a)) = en M a := rfl
  have oTN2 : ow M (tw (nx M (tw a))) = en M (tw a) := rfl
  obtain ⟨F1, F2, F3, F4, F5, F6⟩ := joM1_f M (wl a) a
  -- who owns what then
  have pB := J.pos lo
  have pA := J.pos la
  have O : ∀ g, LvH M g → g ≠ tw a → ow (joM1 M (wl a) a) g = if ow M g = ow M (tw a) then ow M a else ow M g := by
    intro g lg ng
    rw [F2]
    have jj := jL_ow (ow M a) (rx M a) (ry M a) (sd M (ow M (tw a)) - 1) M (nx M (tw a)) g
    by_cases z : ow M g = ow M (tw a)
    · rw [if_pos z]
      refine jj.1 ?_
      obtain ⟨k, hk, ek⟩ := (J.orb (tw a) lo).2.2 g lg z
      cases k with
      | zero => exact absurd ek.symm ng
      | succ k => exact ⟨k, by omega, ek⟩
    · rw [if_neg z]
      refine jj.2 (fun i _ e => z ?_)
      have := (J.1.lit i (nx M (tw a)) lN2).2
      rw [e] at this
      exact this.trans oN2
  have ao : a ≠ tw a := fun e => tw_ne a e.symm
  have Pa : pv M a ≠ a := J.pne la
  have Po : pv M a ≠ tw a := fun e => d3 (by rw [← oP, e])
  have P2o : pv M (tw a) ≠ tw a := J.pne lo
  have P2a : pv M (tw a) ≠ a := fun e => d3 (by rw [← oP2, e])
  have PP2 : pv M a ≠ pv M (tw a) := fun e => d3 (by rw [← oP, e, oP2])
  have Na : nx M a ≠ a := J.nne la
  have No : nx M a ≠ tw a := fun e => d3 (by rw [← oN, e])
  have N2o : nx M (tw a) ≠ tw a := J.nne lo
  have N2a : nx M (tw a) ≠ a := fun e => d3 (by rw [← oN2, e])
  have L : ∀ g, LvH (joM1 M (wl a) a) g ↔ (LvH M g ∧ g ≠ a) ∧ g ≠ tw a := by
    intro g
    unfold LvH
    rw [F1]
    constructor
    · intro hh
      have z : wl g ≠ wl a := fun e => by rw [e, fu_s] at hh; cases hh
      rw [fu_n _ _ z] at hh
      exact ⟨⟨hh, fun e => z (by rw [e])⟩, fun e => z (by rw [e, wl_tw])⟩
    · rintro ⟨⟨hh, z1⟩, z2⟩
      rw [fu_n _ _ (fun e => (wl_eq e).elim z1 z2)]
      exact hh
  have CY : Cy (LvH (joM1 M (wl a) a)) (nx (joM1 M (wl a) a)) (pv (joM1 M (wl a) a)) (ow (joM1 M (wl a) a)) := by
    have x1 : fu (nx M) (pv M a) (nx M a) (tw a) = nx M (tw a) := fu_n _ _ (fun e => Po e.symm)
    have x2 : fu (pv M) (nx M a) (pv M a) (tw a) = pv M (tw a) := fu_n _ _ (fun e => No e.symm)
    have C1 := J.1.un la Na
    have C2 := C1.un (a := tw a) ⟨lo, fun e => ao e.symm⟩ (by rw [x1]; exact N2o)
    rw [x1, x2] at C2
    have y1 : fu (fu (nx M) (pv M a) (nx M a)) (pv M (tw a)) (nx M (tw a)) (pv M a) = nx M a := by rw [fu_n _ _ PP2, fu_s]
    have y2 : fu (fu (nx M) (pv M a) (nx M a)) (pv M (tw a)) (nx M (tw a)) (pv M (tw a)) = nx M (tw a) := fu_s _ _ _
    have C3 := C2.merge (x := pv M a) (y := pv M (tw a)) ⟨⟨lP, Pa⟩, Po⟩ ⟨⟨lP2, P2a⟩, P2o⟩ (by rw [oP, oP2]; exact d3)
    rw [y1, y2] at C3
    refine C3.cg L (fun h hh => ?_) (fun h hh => ?_) (fun h hh => ?_)
    · rw [F3]
      unfold fu
      split
      · rfl
      · split
        · rfl
        · rfl
    · rw [F4]
      unfold fu
      split
      · rfl
      · split
        · rfl
        · rfl
    · rw [O h hh.1.1 hh.2, oP, oP2]
  have K1 : KI (joM1 M (wl a) a) (fun h => (False ∨ h = pv M (tw a) ∨ h = tw (nx M a)) ∨ h = pv M a ∨ h = tw (nx M (tw a))) := by
    refine ⟨CY, fun c => ?_, fun h hh => ?_, fun h hh xh => ?_, fun w hw => ?_⟩
    · rw [F5]
      by_cases zB : c = ow M (tw a)
      · rw [zB, fu_s, cH_none]
        intro g
        cases e : fib (joM1 M (wl a) a) (ow M (tw a)) g with
        | false => rfl
        | true =>
          obtain ⟨e1, e2⟩ := fib_iff.mp e
          obtain ⟨⟨e3, e4⟩, e5⟩ := (L g).mp e1
          rw [O g e3 e5] at e2
          split at e2
          · exact absurd e2 d3
          · rename_i z; exact absurd e2 z
      · rw [fu_n _ _ zB]
        by_cases zA : c = ow M a
        · rw [zA, fu_s]
          have q0 := cH_or (P := fib M (ow M a)) (Q := fib M (ow M (tw a))) (fun x hx => by
            cases e : fib M (ow M (tw a)) x with
            | false => rfl
            | true => exact absurd ((fib_iff.mp hx).2.symm.trans (fib_iff.mp e).2) d3)
          have q1 := cH_rm (fun x => fib M (ow M a) x || fib M (ow M (tw a)) x) a
          have q2 := cH_rm (fun h => (fib M (ow M a) h || fib M (ow M (tw a)) h) && decide (h ≠ a)) (tw a)
          have ef : cH (fib (joM1 M (wl a) a) (ow M a)) = cH (fun h => ((fib M (ow M a) h || fib M (ow M (tw a)) h) && decide (h ≠ a)) && decide (h ≠ tw a)) := by
            refine cH_congr (fun h => ?_)
            rw [Bool.eq_iff_iff, fib_iff, L]
            simp only [Bool.and_eq_true, Bool.or_eq_true, decide_eq_true_iff, fib_iff]
            constructor
            · rintro ⟨⟨⟨b1, b2⟩, b3⟩, b4⟩
              rw [O h b1 b3] at b4
              split at b4
              · rename_i z; exact ⟨⟨Or.inr ⟨b1, z⟩, b2⟩, b3⟩
              · exact ⟨⟨Or.inl ⟨b1, b4⟩, b2⟩, b3⟩
            · rintro ⟨⟨b1 | b1, b2⟩, b3⟩
              · refine ⟨⟨⟨b1.1, b2⟩, b3⟩, ?_⟩
                rw [O h b1.1 b3, if_neg (by rw [b1.2]; exact d3)]
                exact b1.2
              · refine ⟨⟨⟨b1.1, b2⟩, b3⟩, ?_⟩
                rw [O h b1.1 b3, if_pos b1.2]
          have f0 : fib M (ow M a) a = true := fib_iff.mpr ⟨la, rfl⟩
          have f1 : fib M (ow M (tw a)) (tw a) = true := fib_iff.mpr ⟨lo, rfl⟩
          rw [f0, Bool.true_or] at q1
          rw [f1, Bool.or_true, decide_eq_true ao.symm, Bool.and_true] at q2
          rw [ef]
          have t1 : b1 true = 1 := rfl
          rw [t1] at q1 q2
          have k1 := J.2.1 (ow M a)
          have k2 := J.2.1 (ow M (tw a))
          omega
        · rw [fu_n _ _ zA, J.2.1]
          refine cH_congr (fun h => ?_)
          rw [Bool.eq_iff_iff, fib_iff, fib_iff, L]
          constructor
          · rintro ⟨b1, b2⟩
            have n1 : h ≠ a := fun e => zA (by rw [← b2, e])
            have n2 : h ≠ tw a := fun e => zB (by rw [← b2, e])
            refine ⟨⟨⟨b1, n1⟩, n2⟩, ?_⟩
            rw [O h b1 n2, if_neg (by rw [b2]; exact zB)]
            exact b2
          · rintro ⟨⟨⟨b1, b2⟩, b3⟩, b4⟩
            rw [O h b1 b3] at b4
            split at b4
            · exact absurd b4.symm zA
            · exact ⟨b1, b4⟩
    · obtain ⟨⟨l1, l2⟩, l3⟩ := (L h).mp hh
      have t2 : tw h ≠ tw a := fun e => l2 (tw_inj e)
      rw [O h l1 l3, O (tw h) (LvH_tw.mpr l1) t2]
      have g := J.2.2.1 h l1
      have uniq : ¬ (ow M h = ow M a ∧ ow M (tw h) = ow M (tw a)) ∧ ¬ (ow M h = ow M (tw a) ∧ ow M (tw h) = ow M a) := by
        have ba := (bt_of la rfl rfl).1
        constructor
        · rintro ⟨y1, y2⟩
          have := wB_one w1 (bt_of l1 y1 y2).1 ba
          exact (wl_eq this).elim l2 l3
        · rintro ⟨y1, y2⟩
          have := wB_one w1 (bt_of l1 y1 y2).2 ba
          exact (wl_eq this).elim l2 l3
      by_cases y1 : ow M (tw h) = ow M (tw a)
      · rw [if_pos y1]
        by_cases y2 : ow M h = ow M (tw a)
        · exact absurd (y1.trans y2.symm) g
        · rw [if_neg y2]
          exact fun e => uniq.1 ⟨e.symm, y1⟩
      · rw [if_neg y1]
        by_cases y2 : ow M h = ow M (tw a)
        · rw [if_pos y2]
          exact fun e => uniq.2 ⟨y2, e⟩
        · rw [if_neg y2]
          exact g
    · have inj : ∀ u v, LvH M u → LvH M v → ph M u = ph M v → u = v := fun u v lu lv_ e => J.1.inj lu lv_ (tw_inj e)
      have o1 : ph M a = tw (nx M a) := rfl
      have o2 : ph M (tw a) = tw (nx M (tw a)) := rfl
      have o3 : ph M (tw (nx M a)) = pv M (tw a) := by unfold ph; rw [m0, tw_tw]
      have o4 : ph M (tw (nx M (tw a))) = pv M a := by unfold ph; rw [m1, tw_tw]
      have out : ∀ x, LvH (joM1 M (wl a) a) x → x ≠ pv M (tw a) → x ≠ tw (nx M a) → x ≠ pv M a → x ≠ tw (nx M (tw a)) → ph (joM1 M (wl a) a) x = ph M x ∧ LvH (joM1 M (wl a) a) (ph M x) ∧ ph M x ≠ pv M (tw a) ∧ ph M x ≠ tw (nx M a) ∧ ph M x ≠ pv M a ∧ ph M x ≠ tw (nx M (tw a)) := by
        intro x lx x1 x2 x3 x4
        obtain ⟨⟨l1, l2⟩, l3⟩ := (L x).mp lx
        have e : ph (joM1 M (wl a) a) x = ph M x := by unfold ph; rw [F3, fu_n _ _ x1, fu_n _ _ x3]
        refine ⟨e, ?_, fun z => x2 (inj x _ l1 lTN (z.trans o3.symm)), fun z => l2 (inj x a l1 la (z.trans o1.symm)), fun z => x4 (inj x _ l1 lTN2 (z.trans o4.symm)), fun z => l3 (inj x _ l1 lo (z.trans o2.symm))⟩
        rw [← e]
        exact LvH_tw.mpr (CY.1 x lx).1
      obtain ⟨x1, x2, x3, x4, x5, x6⟩ := out h hh (fun e => xh (Or.inl (Or.inr (Or.inl e)))) (fun e => xh (Or.inl (Or.inr (Or.inr e)))) (fun e => xh (Or.inr (Or.inl e))) (fun e => xh (Or.inr (Or.inr e)))
      obtain ⟨y1, y2, y3, y4, y5, y6⟩ := out _ x2 x3 x4 x5 x6
      obtain ⟨z1, _⟩ := out _ y2 y3 y4 y5 y6
      rw [x1, y1, z1]
      exact J.2.2.2.1 h ((L h).mp hh).1.1
    · rw [F6]
      refine J.2.2.2.2.2.2 w ?_
      rw [F1] at hw
      have z : w ≠ wl a := fun e => by rw [e, fu_s] at hw; cases hw
      rw [fu_n _ _ z] at hw
      exact hw
  -- the first of the two ends
  have TNa : tw (nx M a) ≠ a := fun e => d4 (by rw [← oTN, e])
  have TNo : tw (nx M a) ≠ tw a := fun e => Na (tw_inj e)
  have TN2a : tw (nx M (tw a)) ≠ a := fun e => d5 (by rw [← oTN2, e])
  have TN2o : tw (nx M (tw a)) ≠ tw a := fun e => N2a (tw_inj e)
  have n1P : nx (joM1 M (wl a) a) (pv M a) = nx M (tw a) := by rw [F3, fu_n _ _ PP2, fu_s]
  have n1P2 : nx (joM1 M (wl a) a) (pv M (tw a)) = nx M a := by rw [F3, fu_s]
  have n1TN2 : nx (joM1 M (wl a) a) (tw (nx M (tw a))) = tw (pv M a) := by
    rw [F3, fu_n _ _ (fun e => d7 (by rw [← oP2, ← e])), fu_n _ _ (fun e => d5 (by rw [← oP, ← e])), m1]
  have n1TN : nx (joM1 M (wl a) a) (tw (nx M a)) = tw (pv M (tw a)) := by
    rw [F3, fu_n _ _ (fun e => d6 (by rw [← oP2, ← e])), fu_n _ _ (fun e => d4 (by rw [← oP, ← e])), m0]
  have LP : LvH (joM1 M (wl a) a) (pv M a) := (L _).mpr ⟨⟨lP, Pa⟩, Po⟩
  have LP2 : LvH (joM1 M (wl a) a) (pv M (tw a)) := (L _).mpr ⟨⟨lP2, P2a⟩, P2o⟩
  have LN : LvH (joM1 M (wl a) a) (nx M a) := (L _).mpr ⟨⟨lN, Na⟩, No⟩
  have LN2 : LvH (joM1 M (wl a) a) (nx M (tw a)) := (L _).mpr ⟨⟨lN2, N2a⟩, N2o⟩
  have LTN : LvH (joM1 M (wl a) a) (tw (nx M a)) := LvH_tw.mpr LN
  have inj1 : ∀ u v, LvH (joM1 M (wl a) a) u → LvH (joM1 M (wl a) a) v → ph (joM1 M (wl a) a) u = ph (joM1 M (wl a) a) v → u = v := fun u v lu lv_ e => CY.inj lu lv_ (tw_inj e)
  have PN2 : pv M a ≠ nx M (tw a) := fun e => d3 (by rw [← oP, e, oN2])
  have P2N : pv M (tw a) ≠ nx M a := fun e => d3 (by rw [← oN, ← e, oP2])
  obtain ⟨ok1, K2, A1, A2, A3, A5⟩ := K1.mk LP LN2 PN2 n1P n1TN2 (fun h hh xh => by
    rintro (z | z | z)
    · exact z
    · refine xh (Or.inr (Or.inr (inj1 h _ hh LTN (z.trans ?_))))
      unfold ph
      rw [n1TN, tw_tw]
    · refine xh (Or.inr (Or.inl (inj1 h _ hh LP2 (z.trans ?_))))
      unfold ph
      rw [n1P2]) (by
    rintro (z | z | z)
    · exact z
    · exact J.npne lo z
    · exact d6 (by rw [← oN2, z])) (by
    rintro (z | z | z)
    · exact z
    · exact d7 (by rw [← oTP, z, oP2])
    · exact d8 (by rw [← oTP, z]))
  have PP1 := K1.mkp LP LN2 PN2 n1P n1TN2
  -- the other end
  have gx : mgo (pv M a) (nx M (tw a)) = pv M a ∨ mgo (pv M a) (nx M (tw a)) = nx M (tw a) := by unfold mgo; split; exact Or.inr rfl; exact Or.inl rfl
  have Lg : LvH (joM1 M (wl a) a) (mgo (pv M a) (nx M (tw a))) := by rcases gx with z | z <;> rw [z] <;> assumption
  have Ltg : LvH (joM1 M (wl a) a) (tw (mgo (pv M a) (nx M (tw a)))) := LvH_tw.mpr Lg
  have gAB : ow M (mgo (pv M a) (nx M (tw a))) = ow M a ∨ ow M (mgo (pv M a) (nx M (tw a))) = ow M (tw a) := by
    rcases gx with z | z
    · exact Or.inl (by rw [z, oP])
    · exact Or.inr (by rw [z, oN2])
  have gD : ow M (tw (mgo (pv M a) (nx M (tw a)))) = en M (tw a) := by
    rcases gx with z | z
    · rw [z, oTP]
    · rw [z]
  have gN : mgo (pv M a) (nx M (tw a)) ≠ nx M a := by
    rcases gx with z | z
    · rw [z]; exact fun e => J.npne la e.symm
    · rw [z]; exact fun e => d3 (by rw [← oN, ← e, oN2])
  have gP2 : mgo (pv M a) (nx M (tw a)) ≠ pv M (tw a) := by
    rcases gx with z | z
    · rw [z]; exact PP2
    · rw [z]; exact J.npne lo
  have npv : ∀ x, LvH (joM1 M (wl a) a) x → nx (joM1 M (wl a) a) (pv (joM1 M (wl a) a) x) = x := fun x lx => (CY.1 x lx).2.2.1
  generalize mgo (pv M a) (nx M (tw a)) = g at *
  have n2P2 : nx (mkM (joM1 M (wl a) a) (pv M a) (nx M (tw a))) (pv M (tw a)) = nx M a := by
    rw [A3, if_neg (fun e => gN (by rw [← npv g Lg, ← e, n1P2])), if_neg (fun e => d5 (by rw [← oN, ← n1P2, e, npv _ Ltg, gD])), n1P2]
  have n2TN : nx (mkM (joM1 M (wl a) a) (pv M a) (nx M (tw a))) (tw (nx M a)) = tw (pv M (tw a)) := by
    have t1 : tw (nx M a) ≠ pv (joM1 M (wl a) a) g := fun e => by
      have h1 : tw (pv M (tw a)) = g := by rw [← n1TN, e, npv _ Lg]
      rcases gAB with z | z
      · exact d4 (by rw [← z, ← h1, oT2])
      · exact d6 (by rw [← z, ← h1, oT2])
    have t2 : tw (nx M a) ≠ pv (joM1 M (wl a) a) (tw g) := fun e => by
      have h1 : tw (pv M (tw a)) = tw g := by rw [← n1TN, e, npv _ Ltg]
      exact gP2 (tw_inj h1).symm
    rw [A3, if_neg t1, if_neg t2, n1TN]
  have L2 : ∀ x, LvH (joM1 M (wl a) a) x → x ≠ g → x ≠ tw g → LvH (mkM (joM1 M (wl a) a) (pv M a) (nx M (tw a))) x := by
    intro x lx x1 x2
    unfold LvH
    rw [A1, fu_n _ _ (fun e => (wl_eq e).elim x1 x2)]
    exact lx
  have LP2' : LvH (mkM (joM1 M (wl a) a) (pv M a) (nx M (tw a))) (pv M (tw a)) := L2 _ LP2 (fun e => gP2 e.symm) (fun e => d7 (by rw [← oP2, e, gD]))
  have LN' : LvH (mkM (joM1 M (wl a) a) (pv M a) (nx M (tw a))) (nx M a) := L2 _ LN (fun e => gN e.symm) (fun e => d5 (by rw [← oN, e, gD]))
  obtain ⟨ok2, K3, B1, B2, B3, B5⟩ := K2.mk LP2' LN' P2N n2P2 n2TN (fun _ _ _ z => z) (fun z => z) (fun z => z)
  exact ⟨K1, O, L, K2, PP1, K2.mkp LP2' LN' P2N n2P2 n2TN⟩
end BUR1
/-- counts along a cell -/
def crL (x y : Int32) : Nat → Ms → Hf → Ms
  | 0, M, _ => M
  | k + 1, M, h => crL x y k (rdM M h (rx M h + x) (ry M h + y)) (nx M h)
theorem crL_f (x y : Int32) : ∀ (k : Nat) (M : Ms) (h : Hf), nx (crL x y k M h) = nx M ∧ pv (crL x y k M h) = pv M ∧ lv (crL x y k M h) = lv M ∧ sd (crL x y k M h) = sd M ∧ ar (crL x y k M h) = ar M ∧ ln (crL x y k M h) = ln M ∧ ow (crL x y k M h) = ow M
  | 0, _, _ => ⟨rfl, rfl, rfl, rfl, rfl, rfl, rfl⟩
  | k + 1, M, h => crL_f x y k (rdM M h (rx M h + x) (ry M h + y)) (nx M h)
theorem crL_jL (left : Ce) (x y : Int32) : ∀ (k : Nat) (M N : Ms) (h : Hf), rx M = rx N → ry M = ry N → nx M = nx N → rx (jL left x y k M h) = rx (crL x y k N h) ∧ ry (jL left x y k M h) = ry (crL x y k N h)
  | 0, _, _, _, e1, e2, _ => ⟨e1, e2⟩
  | k + 1, M, N, h, e1, e2, e3 => by
    show rx (jL left x y k (jS left x y M h) (nx M h)) = rx (crL x y k (rdM N h (rx N h + x) (ry N h + y)) (nx N h)) ∧ ry (jL left x y k (jS left x y M h) (nx M h)) = ry (crL x y k (rdM N h (rx N h + x) (ry N h + y)) (nx N h))
    have q := crL_jL left x y k (jS left x y M h) (rdM N h (rx N h + x) (ry N h + y)) (nx N h) (by
      unfold jS rdM
      simp only [g_nx_sLv, g_pv_sLv, g_rx_sLv, g_nx_sOw, g_pv_sOw, g_rx_sOw, g_nx_sNx, g_pv_sNx, g_rx_sNx, g_nx_sPv, g_pv_sPv, g_rx_sPv, g_nx_sRx, g_pv_sRx, g_rx_sRx, g_nx_sRy, g_pv_sRy, g_rx_sRy, g_nx_sLn, g_pv_sLn, g_rx_sLn, g_nx_sSd, g_pv_sSd, g_rx_sSd, g_nx_sAr, g_pv_sAr, g_rx_sAr, e1]) (by
      unfold jS rdM
      simp only [g_nx_sLv, g_pv_sLv, g_ry_sLv, g_nx_sOw, g_pv_sOw, g_ry_sOw, g_nx_sNx, g_pv_sNx, g_ry_sNx, g_nx_sPv, g_pv_sPv, g_ry_sPv, g_nx_sRx, g_pv_sRx, g_ry_sRx, g_nx_sRy, g_pv_sRy, g_ry_sRy, g_nx_sLn, g_pv_sLn, g_ry_sLn, g_nx_sSd, g_pv_sSd, g_ry_sSd, g_nx_sAr, g_pv_sAr, g_ry_sAr, e2]) e3
    rw [e3]
    exact q
theorem crL_rx (x y : Int32) : ∀ (k : Nat) (M : Ms) (h g : Hf), (∀ i, i < k → itn (nx M) i h ≠ g ∧ itn (nx M) i h ≠ tw g) → rx (crL x y k M h) g = rx M g ∧ ry (crL x y k M h) g = ry M g
  | 0, _, _, _, _ => ⟨rfl, rfl⟩
  | k + 1, M, h, g, hg => by
    have q := crL_rx x y k (rdM M h (rx M h + x) (ry M h + y)) (nx M h) g (fun i hi => hg (i + 1) (by omega))
    have n1 : g ≠ h := fun e => (hg 0 (by omega)).1 e.symm
    have n2 : g ≠ tw h := fun e => (hg 0 (by omega)).2 (by rw [e, tw_tw]; rfl)
    have e1 : rx (rdM M h (rx M h + x) (ry M h + y)) g = rx M g := by
      unfold rdM
      simp only [g_nx_sLv, g_pv_sLv, g_rx_sLv, g_nx_sOw, g_pv_sOw, g_rx_sOw, g_nx_sNx, g_pv_sNx, g_rx_sNx, g_nx_sPv, g_pv_sPv, g_rx_sPv, g_nx_sRx, g_pv_sRx, g_rx_sRx, g_nx_sRy, g_pv_sRy, g_rx_sRy, g_nx_sLn, g_pv_sLn, g_rx_sLn, g_nx_sSd, g_pv_sSd, g_rx_sSd, g_nx_sAr, g_pv_sAr, g_rx_sAr]
      rw [fu_n _ _ n2, fu_n _ _ n1]
    have e2 : ry (rdM M h (rx M h + x) (ry M h + y)) g = ry M g := by
      unfold rdM
      simp only [g_nx_sLv, g_pv_sLv, g_ry_sLv, g_nx_sOw, g_pv_sOw, g_ry_sOw, g_nx_sNx, g_pv_sNx, g_ry_sNx, g_nx_sPv, g_pv_sPv, g_ry_sPv, g_nx_sRx, g_pv_sRx, g_ry_sRx, g_nx_sRy, g_pv_sRy, g_ry_sRy, g_nx_sLn, g_pv_sLn, g_ry_sLn, g_nx_sSd, g_pv_sSd, g_ry_sSd, g_nx_sAr, g_pv_sAr, g_ry_sAr]
      rw [fu_n _ _ n2, fu_n _ _ n1]
    exact ⟨q.1.trans e1, q.2.trans e2⟩
section MBU
variable {sh : mm_Sh} {m : Nat} {M : Ms} {μ : mm_U} {s : Fo} {c : Ce} {Q : Option Value → mm_U → Prop}
/-- all that lies on a cycle is a cell's, and counted -/
theorem cr_loop (O : MoSh sh m) (c : Ce) (fr : Hf) (N : Nat) (hN : N < 2 ^ 31) (v1 : mm_U) : ∀ (d k : Nat) (M : Ms) (μ1 : mm_U) (h : Hf), k + d = N → (∀ i, LvH M (itn (nx M) i h)) → itn (nx M) (d + 1) h = fr → (∀ i, 0 < i → i < d + 1 → itn (nx M) i h ≠ fr) → MeR M (μ1 (m + 1)) → FrR v1 μ1 m → (∀ k, k < 592 ∨ 880 ≤ k → μ1 (m + 1) k = v1 (m + 1) k) → wp sh zX6_countRound 5 [.ref m, .int (nI fr.val), .int (nI c.val), .int (nI k), .int (nI h.val)] [] μ1 (fun r μ' => r = some (.int (nI (N + 1))) ∧ MeR (hoL c (d + 1) M h) (μ' (m + 1)) ∧ FrR v1 μ' m ∧ ∀ k, k < 592 ∨ 880 ≤ k → μ' (m + 1) k = v1 (m + 1) k) := by
  intro d
  induction d with
  | zero =>
    intro k M μ1 h hk hl e1 e2 A F G
    have A1 := A.wOw h c
    have lh : LvH M h := hl 0
    have E1 : ∀ Q', cl sh zX6_next [.ref m, .int (nI h.val)] (mu μ1 (m + 1) (upd (μ1 (m + 1)) (592 + h.val) (nI c.val))) Q' = Q' (some (.int (nI (nx M h).val))) (mu μ1 (m + 1) (upd (μ1 (m + 1)) (592 + h.val) (nI c.val))) := fun Q' => m_next (M := sOw M h c) (μ := mu μ1 (m + 1) (upd (μ1 (m + 1)) (592 + h.val) (nI c.val))) O (by rw [mu_s]; exact A1) h lh
    have e1' : nx M h = fr := e1
    rw [e1'] at E1
    have q : (nI fr.val = nI fr.val) = True := eq_true rfl
    have kN : k = N := by omega
    simp (disch := first | omega | assumption) only [mm_op_some, true_and, and_true, mm_rc_some, mm_rc_none, pk_mul, nI_add, mm_in_t, nI_clamp, ok0, ok1, ok2, ok3, ok4, n1_0, n0_0, nI_le_, nI_lt_, if_true, if_false, not_true, not_false_eq_true, ce_lt, ce_cl, hf_lt, hf_cl, wp_al0 (y := zX6_countRound) dX6_countRound_5, wp_getf (y := zX6_countRound) kF6_9 dX6_countRound_6, wp_sipush (y := zX6_countRound) (nI 592) ks_592 dX6_countRound_9, wp_il4 (y := zX6_countRound) dX6_countRound_12, wp_iadd (y := zX6_countRound) dX6_countRound_14, wp_il2 (y := zX6_countRound) dX6_countRound_15, wp_iast (y := zX6_countRound) dX6_countRound_16, wp_inc3 (y := zX6_countRound) (nI 1) ki_1 dX6_countRound_17, wp_al0 (y := zX6_countRound) dX6_countRound_20, wp_il4 (y := zX6_countRound) dX6_countRound_21, wp_cv1 (y := zX6_countRound) kM6_90 (by decide) dX6_countRound_23, (show yo zX6_next = 6 from rfl), wp_is4 (y := zX6_countRound) dX6_countRound_26, wp_il4 (y := zX6_countRound) dX6_countRound_28, wp_il1 (y := zX6_countRound) dX6_countRound_30, wp_icmp_ne (y := zX6_countRound) 5 (by decide) dX6_countRound_31, wp_il3 (y := zX6_countRound) dX6_countRound_34, wp_ireti (y := zX6_countRound) rfl dX6_countRound_35, O.oc, O.g0, O.g1, O.g2, O.g3, O.g4, O.g5, O.g6, O.g7, O.g9, O.g10, O.g11, O.p0, O.p7, O.a1, O.a2, O.a3, O.a4, O.a5, O.a6, O.a7, O.a8, O.a9, E1, q]
    refine ⟨by rw [kN], ?_, FrR_mu F _ _ (by omega) (by omega), fun j hj => by rw [mu_s, upd_n _ _ (by omega)]; exact G j hj⟩
    rw [mu_s]
    exact A1
  | succ d ih =>
    intro k M μ1 h hk hl e1 e2 A F G
    have A1 := A.wOw h c
    have lh : LvH M h := hl 0
    have E1 : ∀ Q', cl sh zX6_next [.ref m, .int (nI h.val)] (mu μ1 (m + 1) (upd (μ1 (m + 1)) (592 + h.val) (nI c.val))) Q' = Q' (some (.int (nI (nx M h).val))) (mu μ1 (m + 1) (upd (μ1 (m + 1)) (592 + h.val) (nI c.val))) := fun Q' => m_next (M := sOw M h c) (μ := mu μ1 (m + 1) (upd (μ1 (m + 1)) (592 + h.val) (nI c.val))) O (by rw [mu_s]; exact A1) h lh
    have q : (nI (nx M h).val = nI fr.val) = False := eq_false (by rw [hf_eq]; exact e2 1 (by omega) (by omega))
    rw [wp_al0 (y := zX6_countRound) dX6_countRound_5]
    simp (disch := first | omega | assumption) only [mm_op_some, true_and, and_true, mm_rc_some, mm_rc_none, pk_mul, nI_add, mm_in_t, nI_clamp, ok0, ok1, ok2, ok3, ok4, n1_0, n0_0, nI_le_, nI_lt_, if_true, if_false, not_true, not_false_eq_true, ce_lt, ce_cl, hf_lt, hf_cl, wp_getf (y := zX6_countRound) kF6_9 dX6_countRound_6, wp_sipush (y := zX6_countRound) (nI 592) ks_592 dX6_countRound_9, wp_il4 (y := zX6_countRound) dX6_countRound_12, wp_iadd (y := zX6_countRound) dX6_countRound_14, wp_il2 (y := zX6_countRound) dX6_countRound_15, wp_iast (y := zX6_countRound) dX6_countRound_16, wp_inc3 (y := zX6_countRound) (nI 1) ki_1 dX6_countRound_17, wp_al0 (y := zX6_countRound) dX6_countRound_20, wp_il4 (y := zX6_countRound) dX6_countRound_21, wp_cv1 (y := zX6_countRound) kM6_90 (by decide) dX6_countRound_23, (show yo zX6_next = 6 from rfl), wp_is4 (y := zX6_countRound) dX6_countRound_26, wp_il4 (y := zX6_countRound) dX6_countRound_28, wp_il1 (y := zX6_countRound) dX6_countRound_30, wp_icmp_ne (y := zX6_countRound) 5 (by decide) dX6_countRound_31, O.oc, O.g0, O.g1, O.g2, O.g3, O.g4, O.g5, O.g6, O.g7, O.g9, O.g10, O.g11, O.p0, O.p7, O.a1, O.a2, O.a3, O.a4, O.a5, O.a6, O.a7, O.a8, O.a9, E1, q]
    exact ih (k + 1) (sOw M h c) _ (nx M h) (by omega) (fun i => hl (i + 1)) e1 (fun i h1 h2 => e2 (i + 1) (by omega) (by omega)) (by rw [mu_s]; exact A1) (FrR_mu F _ _ (by omega) (by omega)) (fun j hj => by rw [mu_s, upd_n _ _ (by omega)]; exact G j hj)
theorem m_countRound (O : MoSh sh m) (A : MeR M (μ (m + 1))) (c : Ce) (h : Hf) (n : Nat) (hn : n + 1 < 2 ^ 31) (hl : ∀ i, LvH M (itn (nx M) i h)) (e1 : itn (nx M) (n + 1) h = h) (e2 : ∀ i, 0 < i → i < n + 1 → itn (nx M) i h ≠ h) : cl sh zX6_countRound [.ref m, .int (nI h.val), .int (nI c.val)] μ (fun r μ' => r = some (.int (nI (n + 1))) ∧ MeR (hoL c (n + 1) M h) (μ' (m + 1)) ∧ FrR μ μ' m ∧ ∀ k, k < 592 ∨ 880 ≤ k → μ' (m + 1) k = μ (m + 1) k) := by
  show wp sh zX6_countRound 0 [.ref m, .int (nI h.val), .int (nI c.val), .null, .null] [] μ _
  simp (disch := first | omega | assumption) only [wp_iconst (y := zX6_countRound) (nI 0) ki_0 dX6_countRound_0, wp_is3 (y := zX6_countRound) dX6_countRound_1, wp_il1 (y := zX6_countRound) dX6_countRound_2, wp_is4 (y := zX6_countRound) dX6_countRound_3]
  exact cr_loop O c h n (by omega) μ n 0 M μ h (by omega) hl e1 e2 A (FrR.refl _ _) (fun _ _ => rfl)
/-- two walls become one -/
def meM (M : Ms) (p q : Hf) : Ms := leM (leM (sLn (sLn M (wl (mst p q)) (imin (ln M (wl p) + ln M (wl q)) (nI 99))) (wl (mgo p q)) (-1)) (mgo p q)) (tw (mgo p q))
theorem m_melt (O : MoSh sh m) (A : MeR M (μ (m + 1))) (p q : Hf) (lp : LvH M p) (lq : LvH M q) (s1 : 0 < sd M (ow M (mgo p q))) (s2 : 0 < sd M (ow M (tw (mgo p q)))) (ne : ow M (tw (mgo p q)) ≠ ow M (mgo p q)) : cl sh zX6_melt [.ref m, .int (nI p.val), .int (nI q.val)] μ (fun r μ' => r = none ∧ MeR (meM M p q) (μ' (m + 1)) ∧ FrR μ μ' m) := by
  have k2 : ¬ nI 2 = 0 := by decide
  have wd : ∀ h : Hf, nI h.val / nI 2 = nI (wl h).val := wl_div
  have r1 := A.lnv (w := wl p) lp
  have r2 := A.lnv (w := wl q) lq
  have sx : LvH M (mst p q) := by unfold mst; split <;> assumption
  have gx : LvH M (mgo p q) := by unfold mgo; split <;> assumption
  have A1 := A.wLn (wl (mst p q)) (imin (ln M (wl p) + ln M (wl q)) (nI 99)) sx
  have A2 := A1.wLn (wl (mgo p q)) (-1) gx
  show wp sh zX6_melt 0 [.ref m, .int (nI p.val), .int (nI q.val), .null, .null, .null] [] μ _
  have pre : ∀ QQ, wp sh zX6_melt 0 [.ref m, .int (nI p.val), .int (nI q.val), .null, .null, .null] [] μ QQ = wp sh zX6_melt 23 [.ref m, .int (nI p.val), .int (nI q.val), .int (nI (mst p q).val), .int (nI (mgo p q).val), .null] [] μ QQ := by
    intro QQ
    unfold mst mgo
    by_cases h : p.val < q.val
    · have h' : (q.val ≤ p.val) = False := eq_false (by omega)
      rw [if_pos h, if_pos h]
      simp (disch := first | omega | assumption) only [mm_op_some, true_and, and_true, mm_rc_some, mm_rc_none, pk_mul, nI_add, mm_in_t, nI_clamp, ok0, ok1, ok2, ok3, ok4, n1_0, n0_0, nI_le_, nI_lt_, if_true, if_false, not_true, not_false_eq_true, ce_lt, ce_cl, hf_lt, hf_cl, wp_il1 (y := zX6_melt) dX6_melt_0, wp_il2 (y := zX6_melt) dX6_melt_1, wp_icmp_ge (y := zX6_melt) 9 (by decide) dX6_melt_2, wp_il1 (y := zX6_melt) dX6_melt_5, wp_goto (y := zX6_melt) 10 (by decide) dX6_melt_6, wp_il2 (y := zX6_melt) dX6_melt_9, wp_is3 (y := zX6_melt) dX6_melt_10, wp_il1 (y := zX6_melt) dX6_melt_11, wp_il2 (y := zX6_melt) dX6_melt_12, wp_icmp_ge (y := zX6_melt) 20 (by decide) dX6_melt_13, wp_il2 (y := zX6_melt) dX6_melt_16, wp_goto (y := zX6_melt) 21 (by decide) dX6_melt_17, wp_il1 (y := zX6_melt) dX6_melt_20, wp_is4 (y := zX6_melt) dX6_melt_21, h']
    · have h' : (q.val ≤ p.val) = True := eq_true (by omega)
      rw [if_neg h, if_neg h]
      simp (disch := first | omega | assumption) only [mm_op_some, true_and, and_true, mm_rc_some, mm_rc_none, pk_mul, nI_add, mm_in_t, nI_clamp, ok0, ok1, ok2, ok3, ok4, n1_0, n0_0, nI_le_, nI_lt_, if_true, if_false, not_true, not_false_eq_true, ce_lt, ce_cl, hf_lt, hf_cl, wp_il1 (y := zX6_melt) dX6_melt_0, wp_il2 (y := zX6_melt) dX6_melt_1, wp_icmp_ge (y := zX6_melt) 9 (by decide) dX6_melt_2, wp_il1 (y := zX6_melt) dX6_melt_5, wp_goto (y := zX6_melt) 10 (by decide) dX6_melt_6, wp_il2 (y := zX6_melt) dX6_melt_9, wp_is3 (y := zX6_melt) dX6_melt_10, wp_il1 (y := zX6_melt) dX6_melt_11, wp_il2 (y := zX6_melt) dX6_melt_12, wp_icmp_ge (y := zX6_melt) 20 (by decide) dX6_melt_13, wp_il2 (y := zX6_melt) dX6_melt_16, wp_goto (y := zX6_melt) 21 (by decide) dX6_melt_17, wp_il1 (y := zX6_melt) dX6_melt_20, wp_is4 (y := zX6_melt) dX6_melt_21, h']
  rw [pre]
  have mid : ∀ v5, wp sh zX6_melt 76 [.ref m, .int (nI p.val), .int (nI q.val), .int (nI (mst p q).val), .int (nI (mgo p q).val), v5] [] (mu μ (m + 1) (upd (μ (m + 1)) (1456 + (wl (mst p q)).val) (imin (ln M (wl p) + ln M (wl q)) (nI 99)))) (fun r μ' => r = none ∧ MeR (meM M p q) (μ' (m + 1)) ∧ FrR μ μ' m) := by
    intro v5
    simp (disch := first | omega | assumption) only [mm_op_some, true_and, and_true, mm_rc_some, mm_rc_none, pk_mul, nI_add, mm_in_t, nI_clamp, ok0, ok1, ok2, ok3, ok4, n1_0, n0_0, nI_le_, nI_lt_, if_true, if_false, not_true, not_false_eq_true, ce_lt, ce_cl, hf_lt, hf_cl, mu_s, wp_al0 (y := zX6_melt) dX6_melt_76, wp_getf (y := zX6_melt) kF6_9 dX6_melt_77, wp_sipush (y := zX6_melt) (nI 1456) ks_1456 dX6_melt_80, wp_il4 (y := zX6_melt) dX6_melt_83, wp_iconst (y := zX6_melt) (nI 2) ki_2 dX6_melt_85, wp_idiv' (y := zX6_melt) dX6_melt_86, wp_iadd (y := zX6_melt) dX6_melt_87, wp_iconst (y := zX6_melt) ((-1)) ki_m1 dX6_melt_88, wp_iast (y := zX6_melt) dX6_melt_89, wp_al0 (y := zX6_melt) dX6_melt_90, wp_il4 (y := zX6_melt) dX6_melt_91, wp_cv1 (y := zX6_melt) kM6_124 (by decide) dX6_melt_93, (show yo zX6_leave = 6 from rfl), O.oc, O.g0, O.g1, O.g2, O.g3, O.g4, O.g5, O.g6, O.g7, O.g9, O.g10, O.g11, O.p0, O.p7, O.a1, O.a2, O.a3, O.a4, O.a5, O.a6, O.a7, O.a8, O.a9, wd]
    refine cl_mono (m_leave (M := sLn (sLn M (wl (mst p q)) (imin (ln M (wl p) + ln M (wl q)) (nI 99))) (wl (mgo p q)) (-1)) O (by rw [mu_s]; exact A2) (mgo p q) gx s1) ?_
    rintro r μ1 ⟨rfl, A3, F3⟩
    simp (disch := first | omega | assumption) only [mm_op_some, true_and, and_true, mm_rc_some, mm_rc_none, pk_mul, nI_add, mm_in_t, nI_clamp, ok0, ok1, ok2, ok3, ok4, n1_0, n0_0, nI_le_, nI_lt_, if_true, if_false, not_true, not_false_eq_true, ce_lt, ce_cl, hf_lt, hf_cl, nI_xor, tw_xor, wp_al0 (y := zX6_melt) dX6_melt_96, wp_il4 (y := zX6_melt) dX6_melt_97, wp_iconst (y := zX6_melt) (nI 1) ki_1 dX6_melt_99, wp_ixor (y := zX6_melt) dX6_melt_100, wp_cv1 (y := zX6_melt) kM6_124 (by decide) dX6_melt_101, (show yo zX6_leave = 6 from rfl), O.oc, O.g0, O.g1, O.g2, O.g3, O.g4, O.g5, O.g6, O.g7, O.g9, O.g10, O.g11, O.p0, O.p7, O.a1, O.a2, O.a3, O.a4, O.a5, O.a6, O.a7, O.a8, O.a9]
    refine cl_mono (m_leave O A3 (tw (mgo p q)) (LvH_tw.mpr gx) (by
      show 0 < fu (sd M) (ow M (mgo p q)) (sd M (ow M (mgo p q)) - 1) (ow M (tw (mgo p q)))
      rw [fu_n _ _ ne]
      exact s2)) ?_
    rintro r μ2 ⟨rfl, A4, F4⟩
    simp (disch := first | omega | assumption) only [mm_op_some, true_and, and_true, mm_rc_some, mm_rc_none, pk_mul, nI_add, mm_in_t, nI_clamp, ok0, ok1, ok2, ok3, ok4, n1_0, n0_0, nI_le_, nI_lt_, if_true, if_false, not_true, not_false_eq_true, ce_lt, ce_cl, hf_lt, hf_cl, wp_vret (y := zX6_melt) rfl dX6_melt_104]
    refine ⟨A4, ?_⟩
    have q1 := FrR_mu (FrR_mu (FrR.refl μ m) (1456 + (wl (mst p q)).val) (imin (ln M (wl p) + ln M (wl q)) (nI 99)) (by omega) (by omega)) (1456 + (wl (mgo p q)).val) (-1) (by omega) (by omega)
    rw [mu_s] at q1
    exact (q1.trans F3).trans F4
  by_cases h : nI 99 < ln M (wl p) + ln M (wl q)
  · have h' : (ln M (wl p) + ln M (wl q) ≤ nI 99) = False := i_nle h
    have e : imin (ln M (wl p) + ln M (wl q)) (nI 99) = nI 99 := if_pos h
    rw [e] at mid
    simp (disch := first | omega | assumption) only [mm_op_some, true_and, and_true, mm_rc_some, mm_rc_none, pk_mul, nI_add, mm_in_t, nI_clamp, ok0, ok1, ok2, ok3, ok4, n1_0, n0_0, nI_le_, nI_lt_, if_true, if_false, not_true, not_false_eq_true, ce_lt, ce_cl, hf_lt, hf_cl, wp_al0 (y := zX6_melt) dX6_melt_23, wp_getf (y := zX6_melt) kF6_9 dX6_melt_24, wp_sipush (y := zX6_melt) (nI 1456) ks_1456 dX6_melt_27, wp_il1 (y := zX6_melt) dX6_melt_30, wp_iconst (y := zX6_melt) (nI 2) ki_2 dX6_melt_31, wp_idiv' (y := zX6_melt) dX6_melt_32, wp_iadd (y := zX6_melt) dX6_melt_33, wp_iald (y := zX6_melt) dX6_melt_34, wp_al0 (y := zX6_melt) dX6_melt_35, wp_getf (y := zX6_melt) kF6_9 dX6_melt_36, wp_sipush (y := zX6_melt) (nI 1456) ks_1456 dX6_melt_39, wp_il2 (y := zX6_melt) dX6_melt_42, wp_iconst (y := zX6_melt) (nI 2) ki_2 dX6_melt_43, wp_idiv' (y := zX6_melt) dX6_melt_44, wp_iadd (y := zX6_melt) dX6_melt_45, wp_iald (y := zX6_melt) dX6_melt_46, wp_iadd (y := zX6_melt) dX6_melt_47, wp_is5 (y := zX6_melt) dX6_melt_48, wp_al0 (y := zX6_melt) dX6_melt_50, wp_getf (y := zX6_melt) kF6_9 dX6_melt_51, wp_sipush (y := zX6_melt) (nI 1456) ks_1456 dX6_melt_54, wp_il3 (y := zX6_melt) dX6_melt_57, wp_iconst (y := zX6_melt) (nI 2) ki_2 dX6_melt_58, wp_idiv' (y := zX6_melt) dX6_melt_59, wp_iadd (y := zX6_melt) dX6_melt_60, wp_il5 (y := zX6_melt) dX6_melt_61, wp_bipush (y := zX6_melt) (nI 99) kb_99 dX6_melt_63, wp_icmp_le (y := zX6_melt) 73 (by decide) dX6_melt_65, wp_bipush (y := zX6_melt) (nI 99) kb_99 dX6_melt_68, wp_goto (y := zX6_melt) 75 (by decide) dX6_melt_70, wp_iast (y := zX6_melt) dX6_melt_75, O.oc, O.g0, O.g1, O.g2, O.g3, O.g4, O.g5, O.g6, O.g7, O.g9, O.g10, O.g11, O.p0, O.p7, O.a1, O.a2, O.a3, O.a4, O.a5, O.a6, O.a7, O.a8, O.a9, wd, r1, r2, h']
    exact mid _
  · have h' : (ln M (wl p) + ln M (wl q) ≤ nI 99) = True := i_le h
    have e : imin (ln M (wl p) + ln M (wl q)) (nI 99) = ln M (wl p) + ln M (wl q) := if_neg h
    rw [e] at mid
    simp (disch := first | omega | assumption) only [mm_op_some, true_and, and_true, mm_rc_some, mm_rc_none, pk_mul, nI_add, mm_in_t, nI_clamp, ok0, ok1, ok2, ok3, ok4, n1_0, n0_0, nI_le_, nI_lt_, if_true, if_false, not_true, not_false_eq_true, ce_lt, ce_cl, hf_lt, hf_cl, wp_al0 (y := zX6_melt) dX6_melt_23, wp_getf (y := zX6_melt) kF6_9 dX6_melt_24, wp_sipush (y := zX6_melt) (nI 1456) ks_1456 dX6_melt_27, wp_il1 (y := zX6_melt) dX6_melt_30, wp_iconst (y := zX6_melt) (nI 2) ki_2 dX6_melt_31, wp_idiv' (y := zX6_melt) dX6_melt_32, wp_iadd (y := zX6_melt) dX6_melt_33, wp_iald (y := zX6_melt) dX6_melt_34, wp_al0 (y := zX6_melt) dX6_melt_35, wp_getf (y := zX6_melt) kF6_9 dX6_melt_36, wp_sipush (y := zX6_melt) (nI 1456) ks_1456 dX6_melt_39, wp_il2 (y := zX6_melt) dX6_melt_42, wp_iconst (y := zX6_melt) (nI 2) ki_2 dX6_melt_43, wp_idiv' (y := zX6_melt) dX6_melt_44, wp_iadd (y := zX6_melt) dX6_melt_45, wp_iald (y := zX6_melt) dX6_melt_46, wp_iadd (y := zX6_melt) dX6_melt_47, wp_is5 (y := zX6_melt) dX6_melt_48, wp_al0 (y := zX6_melt) dX6_melt_50, wp_getf (y := zX6_melt) kF6_9 dX6_melt_51, wp_sipush (y := zX6_melt) (nI 1456) ks_1456 dX6_melt_54, wp_il3 (y := zX6_melt) dX6_melt_57, wp_iconst (y := zX6_melt) (nI 2) ki_2 dX6_melt_58, wp_idiv' (y := zX6_melt) dX6_melt_59, wp_iadd (y := zX6_melt) dX6_melt_60, wp_il5 (y := zX6_melt) dX6_melt_61, wp_bipush (y := zX6_melt) (nI 99) kb_99 dX6_melt_63, wp_icmp_le (y := zX6_melt) 73 (by decide) dX6_melt_65, wp_il5 (y := zX6_melt) dX6_melt_73, wp_iast (y := zX6_melt) dX6_melt_75, O.oc, O.g0, O.g1, O.g2, O.g3, O.g4, O.g5, O.g6, O.g7, O.g9, O.g10, O.g11, O.p0, O.p7, O.a1, O.a2, O.a3, O.a4, O.a5, O.a6, O.a7, O.a8, O.a9, wd, r1, r2, h']
    exact mid _
/-- the mesh then, without the wall that goes -/
theorem me_mk {r : Nat → Int32} {X : Hf → Prop} {p q : Hf} (K : KI M X) (lp : LvH M p) (lq : LvH M q) (pn : pv M (mgo p q) ≠ mgo p q) (ptn : pv M (tw (mgo p q)) ≠ tw (mgo p q)) (A : MeR (meM M p q) r) : MeR (mkM M p q) r := by
  have gx : LvH M (mgo p q) := by unfold mgo; split <;> assumption
  have tg : LvH M (tw (mgo p q)) := LvH_tw.mpr gx
  have ne := K.2.2.1 _ gx
  have k1 := K.1
  have n1 : tw (mgo p q) ≠ nx M (mgo p q) := fun e => ne (by rw [e]; exact k1.on gx)
  have n2 : tw (mgo p q) ≠ pv M (mgo p q) := fun e => ne (by rw [e]; exact k1.op gx)
  obtain ⟨F1, F2, F3, F4, F5, F6⟩ := goM_f (sLn M (wl (mst p q)) (imin (ln M (wl p) + ln M (wl q)) (nI 99))) (mgo p q) pn n1 n2 ptn ne
  have wne : wl (mst p q) ≠ wl (mgo p q) → True := fun _ => trivial
  refine (A.kill (wl (mgo p q)) (fun _ => ?_)).to (fun h lh => ?_) (fun v => ?_) ?_ (fun d _ => ?_)
  · unfold meM leM lkM
    simp only [g_ln_sLv, g_ln_sOw, g_ln_sNx, g_ln_sPv, g_ln_sRx, g_ln_sRy, g_ln_sLn, g_ln_sSd, g_ln_sAr]
    rw [fu_s]
  · have lh : lv (mkM M p q) (wl h) = true := lh
    rw [show lv (mkM M p q) = fu (lv M) (wl (mgo p q)) false from F1] at lh
    have z : wl h ≠ wl (mgo p q) := fun e => by rw [e, fu_s] at lh; cases lh
    refine ⟨?_, ?_, ?_, ?_, ?_, ?_⟩
    · show fu (lv (meM M p q)) (wl (mgo p q)) false (wl h) = true
      rw [fu_n _ _ z]
      rw [fu_n _ _ z] at lh
      unfold meM leM lkM
      simp only [g_lv_sLv, g_lv_sOw, g_lv_sNx, g_lv_sPv, g_lv_sRx, g_lv_sRy, g_lv_sLn, g_lv_sSd, g_lv_sAr]
      exact lh
    · show nx (mkM M p q) h = nx (meM M p q) h
      rw [show nx (mkM M p q) = _ from F3]
      unfold meM leM lkM
      simp only [g_ow_sLv, g_nx_sLv, g_pv_sLv, g_ow_sOw, g_nx_sOw, g_pv_sOw, g_ow_sNx, g_nx_sNx, g_pv_sNx, g_ow_sPv, g_nx_sPv, g_pv_sPv, g_ow_sRx, g_nx_sRx, g_pv_sRx, g_ow_sRy, g_nx_sRy, g_pv_sRy, g_ow_sLn, g_nx_sLn, g_pv_sLn, g_ow_sSd, g_nx_sSd, g_pv_sSd, g_ow_sAr, g_nx_sAr, g_pv_sAr]
      rw [fu_n (nx M) _ n2, fu_n (pv M) _ n1]
    · show pv (mkM M p q) h = pv (meM M p q) h
      rw [show pv (mkM M p q) = _ from F4]
      unfold meM leM lkM
      simp only [g_ow_sLv, g_nx_sLv, g_pv_sLv, g_ow_sOw, g_nx_sOw, g_pv_sOw, g_ow_sNx, g_nx_sNx, g_pv_sNx, g_ow_sPv, g_nx_sPv, g_pv_sPv, g_ow_sRx, g_nx_sRx, g_pv_sRx, g_ow_sRy, g_nx_sRy, g_pv_sRy, g_ow_sLn, g_nx_sLn, g_pv_sLn, g_ow_sSd, g_nx_sSd, g_pv_sSd, g_ow_sAr, g_nx_sAr, g_pv_sAr]
      rw [fu_n (nx M) _ n2, fu_n (pv M) _ n1]
    · show ow (mkM M p q) h = ow (meM M p q) h
      rw [show ow (mkM M p q) = _ from F2]
      unfold meM leM lkM
      simp only [g_ow_sLv, g_ow_sOw, g_ow_sNx, g_ow_sPv, g_ow_sRx, g_ow_sRy, g_ow_sLn, g_ow_sSd, g_ow_sAr]
    · show rx (mkM M p q) h = rx (meM M p q) h
      unfold mkM goM unM meM leM lkM
      simp only [g_nx_sLv, g_pv_sLv, g_rx_sLv, g_nx_sOw, g_pv_sOw, g_rx_sOw, g_nx_sNx, g_pv_sNx, g_rx_sNx, g_nx_sPv, g_pv_sPv, g_rx_sPv, g_nx_sRx, g_pv_sRx, g_rx_sRx, g_nx_sRy, g_pv_sRy, g_rx_sRy, g_nx_sLn, g_pv_sLn, g_rx_sLn, g_nx_sSd, g_pv_sSd, g_rx_sSd, g_nx_sAr, g_pv_sAr, g_rx_sAr]
    · show ry (mkM M p q) h = ry (meM M p q) h
      unfold mkM goM unM meM leM lkM
      simp only [g_nx_sLv, g_pv_sLv, g_ry_sLv, g_nx_sOw, g_pv_sOw, g_ry_sOw, g_nx_sNx, g_pv_sNx, g_ry_sNx, g_nx_sPv, g_pv_sPv, g_ry_sPv, g_nx_sRx, g_pv_sRx, g_ry_sRx, g_nx_sRy, g_pv_sRy, g_ry_sRy, g_nx_sLn, g_pv_sLn, g_ry_sLn, g_nx_sSd, g_pv_sSd, g_ry_sSd, g_nx_sAr, g_pv_sAr, g_ry_sAr]
  · show (if lv (mkM M p q) v = true then ln (mkM M p q) v else -1) = if fu (lv (meM M p q)) (wl (mgo p q)) false v = true then ln (meM M p q) v else -1
    rw [show lv (mkM M p q) = fu (lv M) (wl (mgo p q)) false from F1, show ln (mkM M p q) = _ from F6]
    have e1 : lv (meM M p q) = lv M := by
      unfold meM leM lkM
      simp only [g_lv_sLv, g_lv_sOw, g_lv_sNx, g_lv_sPv, g_lv_sRx, g_lv_sRy, g_lv_sLn, g_lv_sSd, g_lv_sAr]
    have e2 : ln (meM M p q) = fu (fu (ln M) (wl (mst p q)) (imin (ln M (wl p) + ln M (wl q)) (nI 99))) (wl (mgo p q)) (-1) := by
      unfold meM leM lkM
      simp only [g_ln_sLv, g_ln_sOw, g_ln_sNx, g_ln_sPv, g_ln_sRx, g_ln_sRy, g_ln_sLn, g_ln_sSd, g_ln_sAr]
    rw [e1, e2]
    by_cases z : v = wl (mgo p q)
    · rw [z, fu_s, if_neg (by decide), if_neg (by decide)]
    · rw [fu_n _ _ z, fu_n _ _ z]
      simp only [g_ln_sLv, g_ln_sOw, g_ln_sNx, g_ln_sPv, g_ln_sRx, g_ln_sRy, g_ln_sLn, g_ln_sSd, g_ln_sAr]
  · show sd (mkM M p q) = sd (meM M p q)
    rw [show sd (mkM M p q) = _ from F5]
    unfold meM leM lkM
    simp only [g_ow_sLv, g_nx_sLv, g_pv_sLv, g_sd_sLv, g_ow_sOw, g_nx_sOw, g_pv_sOw, g_sd_sOw, g_ow_sNx, g_nx_sNx, g_pv_sNx, g_sd_sNx, g_ow_sPv, g_nx_sPv, g_pv_sPv, g_sd_sPv, g_ow_sRx, g_nx_sRx, g_pv_sRx, g_sd_sRx, g_ow_sRy, g_nx_sRy, g_pv_sRy, g_sd_sRy, g_ow_sLn, g_nx_sLn, g_pv_sLn, g_sd_sLn, g_ow_sSd, g_nx_sSd, g_pv_sSd, g_sd_sSd, g_ow_sAr, g_nx_sAr, g_pv_sAr, g_sd_sAr]
    rw [fu_n (sd M) _ ne]
  · show ar (mkM M p q) d = ar (meM M p q) d
    unfold mkM goM unM meM leM lkM
    simp only [g_ar_sLv, g_ar_sOw, g_ar_sNx, g_ar_sPv, g_ar_sRx, g_ar_sRy, g_ar_sLn, g_ar_sSd, g_ar_sAr]
end MBU
