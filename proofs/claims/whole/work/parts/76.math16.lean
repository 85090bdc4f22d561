theorem cWt (f : Wa → Bool) (w : Wa) (hw : f w = false) : sm 144 (fun i => b1 (fu f w true (wI i))) = sm 144 (fun i => b1 (f (wI i))) + 1 := by
  refine sm_rm _ _ w.val w.isLt (fun j hj hne => ?_) ?_ ?_
  · show b1 (fu f w true (wI j)) = b1 (f (wI j))
    rw [fu_n _ _ (fun e => hne (by rw [← e, wI_lt hj]))]
  · show b1 (fu f w true (wI w.val)) = 1
    rw [wI_val, fu_s]
    rfl
  · show b1 (f (wI w.val)) = 0
    rw [wI_val, hw]
    rfl
theorem Cy.insO {L : Hf → Prop} {n p : Hf → Hf} {o : Hf → Ce} (C : Cy L n p o) {a t u : Hf} (ha : ¬ L a) (ht : L t) (hu : n t = u) (ho : o a = o t) : Cy (fun h => L h ∨ h = a) (fu (fu n t a) a u) (fu (fu p a t) u a) o := by
  have C1 := C.ins ha ht
  rw [hu] at C1
  refine C1.cg (fun _ => Iff.rfl) (fun _ _ => rfl) (fun _ _ => rfl) (fun g _ => ?_)
  by_cases z : g = a
  · rw [z, fu_s, ho]
  · rw [fu_n _ _ z]
section CUT
variable {M : Ms}
theorem Inv.cut (J : Inv M) {a b : Hf} {c fr : Ce} {j1 j2 j3 : Wa} {n : Nat} (la : LvH M a) (lb : LvH M b) (oa : ow M a = c) (ob : ow M b = c) (hn : n + 2 ≤ sd M c) (eb : itn (nx M) n (nx M a) = b) (hne : ∀ k, k < n → itn (nx M) k (nx M a) ≠ b) (hna : ∀ k, k ≤ n → itn (nx M) k (nx M a) ≠ a) (sf : sd M fr = 0) (d1 : lv M j1 = false) (d2 : lv M j2 = false) (d3 : lv M j3 = false) (j12 : j1 ≠ j2) (j13 : j1 ≠ j3) (j23 : j2 ≠ j3) : Inv (spM M a b c fr j1 j2 j3 n) := by
  have lta : LvH M (tw a) := LvH_tw.mpr la
  have ltb : LvH M (tw b) := LvH_tw.mpr lb
  have lt : LvH M (pv M (tw a)) := J.pl lta
  have lu : LvH M (nx M (tw b)) := J.nl ltb
  have lna : LvH M (nx M a) := J.nl la
  have lpb : LvH M (pv M b) := J.pl lb
  have ona : ow M (nx M a) = c := (J.on la).trans oa
  have opb : ow M (pv M b) = c := (J.op lb).trans ob
  have gX : ow M (tw a) ≠ c := fun e => J.2.2.1 a la (e.trans oa.symm)
  have gY : ow M (tw b) ≠ c := fun e => J.2.2.1 b lb (e.trans ob.symm)
  have ot : ow M (pv M (tw a)) = ow M (tw a) := J.op lta
  have ou : ow M (nx M (tw b)) = ow M (tw b) := J.on ltb
  have frn : ∀ g, LvH M g → ow M g ≠ fr := fun g lg e => by
    have := J.pos lg
    rw [e, sf] at this
    omega
  have cfr : c ≠ fr := fun e => frn a la (oa.trans e)
  have inj : ∀ u v, LvH M u → LvH M v → ph M u = ph M v → u = v := fun u v lu lv_ e => J.1.inj lu lv_ (tw_inj e)
  -- old halves apart
  have p_t : ph M (pv M (tw a)) = a := by unfold ph; rw [J.np lta, tw_tw]
  have p_pb : ph M (pv M b) = tw b := by unfold ph; rw [J.np lb]
  have p_a : ph M a = tw (nx M a) := rfl
  have otna : ow M (tw (nx M a)) ≠ c := fun e => J.2.2.1 _ lna (e.trans ona.symm)
  have lpa : LvH M (ph M a) := LvH_tw.mpr lna
  have ppa : ph M (ph M a) = pv M (tw a) := inj _ _ (LvH_tw.mpr (J.nl lpa)) lt ((J.2.2.2.1 a la).trans p_t.symm)
  have q_t_tb : pv M (tw a) ≠ tw b := fun e => by
    have h1 : ph M a = pv M b := inj _ _ lpa lpb (ppa.trans (e.trans p_pb.symm))
    exact otna (by rw [← p_a, h1]; exact opb)
  have q_t_a : pv M (tw a) ≠ a := fun e => gX (by rw [← ot, e]; exact oa)
  have q_t_pb : pv M (tw a) ≠ pv M b := fun e => gX (by rw [← ot, e]; exact opb)
  have q_tb_a : tw b ≠ a := fun e => gY (by rw [e]; exact oa)
  have q_tb_pb : tw b ≠ pv M b := fun e => gY (by rw [e]; exact opb)
  have q_ta_u : tw a ≠ nx M (tw b) := fun e => q_t_tb (by rw [e, J.pn ltb])
  have q_ta_na : tw a ≠ nx M a := fun e => gX (by rw [e]; exact ona)
  have q_ta_b : tw a ≠ b := fun e => gX (by rw [e]; exact ob)
  have q_u_na : nx M (tw b) ≠ nx M a := fun e => gY (by rw [← ou, e]; exact ona)
  have q_u_b : nx M (tw b) ≠ b := fun e => gY (by rw [← ou, e]; exact ob)
  -- new ones
  have f_A0 : ∀ g, LvH M g → g ≠ h0 j1 := fun g lg e => by rw [e] at lg; have := LvH_h0.mp lg; rw [d1] at this; cases this
  have f_A1 : ∀ g, LvH M g → g ≠ h1 j1 := fun g lg e => by rw [e] at lg; have := LvH_h1.mp lg; rw [d1] at this; cases this
  have f_B2 : ∀ g, LvH M g → g ≠ h0 j2 := fun g lg e => by rw [e] at lg; have := LvH_h0.mp lg; rw [d2] at this; cases this
  have f_A2 : ∀ g, LvH M g → g ≠ h1 j2 := fun g lg e => by rw [e] at lg; have := LvH_h1.mp lg; rw [d2] at this; cases this
  have f_B3 : ∀ g, LvH M g → g ≠ h0 j3 := fun g lg e => by rw [e] at lg; have := LvH_h0.mp lg; rw [d3] at this; cases this
  have f_C3 : ∀ g, LvH M g → g ≠ h1 j3 := fun g lg e => by rw [e] at lg; have := LvH_h1.mp lg; rw [d3] at this; cases this
  have w_A0_B2 : h0 j1 ≠ h0 j2 := (fun e => j12 (by rw [← wl_h0 j1, e, wl_h0 j2]))
  have w_A1_A0 : h1 j1 ≠ h0 j1 := (by intro e; have := congrArg Fin.val e; rw [h0_val, h1_val] at this; omega)
  have w_A1_A2 : h1 j1 ≠ h1 j2 := (fun e => j12 (by rw [← wl_h1 j1, e, wl_h1 j2]))
  have w_A1_B2 : h1 j1 ≠ h0 j2 := (fun e => j12 (by rw [← wl_h1 j1, e, wl_h0 j2]))
  have w_A1_B3 : h1 j1 ≠ h0 j3 := (fun e => j13 (by rw [← wl_h1 j1, e, wl_h0 j3]))
  have w_A1_C3 : h1 j1 ≠ h1 j3 := (fun e => j13 (by rw [← wl_h1 j1, e, wl_h1 j3]))
  have w_A2_A0 : h1 j2 ≠ h0 j1 := (fun e => j12.symm (by rw [← wl_h1 j2, e, wl_h0 j1]))
  have w_A2_B2 : h1 j2 ≠ h0 j2 := (by intro e; have := congrArg Fin.val e; rw [h0_val, h1_val] at this; omega)
  have w_A2_B3 : h1 j2 ≠ h0 j3 := (fun e => j23 (by rw [← wl_h1 j2, e, wl_h0 j3]))
  have w_A2_C3 : h1 j2 ≠ h1 j3 := (fun e => j23 (by rw [← wl_h1 j2, e, wl_h1 j3]))
  have w_B3_A0 : h0 j3 ≠ h0 j1 := (fun e => j13.symm (by rw [← wl_h0 j3, e, wl_h0 j1]))
  have w_B3_B2 : h0 j3 ≠ h0 j2 := (fun e => j23.symm (by rw [← wl_h0 j3, e, wl_h0 j2]))
  have w_B3_C3 : h0 j3 ≠ h1 j3 := (by intro e; have := congrArg Fin.val e; rw [h0_val, h1_val] at this; omega)
  have w_C3_A0 : h1 j3 ≠ h0 j1 := (fun e => j13.symm (by rw [← wl_h1 j3, e, wl_h0 j1]))
  have w_C3_B2 : h1 j3 ≠ h0 j2 := (fun e => j23.symm (by rw [← wl_h1 j3, e, wl_h0 j2]))
  have eU : fu (fu (nx M) (pv M (tw a)) (h1 j1)) (h1 j1) (tw a) (tw b) = nx M (tw b) := by rw [fu_n _ _ (f_A1 _ ltb), fu_n _ _ q_t_tb.symm]
  have eA1 : tw (h0 j1) = h1 j1 := tw_h0 j1
  have eA0 : tw (h1 j1) = h0 j1 := tw_h1 j1
  have eA2 : tw (h0 j2) = h1 j2 := tw_h0 j2
  have eB2 : tw (h1 j2) = h0 j2 := tw_h1 j2
  have eC3 : tw (h0 j3) = h1 j3 := tw_h0 j3
  have eB3 : tw (h1 j3) = h0 j3 := tw_h1 j3
  have Flv := spM_lv M a b c fr j1 j2 j3 n
  have Fow := spM_ow M a b c fr j1 j2 j3 n
  have Fsd := spM_sd M a b c fr j1 j2 j3 n
  have Fln := spM_ln M a b c fr j1 j2 j3 n
  have hw0 : ∀ j : Wa, ∀ g, wl g = j ↔ g = h0 j ∨ g = h1 j := fun j g => ⟨fun e => wl2 g j e, fun e => by rcases e with e | e <;> rw [e]; exact wl_h0 j; exact wl_h1 j⟩
  have L : ∀ g, LvH (spM M a b c fr j1 j2 j3 n) g ↔ LvH M g ∨ (g = h0 j1 ∨ g = h1 j1) ∨ (g = h0 j2 ∨ g = h1 j2) ∨ (g = h0 j3 ∨ g = h1 j3) := by
    intro g
    rw [← hw0, ← hw0, ← hw0]
    unfold LvH
    rw [Flv]
    by_cases z3 : wl g = j3
    · rw [z3, fu_s]
      exact ⟨fun _ => Or.inr (Or.inr (Or.inr rfl)), fun _ => rfl⟩
    · rw [fu_n _ _ z3]
      by_cases z2 : wl g = j2
      · rw [z2, fu_s]
        exact ⟨fun _ => Or.inr (Or.inr (Or.inl rfl)), fun _ => rfl⟩
      · rw [fu_n _ _ z2]
        by_cases z1 : wl g = j1
        · rw [z1, fu_s]
          exact ⟨fun _ => Or.inr (Or.inl rfl), fun _ => rfl⟩
        · rw [fu_n _ _ z1]
          constructor
          · exact Or.inl
          · rintro (h | h | h | h)
            · exact h
            · exact absurd h z1
            · exact absurd h z2
            · exact absurd h z3
  -- who owns what
  have hoo := fun g => hoL_own fr n M (nx M a) g
  have oAo : ∀ g, (∀ i, i < n → itn (nx M) i (nx M a) ≠ g) → ow (hoL fr n M (nx M a)) g = ow M g := fun g => (hoo g).2
  have oAa : ∀ i, i < n → ow (hoL fr n M (nx M a)) (itn (nx M) i (nx M a)) = fr := fun i hi => (hoo _).1 ⟨i, hi, rfl⟩
  have arcL : ∀ i, LvH M (itn (nx M) i (nx M a)) ∧ ow M (itn (nx M) i (nx M a)) = c := fun i => by
    have := J.1.lit i _ lna
    exact ⟨this.1, this.2.trans ona⟩
  have oAn : ∀ g, LvH M g → ow M g ≠ c → ow (hoL fr n M (nx M a)) g = ow M g := fun g lg h => oAo g (fun i _ e => h (by rw [← e]; exact (arcL i).2))
  have oAta : ow (hoL fr n M (nx M a)) (tw a) = ow M (tw a) := oAn _ lta gX
  have oAtb : ow (hoL fr n M (nx M a)) (tw b) = ow M (tw b) := oAn _ ltb gY
  have o2tb : fu (fu (ow (hoL fr n M (nx M a))) (h0 j1) fr) (h1 j1) (ow (hoL fr n M (nx M a)) (tw a)) (tw b) = ow M (tw b) := by rw [fu_n _ _ (f_A1 _ ltb), fu_n _ _ (f_A0 _ ltb), oAtb]
  rw [o2tb, oAta] at Fow
  have OA0 : ow (spM M a b c fr j1 j2 j3 n) (h0 j1) = fr := by rw [Fow, fu_n _ _ w_C3_A0.symm, fu_n _ _ w_B3_A0.symm, fu_n _ _ w_A2_A0.symm, fu_n _ _ w_A0_B2, fu_n _ _ w_A1_A0.symm, fu_s]
  have OA1 : ow (spM M a b c fr j1 j2 j3 n) (h1 j1) = ow M (tw a) := by rw [Fow, fu_n _ _ w_A1_C3, fu_n _ _ w_A1_B3, fu_n _ _ w_A1_A2, fu_n _ _ w_A1_B2, fu_s]
  have OB2 : ow (spM M a b c fr j1 j2 j3 n) (h0 j2) = fr := by rw [Fow, fu_n _ _ w_C3_B2.symm, fu_n _ _ w_B3_B2.symm, fu_n _ _ w_A2_B2.symm, fu_s]
  have OA2 : ow (spM M a b c fr j1 j2 j3 n) (h1 j2) = ow M (tw b) := by rw [Fow, fu_n _ _ w_A2_C3, fu_n _ _ w_A2_B3, fu_s]
  have OB3 : ow (spM M a b c fr j1 j2 j3 n) (h0 j3) = c := by rw [Fow, fu_n _ _ w_B3_C3, fu_s]
  have OC3 : ow (spM M a b c fr j1 j2 j3 n) (h1 j3) = fr := by rw [Fow, fu_s]
  have Oo : ∀ g, LvH M g → ow (spM M a b c fr j1 j2 j3 n) g = ow (hoL fr n M (nx M a)) g := fun g lg => by rw [Fow, fu_n _ _ (f_C3 g lg), fu_n _ _ (f_B3 g lg), fu_n _ _ (f_A2 g lg), fu_n _ _ (f_B2 g lg), fu_n _ _ (f_A1 g lg), fu_n _ _ (f_A0 g lg)]
  have hb_a : itn (nx M) n (nx M a) ≠ a := hna n (Nat.le_refl _)
  have ab : a ≠ b := fun e => hb_a (by rw [eb, e])
  obtain ⟨oF, oFo, oFA0, oFA1, oFB2, oFA2, oFB3, oFC3⟩ : ∃ oF : Hf → Ce, (∀ g, LvH M g → oF g = ow M g) ∧ oF (h0 j1) = c ∧ oF (h1 j1) = ow M (tw a) ∧ oF (h0 j2) = c ∧ oF (h1 j2) = ow M (tw b) ∧ oF (h0 j3) = c ∧ oF (h1 j3) = c := by
    refine ⟨fu (fu (fu (fu (fu (fu (ow M) (h0 j1) c) (h1 j1) (ow M (tw a))) (h0 j2) c) (h1 j2) (ow M (tw b))) (h0 j3) c) (h1 j3) c, fun g lg => ?_, ?_, ?_, ?_, ?_, ?_, ?_⟩
    · rw [fu_n _ _ (f_C3 g lg), fu_n _ _ (f_B3 g lg), fu_n _ _ (f_A2 g lg), fu_n _ _ (f_B2 g lg), fu_n _ _ (f_A1 g lg), fu_n _ _ (f_A0 g lg)]
    · rw [fu_n _ _ w_C3_A0.symm, fu_n _ _ w_B3_A0.symm, fu_n _ _ w_A2_A0.symm, fu_n _ _ w_A0_B2, fu_n _ _ w_A1_A0.symm, fu_s]
    · rw [fu_n _ _ w_A1_C3, fu_n _ _ w_A1_B3, fu_n _ _ w_A1_A2, fu_n _ _ w_A1_B2, fu_s]
    · rw [fu_n _ _ w_C3_B2.symm, fu_n _ _ w_B3_B2.symm, fu_n _ _ w_A2_B2.symm, fu_s]
    · rw [fu_n _ _ w_A2_C3, fu_n _ _ w_A2_B3, fu_s]
    · rw [fu_n _ _ w_B3_C3, fu_s]
    · rw [fu_s]
  have L6' : ∀ g, LvH (spM M a b c fr j1 j2 j3 n) g ↔ (((((LvH M g ∨ g = h1 j1) ∨ g = h1 j2) ∨ g = h0 j3) ∨ g = h1 j3) ∨ g = h0 j1) ∨ g = h0 j2 := by
    intro g
    rw [L]
    constructor
    · rintro (h | (h | h) | (h | h) | (h | h))
      · exact Or.inl (Or.inl (Or.inl (Or.inl (Or.inl (Or.inl h)))))
      · exact Or.inl (Or.inr h)
      · exact Or.inl (Or.inl (Or.inl (Or.inl (Or.inl (Or.inr h)))))
      · exact Or.inr h
      · exact Or.inl (Or.inl (Or.inl (Or.inl (Or.inr h))))
      · exact Or.inl (Or.inl (Or.inl (Or.inr h)))
      · exact Or.inl (Or.inl (Or.inr h))
    · rintro ((((((h | h) | h) | h) | h) | h) | h)
      · exact Or.inl h
      · exact Or.inr (Or.inl (Or.inr h))
      · exact Or.inr (Or.inr (Or.inl (Or.inr h)))
      · exact Or.inr (Or.inr (Or.inr (Or.inl h)))
      · exact Or.inr (Or.inr (Or.inr (Or.inr h)))
      · exact Or.inr (Or.inl (Or.inl h))
      · exact Or.inr (Or.inr (Or.inl (Or.inl h)))
  -- the cycles
  have CY : Cy (LvH (spM M a b c fr j1 j2 j3 n)) (nx (spM M a b c fr j1 j2 j3 n)) (pv (spM M a b c fr j1 j2 j3 n)) (ow (spM M a b c fr j1 j2 j3 n)) ∧ (n ≠ 0 → pv M b ≠ a) := by
    have z : pv M b = a ↔ n = 0 := by
      constructor
      · intro e
        have h1 : nx M a = b := by rw [← e]; exact J.np lb
        cases n with
        | zero => rfl
        | succ k => exact absurd h1 (hne 0 (by omega))
      · intro e
        rw [e] at eb
        have h1 : nx M a = b := eb
        rw [← h1]
        exact J.pn la
    refine ⟨?_, fun h e => h (z.mp e)⟩
    have C0 : Cy (LvH M) (nx M) (pv M) oF := J.1.cg (fun _ => Iff.rfl) (fun _ _ => rfl) (fun _ _ => rfl) (fun g lg => oFo g lg)
    have C1 := C0.insO (a := h1 j1) (t := pv M (tw a)) (u := tw a) (fun h => f_A1 _ h rfl) lt (J.np lta) (by rw [oFA1, oFo _ lt, ot])
    have C2 := C1.insO (a := h1 j2) (t := tw b) (u := nx M (tw b)) (fun h => h.elim (fun h => f_A2 _ h rfl) w_A1_A2.symm) (Or.inl ltb) eU (by rw [oFA2, oFo _ ltb])
    have x3 : fu (fu (fu (fu (nx M) (pv M (tw a)) (h1 j1)) (h1 j1) (tw a)) (tw b) (h1 j2)) (h1 j2) (nx M (tw b)) a = nx M a := by rw [fu_n _ _ (f_A2 _ la), fu_n _ _ q_tb_a.symm, fu_n _ _ (f_A1 _ la), fu_n _ _ q_t_a.symm]
    have C3 := C2.insO (a := h0 j3) (t := a) (u := nx M a) (by rintro ((h | h) | h); exact f_B3 _ h rfl; exact w_A1_B3.symm h; exact w_A2_B3.symm h) (Or.inl (Or.inl la)) x3 (by rw [oFB3, oFo _ la, oa])
    have C4 := C3.insO (a := h1 j3) (t := h0 j3) (u := nx M a) (by rintro (((h | h) | h) | h); exact f_C3 _ h rfl; exact w_A1_C3.symm h; exact w_A2_C3.symm h; exact w_B3_C3.symm h) (Or.inr rfl) (fu_s _ _ _) (by rw [oFB3, oFC3])
    have C5 := C4.insO (a := h0 j1) (t := h1 j3) (u := nx M a) (by rintro ((((h | h) | h) | h) | h); exact f_A0 _ h rfl; exact w_A1_A0.symm h; exact w_A2_A0.symm h; exact w_B3_A0.symm h; exact w_C3_A0.symm h) (Or.inr rfl) (fu_s _ _ _) (by rw [oFA0, oFC3])
    obtain ⟨F6, P6, C6, v1, v2, v3, v4, v5, v6, eN, eP⟩ : ∃ F6 P6 : Hf → Hf, Cy (fun g => (((((LvH M g ∨ g = h1 j1) ∨ g = h1 j2) ∨ g = h0 j3) ∨ g = h1 j3) ∨ g = h0 j1) ∨ g = h0 j2) F6 P6 oF ∧ F6 (h0 j3) = h1 j3 ∧ F6 (h0 j2) = b ∧ F6 (h1 j3) = h0 j1 ∧ F6 (h0 j1) = (if n = 0 then h0 j2 else nx M a) ∧ (n ≠ 0 → F6 (pv M b) = h0 j2) ∧ (∀ g, LvH M g → g ≠ pv M (tw a) → g ≠ tw b → g ≠ a → g ≠ pv M b → F6 g = nx M g) ∧ (∀ g, nx (spM M a b c fr j1 j2 j3 n) g = fu (fu F6 (h0 j3) b) (h0 j2) (h1 j3) g) ∧ (∀ g, pv (spM M a b c fr j1 j2 j3 n) g = fu (fu P6 b (h0 j3)) (h1 j3) (h0 j2) g) := by
      by_cases n0 : n = 0
      · have nab : nx M a = b := by rw [n0] at eb; exact eb
        have C6 := C5.insO (a := h0 j2) (t := h0 j1) (u := b) (by rintro (((((h | h) | h) | h) | h) | h); exact f_B2 _ h rfl; exact w_A1_B2.symm h; exact w_A2_B2.symm h; exact w_B3_B2.symm h; exact w_C3_B2.symm h; exact w_A0_B2.symm h) (Or.inr rfl) (by rw [fu_s]; exact nab) (by rw [oFA0, oFB2])
        refine ⟨_, _, C6, ?_, fu_s _ _ _, ?_, ?_, fun h => absurd n0 h, fun g lg g1 g2 g3 g4 => ?_, fun g => ?_, fun g => ?_⟩
        · rw [fu_n _ _ w_B3_B2, fu_n _ _ w_B3_A0, fu_n _ _ w_B3_A0, fu_n _ _ w_B3_C3, fu_n _ _ w_B3_C3, fu_s]
        · rw [fu_n _ _ w_C3_B2, fu_n _ _ w_C3_A0, fu_n _ _ w_C3_A0, fu_s]
        · rw [if_pos n0, fu_n _ _ w_A0_B2, fu_s]
        · rw [fu_n _ _ (f_B2 g lg), fu_n _ _ (f_A0 g lg), fu_n _ _ (f_A0 g lg), fu_n _ _ (f_C3 g lg), fu_n _ _ (f_C3 g lg), fu_n _ _ (f_B3 g lg), fu_n _ _ (f_B3 g lg), fu_n _ _ g3, fu_n _ _ (f_A2 g lg), fu_n _ _ g2, fu_n _ _ (f_A1 g lg), fu_n _ _ g1]
        · rw [spM_nx0 M a b c fr j1 j2 j3 n n0, eU]
          exact cutNx0 (nx M) (pb := a) (f_A1 _ lt) q_t_tb (f_A2 _ lt) q_t_a (f_B3 _ lt) (f_C3 _ lt) (f_A0 _ lt) (f_B2 _ lt) (fun e => f_A1 _ ltb e.symm) w_A1_A2 (fun e => f_A1 _ la e.symm) w_A1_B3 w_A1_C3 w_A1_A0 w_A1_B2 (f_A2 _ ltb) q_tb_a (f_B3 _ ltb) (f_C3 _ ltb) (f_A0 _ ltb) (f_B2 _ ltb) (fun e => f_A2 _ la e.symm) w_A2_B3 w_A2_C3 w_A2_A0 w_A2_B2 (f_B3 _ la) (f_C3 _ la) (f_A0 _ la) (f_B2 _ la) w_B3_C3 w_B3_A0 w_B3_B2 w_C3_A0 w_C3_B2 w_A0_B2 g
        · rw [spM_pv0 M a b c fr j1 j2 j3 n n0, eU, nab]
          exact cutPv0 (pv M) (fun e => f_A1 _ lta e.symm) w_A1_A2 (fun e => f_A1 _ lu e.symm) w_A1_B3 w_A1_C3 w_A1_A0 w_A1_B2 (fun e => f_A1 _ lb e.symm) (f_A2 _ lta) q_ta_u (f_B3 _ lta) (f_C3 _ lta) (f_A0 _ lta) (f_B2 _ lta) q_ta_b (fun e => f_A2 _ lu e.symm) w_A2_B3 w_A2_C3 w_A2_A0 w_A2_B2 (fun e => f_A2 _ lb e.symm) (f_B3 _ lu) (f_C3 _ lu) (f_A0 _ lu) (f_B2 _ lu) q_u_b w_B3_C3 w_B3_A0 w_B3_B2 (fun e => f_B3 _ lb e.symm) w_C3_A0 w_C3_B2 (fun e => f_C3 _ lb e.symm) w_A0_B2 (fun e => f_A0 _ lb e.symm) (fun e => f_B2 _ lb e.symm) g
      · have q_a_pb : a ≠ pv M b := fun e => n0 (z.mp e.symm)
        have q_na_b : nx M a ≠ b := hne 0 (by omega)
        have x6 : fu (fu (fu (fu (fu (fu (fu (fu (fu (fu (nx M) (pv M (tw a)) (h1 j1)) (h1 j1) (tw a)) (tw b) (h1 j2)) (h1 j2) (nx M (tw b))) a (h0 j3)) (h0 j3) (nx M a)) (h0 j3) (h1 j3)) (h1 j3) (nx M a)) (h1 j3) (h0 j1)) (h0 j1) (nx M a) (pv M b) = b := by
          rw [fu_n _ _ (f_A0 _ lpb), fu_n _ _ (f_C3 _ lpb), fu_n _ _ (f_C3 _ lpb), fu_n _ _ (f_B3 _ lpb), fu_n _ _ (f_B3 _ lpb), fu_n _ _ q_a_pb.symm, fu_n _ _ (f_A2 _ lpb), fu_n _ _ q_tb_pb.symm, fu_n _ _ (f_A1 _ lpb), fu_n _ _ q_t_pb.symm, J.np lb]
        have C6 := C5.insO (a := h0 j2) (t := pv M b) (u := b) (by rintro (((((h | h) | h) | h) | h) | h); exact f_B2 _ h rfl; exact w_A1_B2.symm h; exact w_A2_B2.symm h; exact w_B3_B2.symm h; exact w_C3_B2.symm h; exact w_A0_B2.symm h) (Or.inl (Or.inl (Or.inl (Or.inl (Or.inl lpb))))) x6 (by rw [oFB2, oFo _ lpb, opb])
        refine ⟨_, _, C6, ?_, fu_s _ _ _, ?_, ?_, fun _ => ?_, fun g lg g1 g2 g3 g4 => ?_, fun g => ?_, fun g => ?_⟩
        · rw [fu_n _ _ w_B3_B2, fu_n _ _ (fun e => f_B3 _ lpb e.symm), fu_n _ _ w_B3_A0, fu_n _ _ w_B3_C3, fu_n _ _ w_B3_C3, fu_s]
        · rw [fu_n _ _ w_C3_B2, fu_n _ _ (fun e => f_C3 _ lpb e.symm), fu_n _ _ w_C3_A0, fu_s]
        · rw [if_neg n0, fu_n _ _ w_A0_B2, fu_n _ _ (fun e => f_A0 _ lpb e.symm), fu_s]
        · rw [fu_n _ _ (f_B2 _ lpb), fu_s]
        · rw [fu_n _ _ (f_B2 g lg), fu_n _ _ g4, fu_n _ _ (f_A0 g lg), fu_n _ _ (f_C3 g lg), fu_n _ _ (f_C3 g lg), fu_n _ _ (f_B3 g lg), fu_n _ _ (f_B3 g lg), fu_n _ _ g3, fu_n _ _ (f_A2 g lg), fu_n _ _ g2, fu_n _ _ (f_A1 g lg), fu_n _ _ g1]
        · rw [spM_nx1 M a b c fr j1 j2 j3 n n0, eU]
          exact cutNx1 (nx M) (f_A1 _ lt) q_t_tb (f_A2 _ lt) q_t_a (f_B3 _ lt) (f_C3 _ lt) (f_A0 _ lt) (f_B2 _ lt) q_t_pb (fun e => f_A1 _ ltb e.symm) w_A1_A2 (fun e => f_A1 _ la e.symm) w_A1_B3 w_A1_C3 w_A1_A0 w_A1_B2 (fun e => f_A1 _ lpb e.symm) (f_A2 _ ltb) q_tb_a (f_B3 _ ltb) (f_C3 _ ltb) (f_A0 _ ltb) (f_B2 _ ltb) q_tb_pb (fun e => f_A2 _ la e.symm) w_A2_B3 w_A2_C3 w_A2_A0 w_A2_B2 (fun e => f_A2 _ lpb e.symm) (f_B3 _ la) (f_C3 _ la) (f_A0 _ la) (f_B2 _ la) q_a_pb w_B3_C3 w_B3_A0 w_B3_B2 (fun e => f_B3 _ lpb e.symm) w_C3_A0 w_C3_B2 (fun e => f_C3 _ lpb e.symm) w_A0_B2 (fun e => f_A0 _ lpb e.symm) (fun e => f_B2 _ lpb e.symm) g
        · rw [spM_pv1 M a b c fr j1 j2 j3 n n0, eU]
          exact cutPv1 (pv M) (fun e => f_A1 _ lta e.symm) w_A1_A2 (fun e => f_A1 _ lu e.symm) w_A1_B3 (fun e => f_A1 _ lna e.symm) w_A1_C3 w_A1_A0 w_A1_B2 (fun e => f_A1 _ lb e.symm) (f_A2 _ lta) q_ta_u (f_B3 _ lta) q_ta_na (f_C3 _ lta) (f_A0 _ lta) (f_B2 _ lta) q_ta_b (fun e => f_A2 _ lu e.symm) w_A2_B3 (fun e => f_A2 _ lna e.symm) w_A2_C3 w_A2_A0 w_A2_B2 (fun e => f_A2 _ lb e.symm) (f_B3 _ lu) q_u_na (f_C3 _ lu) (f_A0 _ lu) (f_B2 _ lu) q_u_b (fun e => f_B3 _ lna e.symm) w_B3_C3 w_B3_A0 w_B3_B2 (fun e => f_B3 _ lb e.symm) (f_C3 _ lna) (f_A0 _ lna) (f_B2 _ lna) q_na_b w_C3_A0 w_C3_B2 (fun e => f_C3 _ lb e.symm) w_A0_B2 (fun e => f_A0 _ lb e.symm) (fun e => f_B2 _ lb e.symm) g
    -- where the new cell's halves lie
    have It : ∀ i, (i < n → itn F6 (i + 2) (h1 j3) = itn (nx M) i (nx M a)) ∧ (i = n → itn F6 (i + 2) (h1 j3) = h0 j2) := by
      intro i
      induction i with
      | zero =>
        have e2 : itn F6 2 (h1 j3) = F6 (h0 j1) := by
          show F6 (F6 (h1 j3)) = _
          rw [v3]
        constructor
        · intro h
          rw [e2, v4, if_neg (by omega)]
          rfl
        · intro h
          rw [e2, v4, if_pos h.symm]
      | succ i ih =>
        have key : i < n → itn F6 (i + 1 + 2) (h1 j3) = F6 (itn (nx M) i (nx M a)) := fun h => by
          rw [show i + 1 + 2 = (i + 2) + 1 by omega, itn_s, ih.1 h]
        have lx := arcL i
        constructor
        · intro h
          rw [key (by omega), v6 _ lx.1 (fun e => gX (by rw [← ot, ← e]; exact lx.2)) (fun e => gY (by rw [← e]; exact lx.2)) (hna i (by omega)) (fun e => hne (i + 1) h (by rw [itn_s, e]; exact J.np lb)), ← itn_s (nx M)]
        · intro h
          have ex : itn (nx M) i (nx M a) = pv M b := by
            have h1 : nx M (itn (nx M) i (nx M a)) = b := by rw [← itn_s (nx M), h]; exact eb
            rw [← h1]
            exact (J.pn lx.1).symm
          rw [key (by omega), ex, v5 (by omega)]
    have Ik : ∀ k, k ≤ n + 2 → (k = 0 ∧ itn F6 k (h1 j3) = h1 j3) ∨ (k = 1 ∧ itn F6 k (h1 j3) = h0 j1) ∨ (∃ i, i < n ∧ k = i + 2 ∧ itn F6 k (h1 j3) = itn (nx M) i (nx M a)) ∨ (k = n + 2 ∧ itn F6 k (h1 j3) = h0 j2) := by
      intro k hk
      match k with
      | 0 => exact Or.inl ⟨rfl, rfl⟩
      | 1 => exact Or.inr (Or.inl ⟨rfl, v3⟩)
      | i + 2 =>
        by_cases h : i < n
        · exact Or.inr (Or.inr (Or.inl ⟨i, h, rfl, (It i).1 h⟩))
        · have h' : i = n := by omega
          exact Or.inr (Or.inr (Or.inr ⟨by omega, (It i).2 h'⟩))
    have SP := C6.split (x := h0 j3) (y := h0 j2) (Or.inl (Or.inl (Or.inl (Or.inr rfl)))) (Or.inr rfl) w_B3_B2 (by rw [oFB3, oFB2]) (n + 2) (by rw [v1]; exact (It n).2 rfl) (fun k hk => by
        rw [v1]
        rcases Ik k (by omega) with ⟨_, e⟩ | ⟨_, e⟩ | ⟨i, hi, _, e⟩ | ⟨h, _⟩
        · rw [e]; exact w_C3_B2
        · rw [e]; exact w_A0_B2
        · rw [e]; exact f_B2 _ (arcL i).1
        · omega) (fun k hk => by
        rw [v1]
        rcases Ik k hk with ⟨_, e⟩ | ⟨_, e⟩ | ⟨i, hi, _, e⟩ | ⟨_, e⟩
        · rw [e]; exact w_B3_C3.symm
        · rw [e]; exact w_B3_A0.symm
        · rw [e]; exact f_B3 _ (arcL i).1
        · rw [e]; exact w_B3_B2.symm) (ow (spM M a b c fr j1 j2 j3 n)) fr (fun g hg => by
        rcases hg with (((((h | h) | h) | h) | h) | h) | h
        · rw [oFo g h]; exact frn g h
        · rw [h, oFA1]; exact frn _ lta
        · rw [h, oFA2]; exact frn _ ltb
        · rw [h, oFB3]; exact cfr
        · rw [h, oFC3]; exact cfr
        · rw [h, oFA0]; exact cfr
        · rw [h, oFB2]; exact cfr) (fun k hk => by
        rw [v1]
        rcases Ik k hk with ⟨_, e⟩ | ⟨_, e⟩ | ⟨i, hi, _, e⟩ | ⟨_, e⟩
        · rw [e]; exact OC3
        · rw [e]; exact OA0
        · rw [e, Oo _ (arcL i).1]; exact oAa i hi
        · rw [e]; exact OB2) (fun g hg hk => by
        rw [v1] at hk
        rcases hg with (((((h | h) | h) | h) | h) | h) | h
        · rw [Oo g h, oFo g h]
          exact oAo g (fun i hi e => hk (i + 2) (by omega) (by rw [(It i).1 hi]; exact e))
        · rw [h, OA1, oFA1]
        · rw [h, OA2, oFA2]
        · rw [h, OB3, oFB3]
        · exact absurd h.symm (hk 0 (Nat.zero_le _))
        · exact absurd (by rw [h]; exact v3) (hk 1 (by omega))
        · exact absurd (by rw [h]; exact (It n).2 rfl) (hk (n + 2) (Nat.le_refl _)))
    rw [v1, v2] at SP
    exact SP.cg L6' (fun g _ => eN g) (fun g _ => eP g) (fun _ _ => rfl)
  obtain ⟨CY, q_pb_a⟩ := CY
  have d_t_A1 : pv M (tw a) ≠ h1 j1 := (f_A1 _ lt)
  have d_t_tb : pv M (tw a) ≠ tw b := q_t_tb
  have d_t_A2 : pv M (tw a) ≠ h1 j2 := (f_A2 _ lt)
  have d_t_a : pv M (tw a) ≠ a := q_t_a
  have d_t_B3 : pv M (tw a) ≠ h0 j3 := (f_B3 _ lt)
  have d_t_C3 : pv M (tw a) ≠ h1 j3 := (f_C3 _ lt)
  have d_t_A0 : pv M (tw a) ≠ h0 j1 := (f_A0 _ lt)
  have d_t_B2 : pv M (tw a) ≠ h0 j2 := (f_B2 _ lt)
  have d_A1_tb : h1 j1 ≠ tw b := (fun e => f_A1 _ ltb e.symm)
  have d_A1_A2 : h1 j1 ≠ h1 j2 := w_A1_A2
  have d_A1_a : h1 j1 ≠ a := (fun e => f_A1 _ la e.symm)
  have d_A1_B3 : h1 j1 ≠ h0 j3 := w_A1_B3
  have d_A1_C3 : h1 j1 ≠ h1 j3 := w_A1_C3
  have d_A1_A0 : h1 j1 ≠ h0 j1 := w_A1_A0
  have d_A1_B2 : h1 j1 ≠ h0 j2 := w_A1_B2
  have d_tb_A2 : tw b ≠ h1 j2 := (f_A2 _ ltb)
  have d_tb_a : tw b ≠ a := q_tb_a
  have d_tb_B3 : tw b ≠ h0 j3 := (f_B3 _ ltb)
  have d_tb_C3 : tw b ≠ h1 j3 := (f_C3 _ ltb)
  have d_tb_A0 : tw b ≠ h0 j1 := (f_A0 _ ltb)
  have d_tb_B2 : tw b ≠ h0 j2 := (f_B2 _ ltb)
  have d_A2_a : h1 j2 ≠ a := (fun e => f_A2 _ la e.symm)
  have d_A2_B3 : h1 j2 ≠ h0 j3 := w_A2_B3
  have d_A2_C3 : h1 j2 ≠ h1 j3 := w_A2_C3
  have d_A2_A0 : h1 j2 ≠ h0 j1 := w_A2_A0
  have d_A2_B2 : h1 j2 ≠ h0 j2 := w_A2_B2
  have d_a_B3 : a ≠ h0 j3 := (f_B3 _ la)
  have d_a_C3 : a ≠ h1 j3 := (f_C3 _ la)
  have d_a_A0 : a ≠ h0 j1 := (f_A0 _ la)
  have d_a_B2 : a ≠ h0 j2 := (f_B2 _ la)
  have d_B3_C3 : h0 j3 ≠ h1 j3 := w_B3_C3
  have d_B3_A0 : h0 j3 ≠ h0 j1 := w_B3_A0
  have d_B3_B2 : h0 j3 ≠ h0 j2 := w_B3_B2
  have d_C3_A0 : h1 j3 ≠ h0 j1 := w_C3_A0
  have d_C3_B2 : h1 j3 ≠ h0 j2 := w_C3_B2
  have d_A0_B2 : h0 j1 ≠ h0 j2 := w_A0_B2
  have N_t : nx (spM M a b c fr j1 j2 j3 n) (pv M (tw a)) = h1 j1 := by
    by_cases n0 : n = 0
    · rw [spM_nx0 M a b c fr j1 j2 j3 n n0, eU]
      simp [fu, d_t_A1, d_t_A1.symm, d_t_tb, d_t_tb.symm, d_t_A2, d_t_A2.symm, d_t_a, d_t_a.symm, d_t_B3, d_t_B3.symm, d_t_C3, d_t_C3.symm, d_t_A0, d_t_A0.symm, d_t_B2, d_t_B2.symm]
    · rw [spM_nx1 M a b c fr j1 j2 j3 n n0, eU, fu_n _ _ q_t_pb]
      simp [fu, d_t_A1, d_t_A1.symm, d_t_tb, d_t_tb.symm, d_t_A2, d_t_A2.symm, d_t_a, d_t_a.symm, d_t_B3, d_t_B3.symm, d_t_C3, d_t_C3.symm, d_t_A0, d_t_A0.symm, d_t_B2, d_t_B2.symm]
  have N_A1 : nx (spM M a b c fr j1 j2 j3 n) (h1 j1) = tw a := by
    by_cases n0 : n = 0
    · rw [spM_nx0 M a b c fr j1 j2 j3 n n0, eU]
      simp [fu, d_t_A1, d_t_A1.symm, d_A1_tb, d_A1_tb.symm, d_A1_A2, d_A1_A2.symm, d_A1_a, d_A1_a.symm, d_A1_B3, d_A1_B3.symm, d_A1_C3, d_A1_C3.symm, d_A1_A0, d_A1_A0.symm, d_A1_B2, d_A1_B2.symm]
    · rw [spM_nx1 M a b c fr j1 j2 j3 n n0, eU, fu_n _ _ (fun e => f_A1 _ lpb e.symm)]
      simp [fu, d_t_A1, d_t_A1.symm, d_A1_tb, d_A1_tb.symm, d_A1_A2, d_A1_A2.symm, d_A1_a, d_A1_a.symm, d_A1_B3, d_A1_B3.symm, d_A1_C3, d_A1_C3.symm, d_A1_A0, d_A1_A0.symm, d_A1_B2, d_A1_B2.symm]
  have N_tb : nx (spM M a b c fr j1 j2 j3 n) (tw b) = h1 j2 := by
    by_cases n0 : n = 0
    · rw [spM_nx0 M a b c fr j1 j2 j3 n n0, eU]
      simp [fu, d_t_tb, d_t_tb.symm, d_A1_tb, d_A1_tb.symm, d_tb_A2, d_tb_A2.symm, d_tb_a, d_tb_a.symm, d_tb_B3, d_tb_B3.symm, d_tb_C3, d_tb_C3.symm, d_tb_A0, d_tb_A0.symm, d_tb_B2, d_tb_B2.symm]
    · rw [spM_nx1 M a b c fr j1 j2 j3 n n0, eU, fu_n _ _ q_tb_pb]
      simp [fu, d_t_tb, d_t_tb.symm, d_A1_tb, d_A1_tb.symm, d_tb_A2, d_tb_A2.symm, d_tb_a, d_tb_a.symm, d_tb_B3, d_tb_B3.symm, d_tb_C3, d_tb_C3.symm, d_tb_A0, d_tb_A0.symm, d_tb_B2, d_tb_B2.symm]
  have N_A2 : nx (spM M a b c fr j1 j2 j3 n) (h1 j2) = nx M (tw b) := by
    by_cases n0 : n = 0
    · rw [spM_nx0 M a b c fr j1 j2 j3 n n0, eU]
      simp [fu, d_t_A2, d_t_A2.symm, d_A1_A2, d_A1_A2.symm, d_tb_A2, d_tb_A2.symm, d_A2_a, d_A2_a.symm, d_A2_B3, d_A2_B3.symm, d_A2_C3, d_A2_C3.symm, d_A2_A0, d_A2_A0.symm, d_A2_B2, d_A2_B2.symm]
    · rw [spM_nx1 M a b c fr j1 j2 j3 n n0, eU, fu_n _ _ (fun e => f_A2 _ lpb e.symm)]
      simp [fu, d_t_A2, d_t_A2.symm, d_A1_A2, d_A1_A2.symm, d_tb_A2, d_tb_A2.symm, d_A2_a, d_A2_a.symm, d_A2_B3, d_A2_B3.symm, d_A2_C3, d_A2_C3.symm, d_A2_A0, d_A2_A0.symm, d_A2_B2, d_A2_B2.symm]
  have N_a : nx (spM M a b c fr j1 j2 j3 n) (a) = h0 j3 := by
    by_cases n0 : n = 0
    · rw [spM_nx0 M a b c fr j1 j2 j3 n n0, eU]
      simp [fu, d_t_a, d_t_a.symm, d_A1_a, d_A1_a.symm, d_tb_a, d_tb_a.symm, d_A2_a, d_A2_a.symm, d_a_B3, d_a_B3.symm, d_a_C3, d_a_C3.symm, d_a_A0, d_a_A0.symm, d_a_B2, d_a_B2.symm]
    · rw [spM_nx1 M a b c fr j1 j2 j3 n n0, eU, fu_n _ _ (fun e => q_pb_a n0 e.symm)]
      simp [fu, d_t_a, d_t_a.symm, d_A1_a, d_A1_a.symm, d_tb_a, d_tb_a.symm, d_A2_a, d_A2_a.symm, d_a_B3, d_a_B3.symm, d_a_C3, d_a_C3.symm, d_a_A0, d_a_A0.symm, d_a_B2, d_a_B2.symm]
  have N_B3 : nx (spM M a b c fr j1 j2 j3 n) (h0 j3) = b := by
    by_cases n0 : n = 0
    · rw [spM_nx0 M a b c fr j1 j2 j3 n n0, eU]
      simp [fu, d_t_B3, d_t_B3.symm, d_A1_B3, d_A1_B3.symm, d_tb_B3, d_tb_B3.symm, d_A2_B3, d_A2_B3.symm, d_a_B3, d_a_B3.symm, d_B3_C3, d_B3_C3.symm, d_B3_A0, d_B3_A0.symm, d_B3_B2, d_B3_B2.symm]
    · rw [spM_nx1 M a b c fr j1 j2 j3 n n0, eU, fu_n _ _ (fun e => f_B3 _ lpb e.symm)]
      simp [fu, d_t_B3, d_t_B3.symm, d_A1_B3, d_A1_B3.symm, d_tb_B3, d_tb_B3.symm, d_A2_B3, d_A2_B3.symm, d_a_B3, d_a_B3.symm, d_B3_C3, d_B3_C3.symm, d_B3_A0, d_B3_A0.symm, d_B3_B2, d_B3_B2.symm]
  have N_B2 : nx (spM M a b c fr j1 j2 j3 n) (h0 j2) = h1 j3 := by
    by_cases n0 : n = 0
    · rw [spM_nx0 M a b c fr j1 j2 j3 n n0, eU]
      simp [fu, d_t_B2, d_t_B2.symm, d_A1_B2, d_A1_B2.symm, d_tb_B2, d_tb_B2.symm, d_A2_B2, d_A2_B2.symm, d_a_B2, d_a_B2.symm, d_B3_B2, d_B3_B2.symm, d_C3_B2, d_C3_B2.symm, d_A0_B2, d_A0_B2.symm]
    · rw [spM_nx1 M a b c fr j1 j2 j3 n n0, eU, fu_n _ _ (fun e => f_B2 _ lpb e.symm)]
      simp [fu, d_t_B2, d_t_B2.symm, d_A1_B2, d_A1_B2.symm, d_tb_B2, d_tb_B2.symm, d_A2_B2, d_A2_B2.symm, d_a_B2, d_a_B2.symm, d_B3_B2, d_B3_B2.symm, d_C3_B2, d_C3_B2.symm, d_A0_B2, d_A0_B2.symm]
  have N_C3 : nx (spM M a b c fr j1 j2 j3 n) (h1 j3) = h0 j1 := by
    by_cases n0 : n = 0
    · rw [spM_nx0 M a b c fr j1 j2 j3 n n0, eU]
      simp [fu, d_t_C3, d_t_C3.symm, d_A1_C3, d_A1_C3.symm, d_tb_C3, d_tb_C3.symm, d_A2_C3, d_A2_C3.symm, d_a_C3, d_a_C3.symm, d_B3_C3, d_B3_C3.symm, d_C3_A0, d_C3_A0.symm, d_C3_B2, d_C3_B2.symm]
    · rw [spM_nx1 M a b c fr j1 j2 j3 n n0, eU, fu_n _ _ (fun e => f_C3 _ lpb e.symm)]
      simp [fu, d_t_C3, d_t_C3.symm, d_A1_C3, d_A1_C3.symm, d_tb_C3, d_tb_C3.symm, d_A2_C3, d_A2_C3.symm, d_a_C3, d_a_C3.symm, d_B3_C3, d_B3_C3.symm, d_C3_A0, d_C3_A0.symm, d_C3_B2, d_C3_B2.symm]
  have N_A0 : nx (spM M a b c fr j1 j2 j3 n) (h0 j1) = if n = 0 then h0 j2 else nx M a := by
    by_cases n0 : n = 0
    · rw [spM_nx0 M a b c fr j1 j2 j3 n n0, fu_s, if_pos n0]
    · rw [spM_nx1 M a b c fr j1 j2 j3 n n0, fu_n _ _ (fun e => f_A0 _ lpb e.symm), fu_s, if_neg n0]
  have N_pb : n ≠ 0 → nx (spM M a b c fr j1 j2 j3 n) (pv M b) = h0 j2 := fun n0 => by rw [spM_nx1 M a b c fr j1 j2 j3 n n0, fu_s]
  have N_o : ∀ g, LvH M g → g ≠ pv M (tw a) → g ≠ tw b → g ≠ a → g ≠ pv M b → nx (spM M a b c fr j1 j2 j3 n) g = nx M g := by
    intro g lg g1 g2 g3 g4
    by_cases n0 : n = 0
    · rw [spM_nx0 M a b c fr j1 j2 j3 n n0, fu_n _ _ (f_A0 g lg), fu_n _ _ (f_C3 g lg), fu_n _ _ (f_B2 g lg), fu_n _ _ (f_B3 g lg), fu_n _ _ g3, fu_n _ _ g2, fu_n _ _ (f_A2 g lg), fu_n _ _ (f_A1 g lg), fu_n _ _ g1]
    · rw [spM_nx1 M a b c fr j1 j2 j3 n n0, fu_n _ _ g4, fu_n _ _ (f_A0 g lg), fu_n _ _ (f_C3 g lg), fu_n _ _ (f_B2 g lg), fu_n _ _ (f_B3 g lg), fu_n _ _ g3, fu_n _ _ g2, fu_n _ _ (f_A2 g lg), fu_n _ _ (f_A1 g lg), fu_n _ _ g1]
  have H_a : ph (spM M a b c fr j1 j2 j3 n) a = h1 j3 := by unfold ph; rw [N_a, eC3]
  have H_C3 : ph (spM M a b c fr j1 j2 j3 n) (h1 j3) = h1 j1 := by unfold ph; rw [N_C3, eA1]
  have H_A1 : ph (spM M a b c fr j1 j2 j3 n) (h1 j1) = a := by unfold ph; rw [N_A1, tw_tw]
  have H_B3 : ph (spM M a b c fr j1 j2 j3 n) (h0 j3) = tw b := by unfold ph; rw [N_B3]
  have H_tb : ph (spM M a b c fr j1 j2 j3 n) (tw b) = h0 j2 := by unfold ph; rw [N_tb, eB2]
  have H_B2 : ph (spM M a b c fr j1 j2 j3 n) (h0 j2) = h0 j3 := by unfold ph; rw [N_B2, eB3]
  have H_t : ph (spM M a b c fr j1 j2 j3 n) (pv M (tw a)) = h0 j1 := by unfold ph; rw [N_t, eA0]
  have H_A2 : ph (spM M a b c fr j1 j2 j3 n) (h1 j2) = ph M (tw b) := by unfold ph; rw [N_A2]
  have ltp : LvH M (ph M (tw b)) := LvH_tw.mpr lu
  have p_tb : ph M (ph M (tw b)) = pv M b := by
    have := J.2.2.2.1 _ lpb
    rw [p_pb] at this
    exact this
  have oAd : ∀ g, LvH M g → ow (hoL fr n M (nx M a)) g = ow M g ∨ (ow (hoL fr n M (nx M a)) g = fr ∧ ow M g = c) := by
    intro g lg
    by_cases y : ∃ i, i < n ∧ itn (nx M) i (nx M a) = g
    · obtain ⟨i, hi, e⟩ := y
      refine Or.inr ⟨?_, ?_⟩
      · rw [← e]; exact oAa i hi
      · rw [← e]; exact (arcL i).2
    · exact Or.inl (oAo g (fun i hi e => y ⟨i, hi, e⟩))
  rw [spS2, spS1, o2tb, oAta] at Fsd
  have Sd : ∀ d, sd (spM M a b c fr j1 j2 j3 n) d = if d = fr then 3 + n else if d = c then sd M c + 1 - n else sd M d + b1 (decide (ow M (tw a) = d)) + b1 (decide (ow M (tw b) = d)) := by
    intro d
    rw [Fsd]
    have s2 : ∀ d, fu (fu (sd M) (ow M (tw a)) (sd M (ow M (tw a)) + 1)) (ow M (tw b)) (fu (sd M) (ow M (tw a)) (sd M (ow M (tw a)) + 1) (ow M (tw b)) + 1) d = sd M d + b1 (decide (ow M (tw a) = d)) + b1 (decide (ow M (tw b) = d)) := by
      intro d
      by_cases y1 : ow M (tw b) = d
      · rw [b1_t y1, y1, fu_s]
        by_cases y2 : ow M (tw a) = d
        · rw [b1_t y2, y2, fu_s]
        · rw [b1_f y2, fu_n _ _ (fun e => y2 e.symm)]
      · rw [b1_f y1, fu_n _ _ (fun e => y1 e.symm)]
        by_cases y2 : ow M (tw a) = d
        · rw [b1_t y2, y2, fu_s]
        · rw [b1_f y2, fu_n _ _ (fun e => y2 e.symm)]
          omega
    by_cases y1 : d = fr
    · rw [if_pos y1, y1, fu_s]
    · rw [if_neg y1, fu_n _ _ y1]
      by_cases y2 : d = c
      · rw [if_pos y2, y2, fu_s, s2, b1_f gX, b1_f gY]
      · rw [if_neg y2, fu_n _ _ y2, s2]
  have Xp := J.pos lta
  have Yp := J.pos ltb
  refine ⟨CY, fun d => ?_, fun h hh => ?_, fun h hh => ?_, fun d hd => ?_, ?_, fun v hv => ?_⟩
  · -- the numbers of sides
    have k1 := cH_rm (fib (spM M a b c fr j1 j2 j3 n) d) (h0 j1)
    have k2 := cH_rm (fun g => fib (spM M a b c fr j1 j2 j3 n) d g && decide (g ≠ h0 j1)) (h1 j1)
    have k3 := cH_rm (fun g => (fib (spM M a b c fr j1 j2 j3 n) d g && decide (g ≠ h0 j1)) && decide (g ≠ h1 j1)) (h0 j2)
    have k4 := cH_rm (fun g => ((fib (spM M a b c fr j1 j2 j3 n) d g && decide (g ≠ h0 j1)) && decide (g ≠ h1 j1)) && decide (g ≠ h0 j2)) (h1 j2)
    have k5 := cH_rm (fun g => (((fib (spM M a b c fr j1 j2 j3 n) d g && decide (g ≠ h0 j1)) && decide (g ≠ h1 j1)) && decide (g ≠ h0 j2)) && decide (g ≠ h1 j2)) (h0 j3)
    have k6 := cH_rm (fun g => ((((fib (spM M a b c fr j1 j2 j3 n) d g && decide (g ≠ h0 j1)) && decide (g ≠ h1 j1)) && decide (g ≠ h0 j2)) && decide (g ≠ h1 j2)) && decide (g ≠ h0 j3)) (h1 j3)
    have ff : ∀ g, LvH (spM M a b c fr j1 j2 j3 n) g → fib (spM M a b c fr j1 j2 j3 n) d g = decide (ow (spM M a b c fr j1 j2 j3 n) g = d) := fun g lg => by unfold fib; rw [show lv (spM M a b c fr j1 j2 j3 n) (wl g) = true from lg, Bool.true_and]
    rw [ff _ ((L _).mpr (Or.inr (Or.inl (Or.inl rfl)))), OA0] at k1
    rw [ff _ ((L _).mpr (Or.inr (Or.inl (Or.inr rfl)))), OA1, decide_eq_true w_A1_A0, Bool.and_true] at k2
    rw [ff _ ((L _).mpr (Or.inr (Or.inr (Or.inl (Or.inl rfl))))), OB2, decide_eq_true w_A0_B2.symm, decide_eq_true w_A1_B2.symm, Bool.and_true, Bool.and_true] at k3
    rw [ff _ ((L _).mpr (Or.inr (Or.inr (Or.inl (Or.inr rfl))))), OA2, decide_eq_true w_A2_A0, decide_eq_true w_A1_A2.symm, decide_eq_true w_A2_B2, Bool.and_true, Bool.and_true, Bool.and_true] at k4
    rw [ff _ ((L _).mpr (Or.inr (Or.inr (Or.inr (Or.inl rfl))))), OB3, decide_eq_true w_B3_A0, decide_eq_true w_A1_B3.symm, decide_eq_true w_B3_B2, decide_eq_true w_A2_B3.symm, Bool.and_true, Bool.and_true, Bool.and_true, Bool.and_true] at k5
    rw [ff _ ((L _).mpr (Or.inr (Or.inr (Or.inr (Or.inr rfl))))), OC3, decide_eq_true w_C3_A0, decide_eq_true w_A1_C3.symm, decide_eq_true w_C3_B2, decide_eq_true w_A2_C3.symm, decide_eq_true w_B3_C3.symm, Bool.and_true, Bool.and_true, Bool.and_true, Bool.and_true, Bool.and_true] at k6
    have ef : cH (fun g => (((((fib (spM M a b c fr j1 j2 j3 n) d g && decide (g ≠ h0 j1)) && decide (g ≠ h1 j1)) && decide (g ≠ h0 j2)) && decide (g ≠ h1 j2)) && decide (g ≠ h0 j3)) && decide (g ≠ h1 j3)) = cH (fun g => lv M (wl g) && decide (ow (hoL fr n M (nx M a)) g = d)) := by
      refine cH_congr (fun g => ?_)
      rw [Bool.eq_iff_iff]
      simp only [Bool.and_eq_true, decide_eq_true_iff, fib_iff]
      constructor
      · rintro ⟨⟨⟨⟨⟨⟨⟨y1, y2⟩, y3⟩, y4⟩, y5⟩, y6⟩, y7⟩, y8⟩
        rcases (L g).mp y1 with y | (y | y) | (y | y) | (y | y)
        · refine ⟨y, ?_⟩
          rw [← Oo g y]; exact y2
        · exact absurd y y3
        · exact absurd y y4
        · exact absurd y y5
        · exact absurd y y6
        · exact absurd y y7
        · exact absurd y y8
      · rintro ⟨y1, y2⟩
        refine ⟨⟨⟨⟨⟨⟨⟨(L g).mpr (Or.inl y1), ?_⟩, f_A0 g y1⟩, f_A1 g y1⟩, f_B2 g y1⟩, f_A2 g y1⟩, f_B3 g y1⟩, f_C3 g y1⟩
        rw [Oo g y1]; exact y2
    rw [ef] at k6
    have kc := hoL_cnt cfr n M (nx M a) (fun i _ => arcL i) (fun i j hi hj e => by
      have D := (J.orb a la).2.1 (i + 1) (j + 1) (by omega) (by rw [oa]; omega)
      exact D e) d
    have j0 := J.2.1 d
    rw [Sd]
    by_cases y1 : d = fr
    · rw [if_pos y1]
      rw [if_neg (fun e => cfr (e.symm.trans y1)), if_pos y1, ← j0, y1, sf] at kc
      rw [b1_t y1.symm] at k1 k3 k6
      rw [b1_f (fun e => frn _ lta (e.trans y1))] at k2
      rw [b1_f (fun e => frn _ ltb (e.trans y1))] at k4
      rw [b1_f (fun e => cfr (e.trans y1))] at k5
      rw [y1] at k1 k2 k3 k4 k5 k6 ⊢
      omega
    · rw [if_neg y1]
      rw [b1_f (fun e => y1 e.symm)] at k1 k3 k6
      rw [if_neg y1] at kc
      by_cases y2 : d = c
      · rw [if_pos y2]
        rw [if_pos y2, ← j0] at kc
        rw [b1_f (fun e => gX (e.trans y2))] at k2
        rw [b1_f (fun e => gY (e.trans y2))] at k4
        rw [b1_t y2.symm] at k5
        rw [y2] at k1 k2 k3 k4 k5 k6 kc ⊢
        omega
      · rw [if_neg y2]
        rw [if_neg y2, ← j0] at kc
        rw [b1_f (fun e => y2 e.symm)] at k5
        omega
  · -- two cells at each wall
    rcases (L h).mp hh with y | (y | y) | (y | y) | (y | y)
    · have ly : LvH M (tw h) := LvH_tw.mpr y
      rw [Oo h y, Oo _ ly]
      have g1 := J.2.2.1 h y
      rcases oAd h y with e1 | ⟨e1, e2⟩ <;> rcases oAd _ ly with e3 | ⟨e3, e4⟩
      · rw [e1, e3]; exact g1
      · rw [e1, e3]; exact fun e => frn h y e.symm
      · rw [e1, e3]; exact frn _ ly
      · exact absurd (e4.trans e2.symm) g1
    · rw [y, eA1, OA1, OA0]; exact frn _ lta
    · rw [y, eA0, OA1, OA0]; exact fun e => frn _ lta e.symm
    · rw [y, eA2, OA2, OB2]; exact frn _ ltb
    · rw [y, eB2, OA2, OB2]; exact fun e => frn _ ltb e.symm
    · rw [y, eC3, OC3, OB3]; exact fun e => cfr e.symm
    · rw [y, eB3, OC3, OB3]; exact cfr
  · -- three walls at each meeting
    by_cases y1 : h = a
    · rw [y1, H_a, H_C3, H_A1]
    by_cases y2 : h = h1 j3
    · rw [y2, H_C3, H_A1, H_a]
    by_cases y3 : h = h1 j1
    · rw [y3, H_A1, H_a, H_C3]
    by_cases y4 : h = h0 j3
    · rw [y4, H_B3, H_tb, H_B2]
    by_cases y5 : h = tw b
    · rw [y5, H_tb, H_B2, H_B3]
    by_cases y6 : h = h0 j2
    · rw [y6, H_B2, H_B3, H_tb]
    have a_ne : ph M a ≠ a := fun e => otna (by rw [← p_a, e]; exact oa)
    by_cases n0 : n = 0
    · have nab : nx M a = b := by rw [n0] at eb; exact eb
      have pba : pv M b = a := by rw [← nab]; exact J.pn la
      have pat : ph M (tw b) = pv M (tw a) := by
        have e1 : ph M a = tw b := by rw [p_a, nab]
        rw [← e1]; exact ppa
      have H_A0 : ph (spM M a b c fr j1 j2 j3 n) (h0 j1) = h1 j2 := by unfold ph; rw [N_A0, if_pos n0, eA2]
      rw [pat] at H_A2
      by_cases y7 : h = h0 j1
      · rw [y7, H_A0, H_A2, H_t]
      by_cases y8 : h = h1 j2
      · rw [y8, H_A2, H_t, H_A0]
      by_cases y9 : h = pv M (tw a)
      · rw [y9, H_t, H_A0, H_A2]
      have lh : LvH M h := by
        rcases (L h).mp hh with y | (y | y) | (y | y) | (y | y)
        · exact y
        · exact absurd y y7
        · exact absurd y y3
        · exact absurd y y6
        · exact absurd y y8
        · exact absurd y y4
        · exact absurd y y2
      have out : ∀ x, LvH M x → x ≠ a → x ≠ tw b → x ≠ pv M (tw a) → ph (spM M a b c fr j1 j2 j3 n) x = ph M x ∧ LvH M (ph M x) ∧ ph M x ≠ a ∧ ph M x ≠ tw b ∧ ph M x ≠ pv M (tw a) := by
        intro x lx x1 x2 x3
        refine ⟨?_, LvH_tw.mpr (J.nl lx), fun e => x3 (inj x _ lx lt (e.trans p_t.symm)), fun e => x1 (inj x a lx la (e.trans (by rw [p_a, nab]))), fun e => x2 (inj x _ lx ltb (e.trans pat.symm))⟩
        unfold ph
        rw [N_o x lx x3 x2 x1 (by rw [pba]; exact x1)]
      obtain ⟨x1, x2, x3, x4, x5⟩ := out h lh y1 y5 y9
      obtain ⟨u1, u2, u3, u4, u5⟩ := out _ x2 x3 x4 x5
      obtain ⟨v1, _⟩ := out _ u2 u3 u4 u5
      rw [x1, u1, v1]
      exact J.2.2.2.1 h lh
    · have q_na_b : nx M a ≠ b := hne 0 (by omega)
      have pa_tb : ph M a ≠ tw b := fun e => q_na_b (tw_inj e)
      have pa_t : ph M a ≠ pv M (tw a) := fun e => a_ne (inj _ _ lpa la (ppa.trans e.symm))
      have pa_pb : ph M a ≠ pv M b := fun e => otna (by rw [← p_a, e]; exact opb)
      have H_A0 : ph (spM M a b c fr j1 j2 j3 n) (h0 j1) = ph M a := by unfold ph; rw [N_A0, if_neg n0]
      have H_pa : ph (spM M a b c fr j1 j2 j3 n) (ph M a) = pv M (tw a) := by
        rw [← ppa]
        show tw (nx (spM M a b c fr j1 j2 j3 n) (ph M a)) = tw (nx M (ph M a))
        rw [N_o _ lpa pa_t pa_tb a_ne pa_pb]
      have pt_tb : ph M (tw b) ≠ tw b := fun e => by
        have h1 : pv M b = tw b := by rw [← p_tb, e, e]
        exact q_tb_pb h1.symm
      have pt_t : ph M (tw b) ≠ pv M (tw a) := fun e => pa_tb (inj _ _ lpa ltb (ppa.trans e.symm))
      have pt_a : ph M (tw b) ≠ a := fun e => by
        have h1 : ph M a = pv M b := by rw [← p_tb, e]
        exact pa_pb h1
      have pt_pb : ph M (tw b) ≠ pv M b := fun e => by
        have h1 : tw b = pv M b := by rw [← p_pb, ← e, p_tb, e]
        exact q_tb_pb h1
      have H_pt : ph (spM M a b c fr j1 j2 j3 n) (ph M (tw b)) = pv M b := by
        rw [← p_tb]
        show tw (nx (spM M a b c fr j1 j2 j3 n) (ph M (tw b))) = tw (nx M (ph M (tw b)))
        rw [N_o _ ltp pt_t pt_tb pt_a pt_pb]
      have H_pb : ph (spM M a b c fr j1 j2 j3 n) (pv M b) = h1 j2 := by unfold ph; rw [N_pb n0, eA2]
      by_cases y7 : h = h0 j1
      · rw [y7, H_A0, H_pa, H_t]
      by_cases y8 : h = h1 j2
      · rw [y8, H_A2, H_pt, H_pb]
      by_cases y9 : h = pv M (tw a)
      · rw [y9, H_t, H_A0, H_pa]
      by_cases ya : h = ph M a
      · rw [ya, H_pa, H_t, H_A0]
      by_cases yb : h = pv M b
      · rw [yb, H_pb, H_A2, H_pt]
      by_cases yc : h = ph M (tw b)
      · rw [yc, H_pt, H_pb, H_A2]
      have lh : LvH M h := by
        rcases (L h).mp hh with y | (y | y) | (y | y) | (y | y)
        · exact y
        · exact absurd y y7
        · exact absurd y y3
        · exact absurd y y6
        · exact absurd y y8
        · exact absurd y y4
        · exact absurd y y2
      have out : ∀ x, LvH M x → x ≠ a → x ≠ tw b → x ≠ pv M (tw a) → x ≠ ph M a → x ≠ pv M b → x ≠ ph M (tw b) → ph (spM M a b c fr j1 j2 j3 n) x = ph M x ∧ LvH M (ph M x) ∧ ph M x ≠ a ∧ ph M x ≠ tw b ∧ ph M x ≠ pv M (tw a) ∧ ph M x ≠ ph M a ∧ ph M x ≠ pv M b ∧ ph M x ≠ ph M (tw b) := by
        intro x lx x1 x2 x3 x4 x5 x6
        refine ⟨?_, LvH_tw.mpr (J.nl lx), fun e => x3 (inj x _ lx lt (e.trans p_t.symm)), fun e => x5 (inj x _ lx lpb (e.trans p_pb.symm)), fun e => x4 (inj x _ lx lpa (e.trans ppa.symm)), fun e => x1 (inj x a lx la e), fun e => x6 (inj x _ lx ltp (e.trans p_tb.symm)), fun e => x2 (inj x _ lx ltb e)⟩
        unfold ph
        rw [N_o x lx x3 x2 x1 x5]
      obtain ⟨x1, x2, x3, x4, x5, x6, x7, x8⟩ := out h lh y1 y5 y9 ya yb yc
      obtain ⟨u1, u2, u3, u4, u5, u6, u7, u8⟩ := out _ x2 x3 x4 x5 x6 x7 x8
      obtain ⟨v1, _⟩ := out _ u2 u3 u4 u5 u6 u7 u8
      rw [x1, u1, v1]
      exact J.2.2.2.1 h lh
  · rw [Sd] at hd ⊢
    split
    · omega
    · split
      · omega
      · rename_i z1 z2
        rw [if_neg z1, if_neg z2] at hd
        have j5 := J.2.2.2.2.1 d
        by_cases y : 0 < sd M d
        · have := j5 y; omega
        · have w1 : ow M (tw a) ≠ d := fun e => by rw [e] at Xp; omega
          have w2 : ow M (tw b) ≠ d := fun e => by rw [e] at Yp; omega
          rw [b1_f w1, b1_f w2] at hd
          omega
  · have c1 := cWt (lv M) j1 d1
    have c2 := cWt (fu (lv M) j1 true) j2 (by rw [fu_n _ _ (fun e => j12 e.symm)]; exact d2)
    have c3 := cWt (fu (fu (lv M) j1 true) j2 true) j3 (by rw [fu_n _ _ (fun e => j23 e.symm), fu_n _ _ (fun e => j13 e.symm)]; exact d3)
    have c4 := cCf (sd (spM M a b c fr j1 j2 j3 n)) (sd M) fr (by rw [Sd, if_pos rfl]; omega) sf (fun d hd => by
      rw [Sd, if_neg hd]
      by_cases y2 : d = c
      · rw [if_pos y2, y2]; omega
      · rw [if_neg y2]
        by_cases y : 0 < sd M d
        · exact ⟨fun _ => y, fun _ => by omega⟩
        · have w1 : ow M (tw a) ≠ d := fun e => by rw [e] at Xp; omega
          have w2 : ow M (tw b) ≠ d := fun e => by rw [e] at Yp; omega
          rw [b1_f w1, b1_f w2]
          omega)
    have j6 := J.2.2.2.2.2.1
    unfold cWa cCe at j6 ⊢
    rw [Flv]
    omega
  · have half : ∀ w, lv M w = true → (∃ k, k ≤ 99 ∧ ln M w / nI 2 = nI k) ∧ ∃ k, k ≤ 99 ∧ ln M w - ln M w / nI 2 = nI k := by
      intro w hw
      obtain ⟨k, hk, e⟩ := J.2.2.2.2.2.2 w hw
      have e2 : nI k / nI 2 = nI (k / 2) := pk_div (by omega) (by omega) (by omega)
      rw [e, e2]
      exact ⟨⟨k / 2, by omega, rfl⟩, ⟨k - k / 2, by omega, pk_sub (by omega)⟩⟩
    have wab : wl b ≠ wl a := fun e => (wl_eq e).elim (fun q => ab q.symm) (fun q => q_ta_b q.symm)
    have wb1 : wl b ≠ j1 := fun e => by have : lv M (wl b) = true := lb; rw [e, d1] at this; cases this
    have evb : fu (fu (ln M) j1 (ln M (wl a) / nI 2)) (wl a) (ln M (wl a) - ln M (wl a) / nI 2) (wl b) = ln M (wl b) := by rw [fu_n _ _ wab, fu_n _ _ wb1]
    rw [evb] at Fln
    rw [Flv] at hv
    rw [Fln]
    by_cases y3 : v = j3
    · rw [y3, fu_s]; exact ⟨10, by omega, rfl⟩
    rw [fu_n _ _ y3] at hv ⊢
    by_cases yb : v = wl b
    · rw [yb, fu_s]; exact (half _ lb).2
    rw [fu_n _ _ yb]
    by_cases y2 : v = j2
    · rw [y2, fu_s]; exact (half _ lb).1
    rw [fu_n _ _ y2] at hv ⊢
    by_cases ya : v = wl a
    · rw [ya, fu_s]; exact (half _ la).2
    rw [fu_n _ _ ya]
    by_cases y1 : v = j1
    · rw [y1, fu_s]; exact (half _ la).1
    rw [fu_n _ _ y1] at hv ⊢
    exact J.2.2.2.2.2.2 v hv
end CUT
