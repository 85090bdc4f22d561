section VAN2
variable {M : Ms} {c : Ce}
theorem Inv.va (J : Inv M) {u0 u1 u2 : Hf} (l0 : LvH M u0) (l1 : LvH M u1) (l2 : LvH M u2) (t0 : ow M (tw u0) = c) (t1 : ow M (tw u1) = c) (t2 : ow M (tw u2) = c) (hall : ∀ g, LvH M g → ow M g = c → g = tw u0 ∨ g = tw u1 ∨ g = tw u2) (d01 : ow M u0 ≠ ow M u1) (d02 : ow M u0 ≠ ow M u2) (d12 : ow M u1 ≠ ow M u2) (s0 : 3 < sd M (ow M u0)) (s1 : 3 < sd M (ow M u1)) (s2 : 3 < sd M (ow M u2)) (hcyc : (tw (nx M u0) = pv M u1 ∧ tw (nx M u1) = pv M u2 ∧ tw (nx M u2) = pv M u0) ∨ (tw (nx M u0) = pv M u2 ∧ tw (nx M u2) = pv M u1 ∧ tw (nx M u1) = pv M u0)) : Inv (vaM M c u0 u1 u2) := by
  have c0 : ow M u0 ≠ c := fun e => J.2.2.1 u0 l0 (t0.trans e.symm)
  have c1 : ow M u1 ≠ c := fun e => J.2.2.1 u1 l1 (t1.trans e.symm)
  have c2 : ow M u2 ≠ c := fun e => J.2.2.1 u2 l2 (t2.trans e.symm)
  have n01 : u0 ≠ u1 := fun e => d01 (by rw [e])
  have n02 : u0 ≠ u2 := fun e => d02 (by rw [e])
  have n12 : u1 ≠ u2 := fun e => d12 (by rw [e])
  have w01 : wl u1 ≠ wl u0 := fun e => (wl_eq e).elim (fun z => n01 z.symm) (fun z => c1 (by rw [z, t0]))
  have w02 : wl u2 ≠ wl u0 := fun e => (wl_eq e).elim (fun z => n02 z.symm) (fun z => c2 (by rw [z, t0]))
  have w12 : wl u2 ≠ wl u1 := fun e => (wl_eq e).elim (fun z => n12 z.symm) (fun z => c2 (by rw [z, t1]))
  obtain ⟨F1, F2, F3, F4, F5, F6⟩ := vaM_f M c u0 u1 u2
  -- the links step by step
  have x1 : nx (shS M u0) u1 = nx M u1 := by rw [shS_nx, fu_n _ _ (fun e => d01 (by rw [e, J.op l0]))]
  have y1 : pv (shS M u0) u1 = pv M u1 := by rw [shS_pv _ _ (J.pne l0), fu_n _ _ (fun e => d01 (by rw [e, J.on l0]))]
  have x2 : nx (shS M u0) u2 = nx M u2 := by rw [shS_nx, fu_n _ _ (fun e => d02 (by rw [e, J.op l0]))]
  have y2 : pv (shS M u0) u2 = pv M u2 := by rw [shS_pv _ _ (J.pne l0), fu_n _ _ (fun e => d02 (by rw [e, J.on l0]))]
  have p1 : pv (shS M u0) u1 ≠ u1 := by rw [y1]; exact J.pne l1
  have x3 : nx (shS (shS M u0) u1) u2 = nx M u2 := by rw [shS_nx, y1, fu_n _ _ (fun e => d12 (by rw [e, J.op l1])), x2]
  have y3 : pv (shS (shS M u0) u1) u2 = pv M u2 := by rw [shS_pv _ _ p1, x1, fu_n _ _ (fun e => d12 (by rw [e, J.on l1])), y2]
  have N : nx (vaM M c u0 u1 u2) = fu (fu (fu (nx M) (pv M u0) (nx M u0)) (pv M u1) (nx M u1)) (pv M u2) (nx M u2) := by
    rw [F3, shS_nx, y3, x3, shS_nx, y1, x1, shS_nx]
  have Lv : lv (vaM M c u0 u1 u2) = fu (fu (fu (lv M) (wl u0) false) (wl u1) false) (wl u2) false := by
    rw [F1, shS_lv, shS_lv, shS_lv]
  have L : ∀ g, LvH (vaM M c u0 u1 u2) g ↔ (((LvH M g ∧ g ≠ u0) ∧ g ≠ u1) ∧ g ≠ u2) ∧ ow M g ≠ c := by
    intro g
    unfold LvH
    rw [Lv]
    constructor
    · intro hg
      have z2 : wl g ≠ wl u2 := fun e => by rw [e, fu_s] at hg; cases hg
      rw [fu_n _ _ z2] at hg
      have z1 : wl g ≠ wl u1 := fun e => by rw [e, fu_s] at hg; cases hg
      rw [fu_n _ _ z1] at hg
      have z0 : wl g ≠ wl u0 := fun e => by rw [e, fu_s] at hg; cases hg
      rw [fu_n _ _ z0] at hg
      refine ⟨⟨⟨⟨hg, fun e => z0 (by rw [e])⟩, fun e => z1 (by rw [e])⟩, fun e => z2 (by rw [e])⟩, fun e => ?_⟩
      rcases hall g hg e with q | q | q
      · exact z0 (by rw [q, wl_tw])
      · exact z1 (by rw [q, wl_tw])
      · exact z2 (by rw [q, wl_tw])
    · rintro ⟨⟨⟨⟨hg, z0⟩, z1⟩, z2⟩, zc⟩
      rw [fu_n _ _ (fun e => (wl_eq e).elim z2 (fun q => zc (by rw [q, t2]))), fu_n _ _ (fun e => (wl_eq e).elim z1 (fun q => zc (by rw [q, t1]))), fu_n _ _ (fun e => (wl_eq e).elim z0 (fun q => zc (by rw [q, t0])))]
      exact hg
  have CY : Cy (LvH (vaM M c u0 u1 u2)) (nx (vaM M c u0 u1 u2)) (pv (vaM M c u0 u1 u2)) (ow (vaM M c u0 u1 u2)) := by
    have C1 := J.1.sh l0 (J.nne l0)
    have C2 := C1.sh (u := u1) ⟨l1, n01.symm⟩ (by rw [x1]; exact J.nne l1)
    have C3 := C2.sh (u := u2) ⟨⟨l2, n02.symm⟩, n12.symm⟩ (by rw [x3]; exact J.nne l2)
    have C4 := C3.res c
    rw [F2, F3, F4]
    exact C4.cg L (fun _ _ => rfl) (fun _ _ => rfl) (fun _ _ => rfl)
  have Sd : ∀ d, sd (vaM M c u0 u1 u2) d = if d = c then 0 else if d = ow M u0 then sd M (ow M u0) - 1 else if d = ow M u1 then sd M (ow M u1) - 1 else if d = ow M u2 then sd M (ow M u2) - 1 else sd M d := by
    intro d
    rw [F5, shS_sd, shS_ow, shS_ow, shS_sd, shS_ow, shS_sd]
    by_cases zc : d = c
    · rw [if_pos zc, zc, fu_s]
    · rw [if_neg zc, fu_n _ _ zc]
      by_cases z0 : d = ow M u0
      · rw [if_pos z0, z0, fu_n _ _ d02, fu_n _ _ d01, fu_s]
      · rw [if_neg z0]
        by_cases z1 : d = ow M u1
        · rw [if_pos z1, z1, fu_n _ _ d12, fu_s, fu_n _ _ d01.symm]
        · rw [if_neg z1]
          by_cases z2 : d = ow M u2
          · rw [if_pos z2, z2, fu_s, fu_n _ _ d12.symm, fu_n _ _ d02.symm]
          · rw [if_neg z2, fu_n _ _ z2, fu_n _ _ z1, fu_n _ _ z0]
  refine ⟨CY, fun d => ?_, fun g hg => ?_, fun g hg => ?_, fun d hd => ?_, ?_, fun v hv => ?_⟩
  · rw [Sd]
    by_cases zc : d = c
    · rw [if_pos zc, cH_none]
      intro g
      cases e : fib (vaM M c u0 u1 u2) d g with
      | false => rfl
      | true =>
        obtain ⟨e1, e2⟩ := fib_iff.mp e
        rw [F2] at e2
        exact absurd (e2.trans zc) ((L g).mp e1).2
    · rw [if_neg zc]
      have k1 := cH_rm (fib M d) u0
      have k2 := cH_rm (fun g => fib M d g && decide (g ≠ u0)) u1
      have k3 := cH_rm (fun g => (fib M d g && decide (g ≠ u0)) && decide (g ≠ u1)) u2
      have f0 : fib M d u0 = decide (ow M u0 = d) := by unfold fib; rw [show lv M (wl u0) = true from l0, Bool.true_and]
      have f1 : fib M d u1 = decide (ow M u1 = d) := by unfold fib; rw [show lv M (wl u1) = true from l1, Bool.true_and]
      have f2 : fib M d u2 = decide (ow M u2 = d) := by unfold fib; rw [show lv M (wl u2) = true from l2, Bool.true_and]
      rw [f0] at k1
      rw [f1, decide_eq_true (n01.symm), Bool.and_true] at k2
      rw [f2, decide_eq_true (n02.symm), decide_eq_true (n12.symm), Bool.and_true, Bool.and_true] at k3
      have ef : cH (fib (vaM M c u0 u1 u2) d) = cH (fun g => ((fib M d g && decide (g ≠ u0)) && decide (g ≠ u1)) && decide (g ≠ u2)) := by
        refine cH_congr (fun g => ?_)
        rw [Bool.eq_iff_iff, fib_iff, L, F2]
        simp only [Bool.and_eq_true, decide_eq_true_iff, fib_iff]
        constructor
        · rintro ⟨⟨⟨⟨⟨a, b⟩, e⟩, f⟩, _⟩, k⟩
          exact ⟨⟨⟨⟨a, k⟩, b⟩, e⟩, f⟩
        · rintro ⟨⟨⟨⟨a, k⟩, b⟩, e⟩, f⟩
          exact ⟨⟨⟨⟨⟨a, b⟩, e⟩, f⟩, fun q => zc (k.symm.trans q)⟩, k⟩
      rw [ef]
      have k0 := J.2.1 d
      by_cases z0 : d = ow M u0
      · rw [if_pos z0]
        rw [b1_t z0.symm] at k1
        rw [b1_f (fun e => d01 (z0.symm.trans e.symm))] at k2
        rw [b1_f (fun e => d02 (z0.symm.trans e.symm))] at k3
        rw [← z0]
        omega
      · rw [if_neg z0]
        rw [b1_f (fun e => z0 e.symm)] at k1
        by_cases z1 : d = ow M u1
        · rw [if_pos z1]
          rw [b1_t z1.symm] at k2
          rw [b1_f (fun e => d12 (z1.symm.trans e.symm))] at k3
          rw [← z1]
          omega
        · rw [if_neg z1]
          rw [b1_f (fun e => z1 e.symm)] at k2
          by_cases z2 : d = ow M u2
          · rw [if_pos z2]
            rw [b1_t z2.symm] at k3
            rw [← z2]
            omega
          · rw [if_neg z2]
            rw [b1_f (fun e => z2 e.symm)] at k3
            omega
  · rw [F2]
    exact J.2.2.1 g ((L g).mp hg).1.1.1.1
  · have Np0 : nx (vaM M c u0 u1 u2) (pv M u0) = nx M u0 := by rw [N, fu_n _ _ (fun e => d02 (by rw [← J.op l0, e, J.op l2])), fu_n _ _ (fun e => d01 (by rw [← J.op l0, e, J.op l1])), fu_s]
    have Np1 : nx (vaM M c u0 u1 u2) (pv M u1) = nx M u1 := by rw [N, fu_n _ _ (fun e => d12 (by rw [← J.op l1, e, J.op l2])), fu_s]
    have Np2 : nx (vaM M c u0 u1 u2) (pv M u2) = nx M u2 := by rw [N, fu_s]
    have Nx : ∀ g, g ≠ pv M u0 → g ≠ pv M u1 → g ≠ pv M u2 → nx (vaM M c u0 u1 u2) g = nx M g := fun g g0 g1 g2 => by rw [N, fu_n _ _ g2, fu_n _ _ g1, fu_n _ _ g0]
    have q0 : ph (vaM M c u0 u1 u2) (pv M u0) = tw (nx M u0) := by unfold ph; rw [Np0]
    have q1 : ph (vaM M c u0 u1 u2) (pv M u1) = tw (nx M u1) := by unfold ph; rw [Np1]
    have q2 : ph (vaM M c u0 u1 u2) (pv M u2) = tw (nx M u2) := by unfold ph; rw [Np2]
    by_cases g0 : g = pv M u0
    · rw [g0, q0]
      rcases hcyc with ⟨e0, e1, e2⟩ | ⟨e0, e1, e2⟩
      · rw [e0, q1, e1, q2, e2]
      · rw [e0, q2, e1, q1, e2]
    by_cases g1 : g = pv M u1
    · rw [g1, q1]
      rcases hcyc with ⟨e0, e1, e2⟩ | ⟨e0, e1, e2⟩
      · rw [e1, q2, e2, q0, e0]
      · rw [e2, q0, e0, q2, e1]
    by_cases g2 : g = pv M u2
    · rw [g2, q2]
      rcases hcyc with ⟨e0, e1, e2⟩ | ⟨e0, e1, e2⟩
      · rw [e2, q0, e0, q1, e1]
      · rw [e1, q1, e2, q0, e0]
    have inj : ∀ u v, LvH M u → LvH M v → ph M u = ph M v → u = v := fun u v lu lv_ e => J.1.inj lu lv_ (tw_inj e)
    have pre : ∀ x, LvH M x → (ph M x = pv M u0 ∨ ph M x = pv M u1 ∨ ph M x = pv M u2) → x = u0 ∨ x = u1 ∨ x = u2 := by
      intro x lx hx
      rcases hcyc with ⟨e0, e1, e2⟩ | ⟨e0, e1, e2⟩
      · rcases hx with e | e | e
        · exact Or.inr (Or.inr (inj x u2 lx l2 (e.trans e2.symm)))
        · exact Or.inl (inj x u0 lx l0 (e.trans e0.symm))
        · exact Or.inr (Or.inl (inj x u1 lx l1 (e.trans e1.symm)))
      · rcases hx with e | e | e
        · exact Or.inr (Or.inl (inj x u1 lx l1 (e.trans e2.symm)))
        · exact Or.inr (Or.inr (inj x u2 lx l2 (e.trans e1.symm)))
        · exact Or.inl (inj x u0 lx l0 (e.trans e0.symm))
    have out : ∀ x, LvH (vaM M c u0 u1 u2) x → x ≠ pv M u0 → x ≠ pv M u1 → x ≠ pv M u2 → ph (vaM M c u0 u1 u2) x = ph M x ∧ LvH (vaM M c u0 u1 u2) (ph M x) ∧ ph M x ≠ pv M u0 ∧ ph M x ≠ pv M u1 ∧ ph M x ≠ pv M u2 := by
      intro x lx g0 g1 g2
      obtain ⟨⟨⟨⟨a, b⟩, e⟩, f⟩, k⟩ := (L x).mp lx
      have no : ¬ (x = u0 ∨ x = u1 ∨ x = u2) := fun z => by
        rcases z with z | z | z
        · exact b z
        · exact e z
        · exact f z
      have e1 : ph (vaM M c u0 u1 u2) x = ph M x := by unfold ph; rw [Nx x g0 g1 g2]
      refine ⟨e1, ?_, fun z => no (pre x a (Or.inl z)), fun z => no (pre x a (Or.inr (Or.inl z))), fun z => no (pre x a (Or.inr (Or.inr z)))⟩
      have := (CY.1 x lx).1
      rw [← e1]
      exact LvH_tw.mpr this
    obtain ⟨x1, x2, x3, x4, x5⟩ := out g hg g0 g1 g2
    obtain ⟨y1, y2, y3, y4, y5⟩ := out _ x2 x3 x4 x5
    obtain ⟨z1, _⟩ := out _ y2 y3 y4 y5
    rw [x1, y1, z1]
    exact J.2.2.2.1 g ((L g).mp hg).1.1.1.1
  · have j5 := J.2.2.2.2.1 d
    rw [Sd] at hd ⊢
    by_cases zc : d = c
    · rw [if_pos zc] at hd; omega
    · rw [if_neg zc] at hd ⊢
      by_cases z0 : d = ow M u0
      · rw [if_pos z0]; omega
      · rw [if_neg z0] at hd ⊢
        by_cases z1 : d = ow M u1
        · rw [if_pos z1]; omega
        · rw [if_neg z1] at hd ⊢
          by_cases z2 : d = ow M u2
          · rw [if_pos z2]; omega
          · rw [if_neg z2] at hd ⊢
            exact j5 hd
  · have k1 := cWf (lv M) (wl u0) l0
    have k2 := cWf (fu (lv M) (wl u0) false) (wl u1) (by rw [fu_n _ _ w01]; exact l1)
    have k3 := cWf (fu (fu (lv M) (wl u0) false) (wl u1) false) (wl u2) (by rw [fu_n _ _ w12, fu_n _ _ w02]; exact l2)
    have pc : 0 < sd M c := by
      have := J.owl _ (LvH_tw.mpr l0 : LvH M (tw u0))
      rw [t0] at this
      exact this
    have k4 := cCf (sd M) (sd (vaM M c u0 u1 u2)) c pc (by rw [Sd, if_pos rfl]) (fun d hd => by
      rw [Sd, if_neg hd]
      split
      · rename_i z; rw [z]; omega
      · split
        · rename_i z; rw [z]; omega
        · split
          · rename_i z; rw [z]; omega
          · exact Iff.rfl)
    have j6 := J.2.2.2.2.2.1
    unfold cWa cCe at j6 ⊢
    rw [Lv]
    omega
  · rw [F6]
    refine J.2.2.2.2.2.2 v ?_
    rw [Lv] at hv
    have z2 : v ≠ wl u2 := fun e => by rw [e, fu_s] at hv; cases hv
    rw [fu_n _ _ z2] at hv
    have z1 : v ≠ wl u1 := fun e => by rw [e, fu_s] at hv; cases hv
    rw [fu_n _ _ z1] at hv
    have z0 : v ≠ wl u0 := fun e => by rw [e, fu_s] at hv; cases hv
    rw [fu_n _ _ z0] at hv
    exact hv
end VAN2
