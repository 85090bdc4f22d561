/-! ===== a wall swapped twice: only the names of its two halves have changed ===== -/
theorem ch6 {β : Type} (h k1 k2 k3 k4 k5 k6 : Hf) (v1 v2 v3 v4 v5 v6 d : β) (n12 : k1 ≠ k2) (n13 : k1 ≠ k3) (n14 : k1 ≠ k4) (n15 : k1 ≠ k5) (n16 : k1 ≠ k6) (n23 : k2 ≠ k3) (n24 : k2 ≠ k4) (n25 : k2 ≠ k5) (n26 : k2 ≠ k6) (n34 : k3 ≠ k4) (n35 : k3 ≠ k5) (n36 : k3 ≠ k6) (n45 : k4 ≠ k5) (n46 : k4 ≠ k6) (n56 : k5 ≠ k6) : (if h = k6 then v6 else if h = k5 then v5 else if h = k4 then v4 else if h = k3 then v3 else if h = k2 then v2 else if h = k1 then v1 else d) = (if h = k1 then v1 else if h = k2 then v2 else if h = k3 then v3 else if h = k4 then v4 else if h = k5 then v5 else if h = k6 then v6 else d) := by
  by_cases e1 : h = k1
  · subst e1
    rw [if_neg n16, if_neg n15, if_neg n14, if_neg n13, if_neg n12, if_pos rfl, if_pos rfl]
  by_cases e2 : h = k2
  · subst e2
    rw [if_neg n26, if_neg n25, if_neg n24, if_neg n23, if_pos rfl, if_neg e1, if_pos rfl]
  by_cases e3 : h = k3
  · subst e3
    rw [if_neg n36, if_neg n35, if_neg n34, if_pos rfl, if_neg e1, if_neg e2, if_pos rfl]
  by_cases e4 : h = k4
  · subst e4
    rw [if_neg n46, if_neg n45, if_pos rfl, if_neg e1, if_neg e2, if_neg e3, if_pos rfl]
  by_cases e5 : h = k5
  · subst e5
    rw [if_neg n56, if_pos rfl, if_neg e1, if_neg e2, if_neg e3, if_neg e4, if_pos rfl]
  by_cases e6 : h = k6
  · rw [if_pos e6, if_neg e1, if_neg e2, if_neg e3, if_neg e4, if_neg e5, if_pos e6]
  simp only [if_neg e1, if_neg e2, if_neg e3, if_neg e4, if_neg e5, if_neg e6]
section RLB
variable {M N M' N' : Ms} {a : Hf} {w : Wa} {S : Wa → Bool}
/-- the cells about a half are four -/
def F4 (M : Ms) (a : Hf) : Prop := LvH M a ∧ ow M a ≠ ow M (tw a) ∧ ow M a ≠ ow M (tw (nx M a)) ∧ ow M a ≠ ow M (tw (nx M (tw a))) ∧ ow M (tw a) ≠ ow M (tw (nx M a)) ∧ ow M (tw a) ≠ ow M (tw (nx M (tw a))) ∧ ow M (tw (nx M a)) ≠ ow M (tw (nx M (tw a)))
theorem F4.tw (F : F4 M a) : F4 M (tw a) := by
  obtain ⟨la, n1, n2, n3, n4, n5, n6⟩ := F
  unfold F4
  rw [tw_tw]
  exact ⟨LvH_tw.mpr la, n1.symm, n5, n4, n3, n2, n6.symm⟩
theorem Inv.f4 (J : Inv M) (hl : lv M w = true) (hc : can M w = true) : F4 M (h0 w) := by
  obtain ⟨_, c3, c4, c5, c6, c7, c8⟩ := can_iff.mp hc
  unfold F4
  rw [tw_h0]
  exact ⟨LvH_h0.mpr hl, c3, c4, c5, c6, c7, c8⟩
/-- whose the eight halves about are -/
theorem Inv.own (J : Inv M) (F : F4 M a) : ow M (nx M a) = ow M a ∧ ow M (pv M a) = ow M a ∧ ow M (nx M (tw a)) = ow M (tw a) ∧ ow M (pv M (tw a)) = ow M (tw a) ∧ ow M (tw (pv M (tw a))) = ow M (tw (nx M a)) ∧ ow M (tw (pv M a)) = ow M (tw (nx M (tw a))) ∧ nx M (tw (nx M a)) = tw (pv M (tw a)) ∧ nx M (tw (nx M (tw a))) = tw (pv M a) := by
  have la := F.1
  have lb : LvH M (tw a) := LvH_tw.mpr la
  have m1 := J.meet la
  have m2 := J.meet lb
  rw [tw_tw] at m2
  refine ⟨J.on la, J.op la, J.on lb, J.op lb, ?_, ?_, m1, m2⟩
  · rw [← m1]
    exact J.on (LvH_tw.mpr (J.nl la))
  · rw [← m2]
    exact J.on (LvH_tw.mpr (J.nl lb))
def FlS (a : Hf) (M N : Ms) : Prop := lv N = lv M
  ∧ (∀ h, nx N h = (if h = pv M a then nx M a else if h = pv M (tw a) then nx M (tw a) else if h = tw (nx M a) then a else if h = a then tw (pv M (tw a)) else if h = tw (nx M (tw a)) then tw a else if h = tw a then tw (pv M a) else nx M h))
  ∧ (∀ h, pv N h = (if h = nx M a then pv M a else if h = nx M (tw a) then pv M (tw a) else if h = a then tw (nx M a) else if h = tw (pv M (tw a)) then a else if h = tw a then tw (nx M (tw a)) else if h = tw (pv M a) then tw a else pv M h))
  ∧ (∀ h, ow N h = (if h = a then ow M (tw (nx M a)) else if h = tw a then ow M (tw (nx M (tw a))) else ow M h))
  ∧ (∀ c, sd N c = (if c = ow M a then sd M c - 1 else if c = ow M (tw a) then sd M c - 1 else if c = ow M (tw (nx M a)) then sd M c + 1 else if c = ow M (tw (nx M (tw a))) then sd M c + 1 else sd M c))
theorem Inv.dnx (J : Inv M) (F : F4 M a) : pv M a ≠ pv M (tw a) ∧ pv M a ≠ tw (nx M a) ∧ pv M a ≠ a ∧ pv M a ≠ tw (nx M (tw a)) ∧ pv M a ≠ tw a ∧ pv M (tw a) ≠ tw (nx M a) ∧ pv M (tw a) ≠ a ∧ pv M (tw a) ≠ tw (nx M (tw a)) ∧ pv M (tw a) ≠ tw a ∧ tw (nx M a) ≠ a ∧ tw (nx M a) ≠ tw (nx M (tw a)) ∧ tw (nx M a) ≠ tw a ∧ a ≠ tw (nx M (tw a)) ∧ a ≠ tw a ∧ tw (nx M (tw a)) ≠ tw a := by
  obtain ⟨o1, o2, o3, o4, o5, o6, _, _⟩ := J.own F
  obtain ⟨la, n1, n2, n3, n4, n5, n6⟩ := F
  have lb : LvH M (tw a) := LvH_tw.mpr la
  refine ⟨fun e => n1 ?_, fun e => n2 ?_, J.pne la, fun e => n3 ?_, fun e => n1 ?_, fun e => n4 ?_, fun e => n1 ?_, fun e => n5 ?_, J.pne lb, fun e => n2 ?_, fun e => n6 (by rw [e]), fun e => n4 ?_, fun e => n3 ?_, fun e => tw_ne a e.symm, fun e => n5 ?_⟩
  · rw [← o2, e, o4]
  · rw [← o2, e]
  · rw [← o2, e]
  · rw [← o2, e]
  · rw [← o4, e]
  · rw [← o4, e]
  · rw [← o4, e]
  · rw [e]
  · rw [e]
  · exact congrArg (ow M) e
  · rw [e]
theorem Inv.dpv (J : Inv M) (F : F4 M a) : nx M a ≠ nx M (tw a) ∧ nx M a ≠ a ∧ nx M a ≠ tw (pv M (tw a)) ∧ nx M a ≠ tw a ∧ nx M a ≠ tw (pv M a) ∧ nx M (tw a) ≠ a ∧ nx M (tw a) ≠ tw (pv M (tw a)) ∧ nx M (tw a) ≠ tw a ∧ nx M (tw a) ≠ tw (pv M a) ∧ a ≠ tw (pv M (tw a)) ∧ a ≠ tw a ∧ a ≠ tw (pv M a) ∧ tw (pv M (tw a)) ≠ tw a ∧ tw (pv M (tw a)) ≠ tw (pv M a) ∧ tw a ≠ tw (pv M a) := by
  obtain ⟨o1, o2, o3, o4, o5, o6, _, _⟩ := J.own F
  obtain ⟨la, n1, n2, n3, n4, n5, n6⟩ := F
  have lb : LvH M (tw a) := LvH_tw.mpr la
  refine ⟨fun e => n1 ?_, J.nne la, fun e => n2 ?_, fun e => n1 ?_, fun e => n3 ?_, fun e => n1 ?_, fun e => n4 ?_, J.nne lb, fun e => n5 ?_, fun e => n2 ?_, fun e => tw_ne a e.symm, fun e => n3 ?_, fun e => n4 ?_, fun e => n6 ?_, fun e => n5 ?_⟩
  · rw [← o1, e, o3]
  · exact o1.symm.trans ((congrArg (ow M) e).trans o5)
  · rw [← o1, e]
  · exact o1.symm.trans ((congrArg (ow M) e).trans o6)
  · rw [← o3, e]
  · exact o3.symm.trans ((congrArg (ow M) e).trans o5)
  · exact o3.symm.trans ((congrArg (ow M) e).trans o6)
  · exact (congrArg (ow M) e).trans o5
  · exact (congrArg (ow M) e).trans o6
  · exact (congrArg (ow M) e).symm.trans o5
  · exact o5.symm.trans ((congrArg (ow M) e).trans o6)
  · exact (congrArg (ow M) e).trans o6
theorem FlS.of (J : Inv M) (hl : lv M w = true) (hc : can M w = true) : FlS (h0 w) M (flM M w) := by
  have F := J.f4 hl hc
  have D := J.dnx F
  have E := J.dpv F
  have la := F.1
  have F1 := F
  unfold F4 at F1
  rw [tw_h0] at D E F1
  obtain ⟨d1, d2, d3, d4, d5, d6, d7, d8, d9, d10, d11, d12, d13, d14, d15⟩ := D
  obtain ⟨e1, e2, e3, e4, e5, e6, e7, e8, e9, e10, e11, e12, e13, e14, e15⟩ := E
  obtain ⟨_, n1, n2, n3, n4, n5, n6⟩ := F1
  have r5 : tw (nx M (h1 w)) ≠ h0 w := d13.symm
  unfold FlS
  rw [tw_h0]
  refine ⟨flM_lv M w, fun h => ?_, fun h => ?_, fun h => ?_, fun c => ?_⟩
  · rw [flM_nx M w d3 d5 e4]
    unfold fu
    exact ch6 h _ _ _ _ _ _ _ _ _ _ _ _ _ d1 d2 d3 d4 d5 d6 d7 d8 d9 d10 d11 d12 d13 d14 d15
  · rw [flM_pv M w d3 d5 e4 d9]
    unfold fu
    exact ch6 h _ _ _ _ _ _ _ _ _ _ _ _ _ e1 e2 e3 e4 e5 e6 e7 e8 e9 e10 e11 e12 e13 e14 e15
  · rw [flM_ow, fu_n (ow M) _ r5]
    unfold fu
    by_cases z : h = h0 w
    · rw [if_neg (fun q => d14 (z.symm.trans q)), if_pos z, if_pos z]
    · by_cases y : h = h1 w
      · rw [if_pos y, if_neg z, if_pos y]
      · rw [if_neg y, if_neg z, if_neg z, if_neg y]
  · rw [flM_sd, fu_n (ow M) _ r5]
    by_cases z1 : c = ow M (h0 w)
    · rw [if_pos z1, z1, fu_n _ _ n3, fu_n _ _ n2, fu_n _ _ n1, fu_s]
    · rw [if_neg z1]
      by_cases z2 : c = ow M (h1 w)
      · rw [if_pos z2, z2, fu_n _ _ n5, fu_n _ _ n4, fu_s, fu_n _ _ n1.symm]
      · rw [if_neg z2]
        by_cases z3 : c = ow M (tw (nx M (h0 w)))
        · rw [if_pos z3, z3, fu_n _ _ n6, fu_s, fu_n _ _ n4.symm, fu_n _ _ n2.symm]
        · rw [if_neg z3]
          by_cases z4 : c = ow M (tw (nx M (h1 w)))
          · rw [if_pos z4, z4, fu_s, fu_n _ _ n6.symm, fu_n _ _ n5.symm, fu_n _ _ n3.symm]
          · rw [if_neg z4, fu_n _ _ z4, fu_n _ _ z3, fu_n _ _ z2, fu_n _ _ z1]
end RLB
