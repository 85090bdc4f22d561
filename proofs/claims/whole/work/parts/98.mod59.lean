section RLD
variable {M N M' N' K T : Ms} {a : Hf} {w : Wa} {S S' : Wa → Bool} {c : Ce} {n : Int32}
/-- what is next after a swap -/
theorem FlS.nxv (J : Inv M) (F : F4 M a) (H : FlS a M N) : nx N (pv M a) = nx M a ∧ nx N (pv M (tw a)) = nx M (tw a) ∧ nx N (tw (nx M a)) = a ∧ nx N a = tw (pv M (tw a)) ∧ nx N (tw (nx M (tw a))) = tw a ∧ nx N (tw a) = tw (pv M a) ∧ (∀ h, h ≠ pv M a → h ≠ pv M (tw a) → h ≠ tw (nx M a) → h ≠ a → h ≠ tw (nx M (tw a)) → h ≠ tw a → nx N h = nx M h) := by
  obtain ⟨d1, d2, d3, d4, d5, d6, d7, d8, d9, d10, d11, d12, d13, d14, d15⟩ := J.dnx F
  have hn := H.2.1
  refine ⟨?_, ?_, ?_, ?_, ?_, ?_, fun h z1 z2 z3 z4 z5 z6 => ?_⟩
  · rw [hn, if_pos rfl]
  · rw [hn, if_neg d1.symm, if_pos rfl]
  · rw [hn, if_neg d2.symm, if_neg d6.symm, if_pos rfl]
  · rw [hn, if_neg d3.symm, if_neg d7.symm, if_neg d10.symm, if_pos rfl]
  · rw [hn, if_neg d4.symm, if_neg d8.symm, if_neg d11.symm, if_neg d13.symm, if_pos rfl]
  · rw [hn, if_neg d5.symm, if_neg d9.symm, if_neg d12.symm, if_neg d14.symm, if_neg d15.symm, if_pos rfl]
  · rw [hn, if_neg z1, if_neg z2, if_neg z3, if_neg z4, if_neg z5, if_neg z6]
theorem FlS.pvv (J : Inv M) (F : F4 M a) (H : FlS a M N) : pv N (nx M a) = pv M a ∧ pv N (nx M (tw a)) = pv M (tw a) ∧ pv N a = tw (nx M a) ∧ pv N (tw (pv M (tw a))) = a ∧ pv N (tw a) = tw (nx M (tw a)) ∧ pv N (tw (pv M a)) = tw a ∧ (∀ h, h ≠ nx M a → h ≠ nx M (tw a) → h ≠ a → h ≠ tw (pv M (tw a)) → h ≠ tw a → h ≠ tw (pv M a) → pv N h = pv M h) := by
  obtain ⟨d1, d2, d3, d4, d5, d6, d7, d8, d9, d10, d11, d12, d13, d14, d15⟩ := J.dpv F
  have hn := H.2.2.1
  refine ⟨?_, ?_, ?_, ?_, ?_, ?_, fun h z1 z2 z3 z4 z5 z6 => ?_⟩
  · rw [hn, if_pos rfl]
  · rw [hn, if_neg d1.symm, if_pos rfl]
  · rw [hn, if_neg d2.symm, if_neg d6.symm, if_pos rfl]
  · rw [hn, if_neg d3.symm, if_neg d7.symm, if_neg d10.symm, if_pos rfl]
  · rw [hn, if_neg d4.symm, if_neg d8.symm, if_neg d11.symm, if_neg d13.symm, if_pos rfl]
  · rw [hn, if_neg d5.symm, if_neg d9.symm, if_neg d12.symm, if_neg d14.symm, if_neg d15.symm, if_pos rfl]
  · rw [hn, if_neg z1, if_neg z2, if_neg z3, if_neg z4, if_neg z5, if_neg z6]
theorem FlS.twice (J : Inv M) (F : F4 M a) (H : FlS a M N) (J2 : Inv N) (F2 : F4 N a) (H2 : FlS a N N') : Rl (fun w => decide (w = wl a)) M N' := by
  obtain ⟨d1, d2, d3, d4, d5, d6, d7, d8, d9, d10, d11, d12, d13, d14, d15⟩ := J.dnx F
  obtain ⟨e1, e2, e3, e4, e5, e6, e7, e8, e9, e10, e11, e12, e13, e14, e15⟩ := J.dpv F
  obtain ⟨o1, o2, o3, o4, o5, o6, m1, m2⟩ := J.own F
  obtain ⟨p1, p2, p3, p4, p5, p6, p7⟩ := H.nxv J F
  obtain ⟨r1, r2, r3, r4, r5, r6, r7⟩ := H.pvv J F
  obtain ⟨s1, s2, s3, s4, s5, s6, s7⟩ := H2.nxv J2 F2
  obtain ⟨t1, t2, t3, t4, t5, t6, t7⟩ := H2.pvv J2 F2
  simp only [p4, p6, r3, r5, tw_tw] at s1 s2 s3 s4 s5 s6 s7 t1 t2 t3 t4 t5 t6 t7
  obtain ⟨la, n1, n2, n3, n4, n5, n6⟩ := F
  have lb : LvH M (tw a) := LvH_tw.mpr la
  have hs : ∀ h, h ≠ a → h ≠ tw a → sg (fun w => decide (w = wl a)) h = h := fun h z1 z2 => by
    unfold sg
    rw [if_neg]
    intro q
    rcases wl_eq (of_decide_eq_true q) with y | y
    · exact z1 y
    · exact z2 y
  have ha : sg (fun w => decide (w = wl a)) a = tw a := by
    unfold sg
    rw [if_pos (decide_eq_true rfl)]
  have hb : sg (fun w => decide (w = wl a)) (tw a) = a := by rw [sg_tw, ha, tw_tw]
  have ho := H.2.2.2.1
  have ho2 := H2.2.2.2.1
  rw [p4, p6, tw_tw, tw_tw] at ho2
  have oN1 : ow N (pv M (tw a)) = ow M (tw a) := by rw [ho, if_neg d7, if_neg d9, o4]
  have oN2 : ow N (pv M a) = ow M a := by rw [ho, if_neg d3, if_neg d5, o2]
  refine ⟨H2.1.trans H.1, ?_, fun h lh => ?_⟩
  · funext c
    have hs1 := H.2.2.2.2 c
    have hs2 := H2.2.2.2.2 c
    have oa : ow N a = ow M (tw (nx M a)) := by rw [ho, if_pos rfl]
    have ob : ow N (tw a) = ow M (tw (nx M (tw a))) := by rw [ho, if_neg d14.symm, if_pos rfl]
    rw [p4, p6, tw_tw, tw_tw, oN1, oN2, oa, ob] at hs2
    have pA := J.pos la
    have pB := J.pos lb
    rw [hs2, hs1]
    by_cases z1 : c = ow M a
    · subst z1
      rw [if_neg n2, if_neg n3, if_neg n1, if_pos rfl, if_pos rfl]
      omega
    by_cases z2 : c = ow M (tw a)
    · subst z2
      rw [if_neg n4, if_neg n5, if_pos rfl, if_neg n1.symm, if_pos rfl]
      omega
    rw [if_neg z1, if_neg z2]
    by_cases z3 : c = ow M (tw (nx M a))
    · rw [if_pos z3, if_pos z3]
      omega
    by_cases z4 : c = ow M (tw (nx M (tw a)))
    · rw [if_neg z3, if_pos z4, if_neg z3, if_pos z4]
      omega
    rw [if_neg z3, if_neg z4, if_neg z2, if_neg z1, if_neg z3, if_neg z4]
  · by_cases z1 : h = a
    · subst z1
      rw [ha, s6, t5, ho2, if_neg d14.symm, if_pos rfl, oN2, hs _ e2 e4, hs _ d3 d5]
      exact ⟨rfl, rfl, rfl⟩
    by_cases z2 : h = tw a
    · subst z2
      rw [hb, s4, t3, ho2, if_pos rfl, oN1, hs _ e6 e8, hs _ d7 d9]
      exact ⟨rfl, rfl, rfl⟩
    rw [hs h z1 z2]
    refine ⟨?_, ?_, ?_⟩
    · rw [ho2, if_neg z1, if_neg z2, ho, if_neg z1, if_neg z2]
    · by_cases y1 : h = pv M a
      · subst y1
        rw [s5, J.np la, ha]
      by_cases y2 : h = pv M (tw a)
      · subst y2
        rw [s3, J.np lb, hb]
      have ne1 : nx M h ≠ a := fun q => y1 (by rw [← q, J.pn lh])
      have ne2 : nx M h ≠ tw a := fun q => y2 (by rw [← q, J.pn lh])
      rw [hs _ ne1 ne2]
      by_cases y3 : h = tw (nx M a)
      · subst y3
        rw [s1, m1]
      by_cases y4 : h = tw (nx M (tw a))
      · subst y4
        rw [s2, m2]
      rw [s7 h y3 y4 y2 z1 y1 z2]
      exact p7 h y1 y2 y3 z1 y4 z2
    · by_cases y1 : h = nx M a
      · subst y1
        rw [t6, J.pn la, ha]
      by_cases y2 : h = nx M (tw a)
      · subst y2
        rw [t4, J.pn lb, hb]
      have ne1 : pv M h ≠ a := fun q => y1 (by rw [← q, J.np lh])
      have ne2 : pv M h ≠ tw a := fun q => y2 (by rw [← q, J.np lh])
      rw [hs _ ne1 ne2]
      by_cases y3 : h = tw (pv M (tw a))
      · subst y3
        rw [t1, ← m1, J.pn (LvH_tw.mpr (J.nl la))]
      by_cases y4 : h = tw (pv M a)
      · subst y4
        rw [t2, ← m2, J.pn (LvH_tw.mpr (J.nl lb))]
      rw [t7 h y3 y4 z1 y2 z2 y1]
      exact r7 h y1 y2 z1 y3 z2 y4
end RLD
