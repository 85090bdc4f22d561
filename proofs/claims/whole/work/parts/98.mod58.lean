section RLC
variable {M N M' N' K : Ms} {a : Hf} {w : Wa} {S S' : Wa → Bool}
theorem FlS.symm (J : Inv M) (F : F4 M a) (H : FlS a M N) : FlS (tw a) M N := by
  obtain ⟨d1, d2, d3, d4, d5, d6, d7, d8, d9, d10, d11, d12, d13, d14, d15⟩ := J.dnx F
  obtain ⟨e1, e2, e3, e4, e5, e6, e7, e8, e9, e10, e11, e12, e13, e14, e15⟩ := J.dpv F
  obtain ⟨_, n1, n2, n3, n4, n5, n6⟩ := F
  obtain ⟨hl, hn, hp, ho, hs⟩ := H
  have two : ∀ {α β : Type} [DecidableEq α] (h k1 k2 : α) (v1 v2 d : β), k1 ≠ k2 → (if h = k1 then v1 else if h = k2 then v2 else d) = (if h = k2 then v2 else if h = k1 then v1 else d) := fun h k1 k2 v1 v2 d ne => by
    by_cases z : h = k1
    · rw [if_pos z, if_neg (fun q => ne (z.symm.trans q)), if_pos z]
    · rw [if_neg z, if_neg z]
  refine ⟨hl, fun h => ?_, fun h => ?_, fun h => ?_, fun c => ?_⟩
  · rw [hn h, tw_tw]
    by_cases z1 : h = pv M a
    · rw [if_pos z1, if_neg (fun q => d1 (z1.symm.trans q)), if_pos z1]
    by_cases z2 : h = pv M (tw a)
    · rw [if_neg z1, if_pos z2, if_pos z2]
    rw [if_neg z1, if_neg z2, if_neg z2, if_neg z1]
    by_cases z3 : h = tw (nx M a)
    · rw [if_pos z3, if_neg (fun q => d11 (z3.symm.trans q)), if_neg (fun q => d12 (z3.symm.trans q)), if_pos z3]
    by_cases z4 : h = a
    · rw [if_neg z3, if_pos z4, if_neg (fun q => d13 (z4.symm.trans q)), if_neg (fun q => d14 (z4.symm.trans q)), if_neg z3, if_pos z4]
    rw [if_neg z3, if_neg z4]
    by_cases z5 : h = tw (nx M (tw a))
    · rw [if_pos z5, if_pos z5]
    by_cases z6 : h = tw a
    · rw [if_neg z5, if_pos z6, if_neg z5, if_pos z6]
    rw [if_neg z5, if_neg z6, if_neg z5, if_neg z6, if_neg z3, if_neg z4]
  · rw [hp h, tw_tw]
    by_cases z1 : h = nx M a
    · rw [if_pos z1, if_neg (fun q => e1 (z1.symm.trans q)), if_pos z1]
    by_cases z2 : h = nx M (tw a)
    · rw [if_neg z1, if_pos z2, if_pos z2]
    rw [if_neg z1, if_neg z2, if_neg z2, if_neg z1]
    by_cases z3 : h = a
    · rw [if_pos z3, if_neg (fun q => e11 (z3.symm.trans q)), if_neg (fun q => e12 (z3.symm.trans q)), if_pos z3]
    by_cases z4 : h = tw (pv M (tw a))
    · rw [if_neg z3, if_pos z4, if_neg (fun q => e13 (z4.symm.trans q)), if_neg (fun q => e14 (z4.symm.trans q)), if_neg z3, if_pos z4]
    rw [if_neg z3, if_neg z4]
    by_cases z5 : h = tw a
    · rw [if_pos z5, if_pos z5]
    by_cases z6 : h = tw (pv M a)
    · rw [if_neg z5, if_pos z6, if_neg z5, if_pos z6]
    rw [if_neg z5, if_neg z6, if_neg z5, if_neg z6, if_neg z3, if_neg z4]
  · rw [ho h, tw_tw]
    exact two h a (tw a) _ _ _ (fun q => d14 q)
  · rw [hs c, tw_tw]
    by_cases z1 : c = ow M a
    · rw [if_pos z1, if_neg (fun q => n1 (z1.symm.trans q)), if_pos z1]
    by_cases z2 : c = ow M (tw a)
    · rw [if_neg z1, if_pos z2, if_pos z2]
    rw [if_neg z1, if_neg z2, if_neg z2, if_neg z1]
    exact two c _ _ _ _ _ n6
/-- other names for the halves of some walls -/
def sg (S : Wa → Bool) (h : Hf) : Hf := if S (wl h) = true then tw h else h
theorem wl_sg (h : Hf) : wl (sg S h) = wl h := by
  unfold sg
  split
  · exact wl_tw h
  · rfl
theorem sg_sg (h : Hf) : sg S (sg S h) = h := by
  unfold sg
  by_cases z : S (wl h) = true
  · rw [if_pos z, wl_tw, if_pos z, tw_tw]
  · rw [if_neg z, if_neg z]
theorem sg_tw (h : Hf) : sg S (tw h) = tw (sg S h) := by
  unfold sg
  rw [wl_tw]
  split <;> rfl
theorem sg_inj (h k : Hf) : (sg S h = sg S k) = (h = k) := propext ⟨fun e => by rw [← sg_sg (S := S) h, e, sg_sg], fun e => by rw [e]⟩
def Rl (S : Wa → Bool) (M M' : Ms) : Prop := lv M' = lv M ∧ sd M' = sd M ∧ ∀ h, LvH M h → ow M' (sg S h) = ow M h ∧ nx M' (sg S h) = sg S (nx M h) ∧ pv M' (sg S h) = sg S (pv M h)
theorem Rl.lvh (R : Rl S M M') {h : Hf} : LvH M' (sg S h) ↔ LvH M h := by
  unfold LvH
  rw [R.1, wl_sg]
theorem Rl.refl (M : Ms) : Rl (fun _ => false) M M := by
  have e : ∀ h, sg (fun _ => false) h = h := fun h => if_neg Bool.false_ne_true
  refine ⟨rfl, rfl, fun h _ => ?_⟩
  rw [e, e, e]
  exact ⟨rfl, rfl, rfl⟩
theorem Rl.trans (R : Rl S M M') (T : Rl S' M' K) : Rl (fun w => S w != S' w) M K := by
  have e : ∀ h, sg (fun w => S w != S' w) h = sg S' (sg S h) := fun h => by
    unfold sg
    cases z : S (wl h) <;> cases y : S' (wl h) <;> simp [z, y, wl_tw, tw_tw]
  refine ⟨T.1.trans R.1, T.2.1.trans R.2.1, fun h lh => ?_⟩
  obtain ⟨a1, a2, a3⟩ := R.2.2 h lh
  obtain ⟨b1, b2, b3⟩ := T.2.2 (sg S h) (R.lvh.mpr lh)
  rw [e, e, e, b1, b2, b3, a1, a2, a3]
  exact ⟨rfl, rfl, rfl⟩
/-- swaps of the same wall -/
theorem FlS.map (J : Inv M) (R : Rl S M M') (la : LvH M a) (A : FlS a M N) (B : FlS (sg S a) M' N') : Rl S N N' := by
  obtain ⟨al, an, ap, ao, as⟩ := A
  obtain ⟨bl, bn, bp, bo, bs⟩ := B
  have lb : LvH M (tw a) := LvH_tw.mpr la
  obtain ⟨a1, a2, a3⟩ := R.2.2 a la
  obtain ⟨b1, b2, b3⟩ := R.2.2 (tw a) lb
  have lc : LvH M (tw (nx M a)) := LvH_tw.mpr (J.nl la)
  have ld : LvH M (tw (nx M (tw a))) := LvH_tw.mpr (J.nl lb)
  have c1 := (R.2.2 _ lc).1
  have d1 := (R.2.2 _ ld).1
  rw [sg_tw] at c1 d1
  rw [sg_tw] at b1 b2 b3
  refine ⟨bl.trans (R.1.trans al.symm), ?_, fun h lh => ?_⟩
  · funext c
    rw [bs c, as c, a1, b1, a2, b2, c1, d1, R.2.1]
  · have lh : LvH M h := by
      unfold LvH at lh ⊢
      rw [al] at lh
      exact lh
    obtain ⟨h1', h2', h3'⟩ := R.2.2 h lh
    refine ⟨?_, ?_, ?_⟩
    · rw [bo, ao, a2, b2, c1, d1, h1', ← sg_tw]
      simp only [sg_inj]
    · rw [bn, an, a2, b2, a3, b3, h2']
      simp only [← sg_tw, sg_inj, apply_ite (sg S)]
    · rw [bp, ap, a2, b2, a3, b3, h3']
      simp only [← sg_tw, sg_inj, apply_ite (sg S)]
end RLC
