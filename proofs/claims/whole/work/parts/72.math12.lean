/-! ===== the ring keeps the law ===== -/
def rgC (w h : Nat) (g : Hf) : Bool := !(lv (rgM w h) (wl g)) || (lv (rgM w h) (wl (nx (rgM w h) g)) && lv (rgM w h) (wl (pv (rgM w h) g)) && decide (nx (rgM w h) (pv (rgM w h) g) = g) && decide (pv (rgM w h) (nx (rgM w h) g) = g) && decide (ow (rgM w h) (nx (rgM w h) g) = ow (rgM w h) g) && decide (ow (rgM w h) (tw g) ≠ ow (rgM w h) g) && decide (ph (rgM w h) (ph (rgM w h) (ph (rgM w h) g)) = g))
theorem rg_c : ∀ w h : Fin 4, ∀ g : Fin 288, rgC (w.val + 3) (h.val + 3) g = true := by decide +kernel
def rgD (w h : Nat) (g : Hf) : Bool := !(lv (rgM w h) (wl g)) || (decide (itn (nx (rgM w h)) 6 g = g) && decide (itn (nx (rgM w h)) 1 g ≠ g) && decide (itn (nx (rgM w h)) 2 g ≠ g) && decide (itn (nx (rgM w h)) 3 g ≠ g) && decide (itn (nx (rgM w h)) 4 g ≠ g) && decide (itn (nx (rgM w h)) 5 g ≠ g) && decide ((ow (rgM w h) g).val < w * h) && decide (itn (nx (rgM w h)) (rG w h g.val % 6) (hI (rH w h (6 * (ow (rgM w h) g).val))) = g) && decide (itn (nx (rgM w h)) (6 - rG w h g.val % 6) g = hI (rH w h (6 * (ow (rgM w h) g).val))))
theorem rg_d : ∀ w h : Fin 4, ∀ g : Fin 288, rgD (w.val + 3) (h.val + 3) g = true := by decide +kernel
def rgE (w h : Nat) (c : Ce) : Bool := !(decide (c.val < w * h)) || (lv (rgM w h) (wl (hI (rH w h (6 * c.val)))) && decide (ow (rgM w h) (hI (rH w h (6 * c.val))) = c))
theorem rg_e : ∀ w h : Fin 4, ∀ c : Fin 48, rgE (w.val + 3) (h.val + 3) c = true := by decide +kernel
theorem rg_w : ∀ w h : Fin 4, cWa (rgM (w.val + 3) (h.val + 3)) = 3 * cCe (rgM (w.val + 3) (h.val + 3)) := by decide +kernel
theorem Inv.ring {w h : Nat} (hw : 3 ≤ w) (hw6 : w ≤ 6) (hh : 3 ≤ h) (hh6 : h ≤ 6) : Inv (rgM w h) := by
  obtain ⟨a, rfl⟩ : ∃ a, w = a + 3 := ⟨w - 3, by omega⟩
  obtain ⟨b, rfl⟩ : ∃ b, h = b + 3 := ⟨h - 3, by omega⟩
  have rc : ∀ g, rgC (a + 3) (b + 3) g = true := rg_c ⟨a, by omega⟩ ⟨b, by omega⟩
  have rd : ∀ g, rgD (a + 3) (b + 3) g = true := rg_d ⟨a, by omega⟩ ⟨b, by omega⟩
  have re : ∀ c, rgE (a + 3) (b + 3) c = true := rg_e ⟨a, by omega⟩ ⟨b, by omega⟩
  have rw_ : cWa (rgM (a + 3) (b + 3)) = 3 * cCe (rgM (a + 3) (b + 3)) := rg_w ⟨a, by omega⟩ ⟨b, by omega⟩
  have sdv : ∀ c, sd (rgM (a + 3) (b + 3)) c = if c.val < (a + 3) * (b + 3) then 6 else 0 := fun _ => rfl
  have lnv : ∀ v, ln (rgM (a + 3) (b + 3)) v = nI 10 := fun _ => rfl
  unfold rgC at rc
  unfold rgD at rd
  unfold rgE at re
  generalize rgM (a + 3) (b + 3) = M at *
  have rc' : ∀ g, LvH M g → LvH M (nx M g) ∧ LvH M (pv M g) ∧ nx M (pv M g) = g ∧ pv M (nx M g) = g ∧ ow M (nx M g) = ow M g ∧ ow M (tw g) ≠ ow M g ∧ ph M (ph M (ph M g)) = g := by
    intro g lg
    have e : lv M (wl g) = true := lg
    have := rc g
    rw [e] at this
    simp only [Bool.not_true, Bool.false_or, Bool.and_eq_true, decide_eq_true_iff] at this
    obtain ⟨⟨⟨⟨⟨⟨q1, q2⟩, q3⟩, q4⟩, q5⟩, q6⟩, q7⟩ := this
    exact ⟨q1, q2, q3, q4, q5, q6, q7⟩
  have rd' : ∀ g, LvH M g → itn (nx M) 6 g = g ∧ (itn (nx M) 1 g ≠ g ∧ itn (nx M) 2 g ≠ g ∧ itn (nx M) 3 g ≠ g ∧ itn (nx M) 4 g ≠ g ∧ itn (nx M) 5 g ≠ g) ∧ (ow M g).val < (a + 3) * (b + 3) ∧ Rc (nx M) (hI (rH (a + 3) (b + 3) (6 * (ow M g).val))) g ∧ Rc (nx M) g (hI (rH (a + 3) (b + 3) (6 * (ow M g).val))) := by
    intro g lg
    have e : lv M (wl g) = true := lg
    have := rd g
    rw [e] at this
    simp only [Bool.not_true, Bool.false_or, Bool.and_eq_true, decide_eq_true_iff] at this
    obtain ⟨⟨⟨⟨⟨⟨⟨⟨q1, q2⟩, q3⟩, q4⟩, q5⟩, q6⟩, q7⟩, q8⟩, q9⟩ := this
    exact ⟨q1, ⟨q2, q3, q4, q5, q6⟩, q7, ⟨_, q8⟩, ⟨_, q9⟩⟩
  have CY : Cy (LvH M) (nx M) (pv M) (ow M) := by
    refine ⟨fun g lg => ?_, fun g lg => (rc' g lg).2.2.2.2.1, fun g k lg lk e => ?_⟩
    · obtain ⟨q1, q2, q3, q4, _⟩ := rc' g lg
      exact ⟨q1, q2, q3, q4⟩
    · have := (rd' k lk).2.2.2.1
      rw [e] at this
      exact (rd' g lg).2.2.2.2.trans this
  refine ⟨CY, fun c => ?_, fun g lg => (rc' g lg).2.2.2.2.2.1, fun g lg => (rc' g lg).2.2.2.2.2.2, fun c hc => ?_, rw_, fun v _ => ⟨10, by omega, lnv v⟩⟩
  · rw [sdv]
    by_cases z : c.val < (a + 3) * (b + 3)
    · rw [if_pos z]
      have := re c
      rw [decide_eq_true z] at this
      simp only [Bool.not_true, Bool.false_or, Bool.and_eq_true, decide_eq_true_iff] at this
      obtain ⟨l0, o0⟩ := this
      generalize hI (rH (a + 3) (b + 3) (6 * c.val)) = g at l0 o0
      obtain ⟨m0, m1, m2, _⟩ := CY.orb g l0 (fib M c) (fun k => by rw [fib_iff, o0])
      obtain ⟨q6, ⟨q1, q2, q3, q4, q5⟩, _⟩ := rd' g l0
      generalize cH (fib M c) = m at m0 m1 m2
      by_cases z6 : 6 < m
      · exact absurd q6.symm (m2 0 6 (by omega) z6)
      · have : m = 1 ∨ m = 2 ∨ m = 3 ∨ m = 4 ∨ m = 5 ∨ m = 6 := by omega
        rcases this with rfl | rfl | rfl | rfl | rfl | rfl
        · exact absurd m1 q1
        · exact absurd m1 q2
        · exact absurd m1 q3
        · exact absurd m1 q4
        · exact absurd m1 q5
        · rfl
    · rw [if_neg z, cH_none]
      intro g
      cases e : fib M c g with
      | false => rfl
      | true =>
        obtain ⟨e1, e2⟩ := fib_iff.mp e
        have := (rd' g e1).2.2.1
        rw [e2] at this
        exact absurd this z
  · rw [sdv] at hc ⊢
    split
    · omega
    · rename_i z
      rw [if_neg z] at hc
      omega
