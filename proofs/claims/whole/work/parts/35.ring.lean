/-! ===== the first mesh, as a mesh ===== -/
def rH (w h q : Nat) : Nat := hr w h (q / 6 % w) (q / 6 / w) (q % 6)
def rG (w h g : Nat) : Nat := if g % 2 = 0 then 6 * (g / 2 / 3) + g / 2 % 3 else 6 * (nbx w (g / 2 / 3 % w) (g / 2 % 3) + w * nby h (g / 2 / 3 / w) (g / 2 % 3)) + (g / 2 % 3 + 3)
def pq (q : Nat) : Nat := q / 6 * 6 + (q % 6 + 5) % 6
def nq (q : Nat) : Nat := q / 6 * 6 + (q % 6 + 1) % 6
theorem rf1 : ∀ w h : Fin 4, ∀ q : Fin 216, q.val < 6 * ((w.val + 3) * (h.val + 3)) → rG (w.val + 3) (h.val + 3) (rH (w.val + 3) (h.val + 3) q.val) = q.val ∧ rH (w.val + 3) (h.val + 3) q.val < 6 * ((w.val + 3) * (h.val + 3)) := by decide +kernel
theorem rf2 : ∀ w h : Fin 4, ∀ q : Fin 216, q.val < 6 * ((w.val + 3) * (h.val + 3)) → rH (w.val + 3) (h.val + 3) (rG (w.val + 3) (h.val + 3) q.val) = q.val ∧ rG (w.val + 3) (h.val + 3) q.val < 6 * ((w.val + 3) * (h.val + 3)) := by decide +kernel
section RING
theorem wh36 {w h : Nat} (_hw : 3 ≤ w) (hw6 : w ≤ 6) (_hh : 3 ≤ h) (hh6 : h ≤ 6) : w * h ≤ 36 := Nat.mul_le_mul hw6 hh6
theorem rG_H {w h : Nat} (hw : 3 ≤ w) (hw6 : w ≤ 6) (hh : 3 ≤ h) (hh6 : h ≤ 6) {q : Nat} (hq : q < 6 * (w * h)) : rG w h (rH w h q) = q ∧ rH w h q < 6 * (w * h) := by
  have e := wh36 hw hw6 hh hh6
  have k := rf1 ⟨w - 3, by omega⟩ ⟨h - 3, by omega⟩ ⟨q, by omega⟩
  simp only [Nat.sub_add_cancel hw, Nat.sub_add_cancel hh] at k
  exact k hq
theorem rH_G {w h : Nat} (hw : 3 ≤ w) (hw6 : w ≤ 6) (hh : 3 ≤ h) (hh6 : h ≤ 6) {q : Nat} (hq : q < 6 * (w * h)) : rH w h (rG w h q) = q ∧ rG w h q < 6 * (w * h) := by
  have e := wh36 hw hw6 hh hh6
  have k := rf2 ⟨w - 3, by omega⟩ ⟨h - 3, by omega⟩ ⟨q, by omega⟩
  simp only [Nat.sub_add_cancel hw, Nat.sub_add_cancel hh] at k
  exact k hq
theorem rH_inj {w h : Nat} (hw : 3 ≤ w) (hw6 : w ≤ 6) (hh : 3 ≤ h) (hh6 : h ≤ 6) {q p : Nat} (hq : q < 6 * (w * h)) (hp : p < 6 * (w * h)) (e : rH w h q = rH w h p) : q = p := by
  rw [← (rG_H hw hw6 hh hh6 hq).1, e, (rG_H hw hw6 hh hh6 hp).1]
end RING
theorem rH_hr {w h x y i : Nat} (hx : x < w) (hi : i < 6) : rH w h (6 * (x + w * y) + i) = hr w h x y i := by
  unfold rH
  have h1 : (6 * (x + w * y) + i) / 6 = x + w * y := by omega
  have h2 : (6 * (x + w * y) + i) % 6 = i := by omega
  rw [h1, h2, Nat.add_mul_mod_self_left, Nat.mod_eq_of_lt hx, Nat.add_mul_div_left _ _ (by omega), Nat.div_eq_of_lt hx, Nat.zero_add]
theorem pq_lt {q n : Nat} (h : q < 6 * n) : pq q < 6 * n := by unfold pq; omega
theorem nq_lt {q n : Nat} (h : q < 6 * n) : nq q < 6 * n := by unfold nq; omega
theorem pq_nq (q : Nat) : pq (nq q) = q := by unfold pq nq; omega
theorem pq_inj {q p : Nat} (e : pq q = pq p) : q = p := by unfold pq at e; omega
theorem it_ind {α : Type} (g : Nat → α → α) (N : Nat) (P : Nat → α → Prop) (hs : ∀ i a, i < N → P i a → P (i + 1) (g i a)) (a : α) (h0 : P 0 a) : P N (it g N 0 a) := by
  have key : ∀ i, i ≤ N → P i (it g i 0 a) := by
    intro i
    induction i with
    | zero => intro _; exact h0
    | succ i ih => intro hi; rw [it_last0]; exact hs i _ (by omega) (ih (by omega))
  exact key N (Nat.le_refl _)
/-- the round of a side, once -/
def rox (w q : Nat) : Int32 := ovx w (q / 6 % w) (q % 6)
def roy (w h q : Nat) : Int32 := ovy h (q / 6 / w) (q % 6)
/-- what is laid after t sides -/
def RgP (w h t : Nat) (A : Ra) : Prop :=
  (∀ q, q < t → A.1 (rH w h q) = nI (q / 6) ∧ A.2.1 (rH w h (pq q)) = nI (rH w h q) ∧ A.2.2.1 (rH w h q) = nI (rH w h (pq q)))
  ∧ (∀ q, q < t → q % 6 < 3 → A.2.2.2.1 (rH w h q) = rox w q ∧ A.2.2.2.1 (rH w h q + 1) = -(rox w q) ∧ A.2.2.2.2.1 (rH w h q) = roy w h q ∧ A.2.2.2.2.1 (rH w h q + 1) = -(roy w h q) ∧ A.2.2.2.2.2.1 (rH w h q / 2) = nI 10)
  ∧ (∀ g, g < 288 → (∀ q, q < t → g ≠ rH w h q) → A.1 g = -1)
def RgS (k : Nat) (A : Ra) : Prop := ∀ c, c < 48 → A.2.2.2.2.2.2.1 c = (if c < k then nI 6 else nI 0) ∧ A.2.2.2.2.2.2.2 c = (if c < k then nI 100 else nI 0)
theorem upd_s (f : Nat → Int32) (k : Nat) (v : Int32) : upd f k v k = v := if_pos rfl
theorem upd_n (f : Nat → Int32) {k j : Nat} (v : Int32) (h : j ≠ k) : upd f k v j = f j := if_neg h
theorem rH_even {w h q : Nat} (hq : q % 6 < 3) : rH w h q % 2 = 0 := hr_even hq
section RING2
theorem rg_side {w h : Nat} (hw : 3 ≤ w) (hw6 : w ≤ 6) (hh : 3 ≤ h) (hh6 : h ≤ 6) {t : Nat} {A : Ra} (ht : t < 6 * (w * h)) (P : RgP w h t A) (x y i : Nat) (hx : x < w) (hi : i < 6) (e : t = 6 * (x + w * y) + i) : RgP w h (t + 1) (lyS w h x y i A) := by
  have d1 : t / 6 = x + w * y := by omega
  have d2 : t % 6 = i := by omega
  have m1 : (x + w * y) % w = x := by rw [Nat.add_mul_mod_self_left, Nat.mod_eq_of_lt hx]
  have m2 : (x + w * y) / w = y := by rw [Nat.add_mul_div_left _ _ (by omega), Nat.div_eq_of_lt hx, Nat.zero_add]
  have eH : hr w h x y i = rH w h t := by rw [e, rH_hr hx hi]
  have eB : hr w h x y ((i + 5) % 6) = rH w h (pq t) := by
    unfold pq
    rw [d1, d2, Nat.mul_comm (x + w * y) 6, rH_hr hx (by omega)]
  have ex : ovx w x i = rox w t := by unfold rox; rw [d1, d2, m1]
  have ey : ovy h y i = roy w h t := by unfold roy; rw [d1, d2, m2]
  unfold lyS
  rw [eH, eB, ex, ey, ← d1]
  have nH : ∀ q, q < t → rH w h q ≠ rH w h t := fun q hq z => by
    have := rH_inj hw hw6 hh hh6 (by omega) ht z
    omega
  have nP : ∀ q, q < t → rH w h (pq q) ≠ rH w h (pq t) := fun q hq z => by
    have := pq_inj (rH_inj hw hw6 hh hh6 (pq_lt (by omega)) (pq_lt ht) z)
    omega
  obtain ⟨p1, p2, p3⟩ := P
  refine ⟨fun q hq => ?_, fun q hq hq3 => ?_, fun g hg hn => ?_⟩
  · by_cases z : q = t
    · rw [z]
      exact ⟨upd_s _ _ _, upd_s _ _ _, upd_s _ _ _⟩
    · have hq' : q < t := by omega
      obtain ⟨a1, a2, a3⟩ := p1 q hq'
      exact ⟨(upd_n _ _ (nH q hq')).trans a1, (upd_n _ _ (nP q hq')).trans a2, (upd_n _ _ (nH q hq')).trans a3⟩
  · by_cases z : q = t
    · subst z
      dsimp only
      rw [d2] at hq3
      rw [if_pos hq3, if_pos hq3, if_pos hq3]
      exact ⟨(upd_n _ _ (by omega)).trans (upd_s _ _ _), upd_s _ _ _, (upd_n _ _ (by omega)).trans (upd_s _ _ _), upd_s _ _ _, upd_s _ _ _⟩
    · have hq' : q < t := by omega
      obtain ⟨a1, a2, a3, a4, a5⟩ := p2 q hq' hq3
      have n1 := nH q hq'
      have b1 := rH_even (w := w) (h := h) hq3
      dsimp only
      by_cases i3 : i < 3
      · have b2 := rH_even (w := w) (h := h) (q := t) (by omega)
        rw [if_pos i3, if_pos i3, if_pos i3]
        refine ⟨?_, ?_, ?_, ?_, ?_⟩
        · rw [upd_n _ _ (by omega), upd_n _ _ (by omega)]; exact a1
        · rw [upd_n _ _ (by omega), upd_n _ _ (by omega)]; exact a2
        · rw [upd_n _ _ (by omega), upd_n _ _ (by omega)]; exact a3
        · rw [upd_n _ _ (by omega), upd_n _ _ (by omega)]; exact a4
        · rw [upd_n _ _ (by omega)]; exact a5
      · rw [if_neg i3, if_neg i3, if_neg i3]
        exact ⟨a1, a2, a3, a4, a5⟩
  · exact (upd_n _ _ (hn t (by omega))).trans (p3 g hg (fun q hq => hn q (by omega)))
theorem rg_cell {w h : Nat} (hw : 3 ≤ w) (hw6 : w ≤ 6) (hh : 3 ≤ h) (hh6 : h ≤ 6) {A : Ra} (x y : Nat) (hx : x < w) (hy : y < h) (P : RgP w h (6 * (x + w * y)) A ∧ RgS (x + w * y) A) : RgP w h (6 * (x + w * y + 1)) (lyC w h x y A) ∧ RgS (x + w * y + 1) (lyC w h x y A) := by
  have e1 := xy_lt hx hy hw6 hh6
  unfold lyC
  refine it_ind (fun i A => lyS w h x y i A) 6 (fun i A => RgP w h (6 * (x + w * y) + i) A ∧ RgS (x + w * y + 1) A) ?_ _ ⟨P.1, fun c hc => ?_⟩
  · rintro i a hi ⟨q1, q2⟩
    exact ⟨rg_side hw hw6 hh hh6 (by omega) q1 x y i hx hi rfl, q2⟩
  · obtain ⟨a1, a2⟩ := P.2 c hc
    by_cases z : c = x + w * y
    · subst z
      exact ⟨(upd_s _ _ _).trans (if_pos (by omega)).symm, (upd_s _ _ _).trans (if_pos (by omega)).symm⟩
    · refine ⟨(upd_n _ _ z).trans (a1.trans ?_), (upd_n _ _ z).trans (a2.trans ?_)⟩
      · by_cases k : c < x + w * y
        · rw [if_pos k, if_pos (by omega)]
        · rw [if_neg k, if_neg (by omega)]
      · by_cases k : c < x + w * y
        · rw [if_pos k, if_pos (by omega)]
        · rw [if_neg k, if_neg (by omega)]
theorem rg_all {w h : Nat} (hw : 3 ≤ w) (hw6 : w ≤ 6) (hh : 3 ≤ h) (hh6 : h ≤ 6) {A : Ra} (P : RgP w h 0 A ∧ RgS 0 A) : RgP w h (6 * (w * h)) (lyR w h A) ∧ RgS (w * h) (lyR w h A) := by
  unfold lyR
  refine it_ind (fun y A => it (fun x A => lyC w h x y A) w 0 A) h (fun y A => RgP w h (6 * (w * y)) A ∧ RgS (w * y) A) ?_ _ P
  intro y a hy q
  have k := it_ind (fun x A => lyC w h x y A) w (fun x A => RgP w h (6 * (x + w * y)) A ∧ RgS (x + w * y) A) (fun x a hx q => by
    have := rg_cell hw hw6 hh hh6 x y hx hy q
    rw [show x + w * y + 1 = x + 1 + w * y by omega] at this
    exact this) a (by rw [Nat.zero_add]; exact q)
  rw [show w + w * y = w * (y + 1) by rw [Nat.mul_add]; omega] at k
  exact k
end RING2
theorem rg_wipe (w h : Nat) (A : Ra) : RgP w h 0 (lyV (lyW A)) ∧ RgS 0 (lyV (lyW A)) := by
  have k1 : ∀ g, g < 288 → (lyW A).1 g = -1 := by
    unfold lyW
    refine it_ind (fun i (A : Ra) => (upd A.1 i (-1), A.2)) 288 (fun i (A : Ra) => ∀ g, g < i → A.1 g = -1) ?_ A (fun g hg => absurd hg (Nat.not_lt_zero _))
    intro i a hi q g hg
    by_cases z : g = i
    · rw [z]; exact upd_s _ _ _
    · exact (upd_n _ _ z).trans (q g (by omega))
  generalize lyW A = A1 at k1 ⊢
  have k2 : (lyV A1).1 = A1.1 ∧ ∀ c, c < 48 → (lyV A1).2.2.2.2.2.2.1 c = nI 0 ∧ (lyV A1).2.2.2.2.2.2.2 c = nI 0 := by
    unfold lyV
    refine it_ind (fun i (A : Ra) => (A.1, A.2.1, A.2.2.1, A.2.2.2.1, A.2.2.2.2.1, A.2.2.2.2.2.1, upd A.2.2.2.2.2.2.1 i (nI 0), upd A.2.2.2.2.2.2.2 i (nI 0))) 48 (fun i (A : Ra) => A.1 = A1.1 ∧ ∀ c, c < i → A.2.2.2.2.2.2.1 c = nI 0 ∧ A.2.2.2.2.2.2.2 c = nI 0) ?_ A1 ⟨rfl, fun g hg => absurd hg (Nat.not_lt_zero _)⟩
    rintro i a hi ⟨q1, q2⟩
    refine ⟨q1, fun g hg => ?_⟩
    by_cases z : g = i
    · rw [z]; exact ⟨upd_s _ _ _, upd_s _ _ _⟩
    · obtain ⟨a1, a2⟩ := q2 g (by omega)
      exact ⟨(upd_n _ _ z).trans a1, (upd_n _ _ z).trans a2⟩
  refine ⟨⟨fun q hq => absurd hq (Nat.not_lt_zero _), fun q hq => absurd hq (Nat.not_lt_zero _), fun g hg _ => ?_⟩, fun c hc => ?_⟩
  · rw [k2.1]; exact k1 g hg
  · obtain ⟨a1, a2⟩ := k2.2 c hc
    exact ⟨a1.trans (if_neg (Nat.not_lt_zero _)).symm, a2.trans (if_neg (Nat.not_lt_zero _)).symm⟩
/-- RING's mesh -/
def rgM (w h : Nat) : Ms := (fun j => decide (j.val < 3 * (w * h)), fun g => cI (rG w h g.val / 6), fun g => hI (rH w h (nq (rG w h g.val))), fun g => hI (rH w h (pq (rG w h g.val))),
  fun g => if g.val % 2 = 0 then rox w (rG w h g.val) else -(rox w (rG w h (g.val - 1))), fun g => if g.val % 2 = 0 then roy w h (rG w h g.val) else -(roy w h (rG w h (g.val - 1))), fun _ => nI 10, fun c => if c.val < w * h then 6 else 0, fun _ => nI 100)
theorem rg_rep {w h : Nat} (hw : 3 ≤ w) (hw6 : w ≤ 6) (hh : 3 ≤ h) (hh6 : h ≤ 6) {μ : mm_U} {b : Nat} {A : Ra} (R : Hd μ b (lyR w h (lyV (lyW A)))) : RepC (rgM w h) μ b := by
  obtain ⟨⟨p1, p2, p3⟩, p4⟩ := rg_all hw hw6 hh hh6 (rg_wipe w h A)
  generalize lyR w h (lyV (lyW A)) = B at R p1 p2 p3 p4
  obtain ⟨r1, r2, r3, r4, r5, r6, r7, r8⟩ := R
  have e36 := wh36 hw hw6 hh hh6
  rw [RepC, r1, r2, r3, r4, r5, r6, r7, r8]
  refine ⟨fun g hg => ?_, fun g hg => ?_, fun j hj => ?_, fun c => ?_, fun c hc => ?_⟩
  · have hg' : g.val / 2 < 3 * (w * h) := of_decide_eq_true hg
    have hl : g.val < 6 * (w * h) := by omega
    obtain ⟨g1, g2⟩ := rH_G hw hw6 hh hh6 hl
    obtain ⟨a1, -, a3⟩ := p1 _ g2
    obtain ⟨-, b2, -⟩ := p1 _ (nq_lt g2)
    rw [pq_nq] at b2
    rw [g1] at a1 a3 b2
    have l1 := (rG_H hw hw6 hh hh6 (pq_lt g2)).2
    have l2 := (rG_H hw hw6 hh hh6 (nq_lt g2)).2
    have v1 : (ow (rgM w h) g).val = rG w h g.val / 6 := cI_lt (by omega)
    have v2 : (nx (rgM w h) g).val = rH w h (nq (rG w h g.val)) := hI_lt (by omega)
    have v3 : (pv (rgM w h) g).val = rH w h (pq (rG w h g.val)) := hI_lt (by omega)
    rw [v1, v2, v3]
    refine ⟨a1, b2, a3, ?_⟩
    by_cases z : g.val % 2 = 0
    · have m3 : rG w h g.val % 6 < 3 := by
        unfold rG
        rw [if_pos z]
        omega
      obtain ⟨c1, -, c3, -, -⟩ := p2 _ g2 m3
      rw [g1] at c1 c3
      exact ⟨c1.trans (if_pos z).symm, c3.trans (if_pos z).symm⟩
    · have hl' : g.val - 1 < 6 * (w * h) := by omega
      have m3 : rG w h (g.val - 1) % 6 < 3 := by
        unfold rG
        rw [if_pos (by omega)]
        omega
      obtain ⟨g1', g2'⟩ := rH_G hw hw6 hh hh6 hl'
      obtain ⟨-, c2, -, c4, -⟩ := p2 _ g2' m3
      rw [g1', show g.val - 1 + 1 = g.val by omega] at c2 c4
      exact ⟨c2.trans (if_neg z).symm, c4.trans (if_neg z).symm⟩
  · have hg' : ¬ g.val / 2 < 3 * (w * h) := of_decide_eq_false hg
    refine p3 g.val g.isLt (fun q hq z => ?_)
    have := (rG_H hw hw6 hh hh6 hq).2
    omega
  · have hj' : j.val < 3 * (w * h) := of_decide_eq_true hj
    have hl : 2 * j.val < 6 * (w * h) := by omega
    have m3 : rG w h (2 * j.val) % 6 < 3 := by
      unfold rG
      rw [if_pos (by omega)]
      omega
    obtain ⟨g1, g2⟩ := rH_G hw hw6 hh hh6 hl
    obtain ⟨-, -, -, -, c5⟩ := p2 _ g2 m3
    rw [g1, show 2 * j.val / 2 = j.val by omega] at c5
    exact c5
  · rw [(p4 c.val c.isLt).1]
    show _ = nI (if c.val < w * h then 6 else 0)
    split <;> rfl
  · have hc' : c.val < w * h := by
      have : 0 < (if c.val < w * h then 6 else 0) := hc
      by_cases z : c.val < w * h
      · exact z
      · rw [if_neg z] at this; omega
    rw [(p4 c.val c.isLt).2, if_pos hc']
    rfl
theorem c_ring {sh : mm_Sh} {b : Nat} {μ : mm_U} (S : MeshSh sh b) {w h : Nat} (hw : 3 ≤ w) (hw6 : w ≤ 6) (hh : 3 ≤ h) (hh6 : h ≤ 6) : cl sh zX2_layRing [.ref b, .int (nI w), .int (nI h)] μ (fun r μ' => r = none ∧ RepC (rgM w h) μ' b ∧ Fr μ μ' b) := by
  refine cl_mono (c_layRing (A := (μ (b + 1), μ (b + 2), μ (b + 3), μ (b + 4), μ (b + 5), μ (b + 6), μ (b + 7), μ (b + 8))) S ⟨rfl, rfl, rfl, rfl, rfl, rfl, rfl, rfl⟩ hw hw6 hh hh6) ?_
  rintro r μ1 ⟨rfl, R1, F1⟩
  exact ⟨rfl, rg_rep hw hw6 hh hh6 R1, F1⟩
