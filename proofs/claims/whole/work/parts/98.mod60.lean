section RLE
variable {M N M' T : Ms} {a : Hf} {w : Wa} {S : Wa → Bool} {c : Ce} {n : Int32}
theorem Rl.two (J : Inv M) (R : Rl S M M') (hl : lv M w = true) : (ow M' (h0 w) = ow M (h0 w) ∧ ow M' (h1 w) = ow M (h1 w) ∧ en M' (h0 w) = en M (h0 w) ∧ en M' (h1 w) = en M (h1 w)) ∨ (ow M' (h0 w) = ow M (h1 w) ∧ ow M' (h1 w) = ow M (h0 w) ∧ en M' (h0 w) = en M (h1 w) ∧ en M' (h1 w) = en M (h0 w)) := by
  have o : ∀ h, LvH M h → ow M' (sg S h) = ow M h := fun h lh => (R.2.2 h lh).1
  have e : ∀ h, LvH M h → en M' (sg S h) = en M h := fun h lh => by
    show ow M' (tw (nx M' (sg S h))) = ow M (tw (nx M h))
    rw [(R.2.2 h lh).2.1, ← sg_tw]
    exact o _ (LvH_tw.mpr (J.nl lh))
  have l0 : LvH M (h0 w) := LvH_h0.mpr hl
  have l1 : LvH M (h1 w) := LvH_h1.mpr hl
  have a0 := o _ l0
  have a1 := o _ l1
  have b0 := e _ l0
  have b1 := e _ l1
  unfold sg at a0 a1 b0 b1
  rw [wl_h0] at a0 b0
  rw [wl_h1] at a1 b1
  by_cases z : S w = true
  · rw [if_pos z, tw_h0] at a0 b0
    rw [if_pos z, tw_h1] at a1 b1
    exact Or.inr ⟨a1, a0, b1, b0⟩
  · rw [if_neg z] at a0 b0 a1 b1
    exact Or.inl ⟨a0, a1, b0, b1⟩
theorem Rl.canE (J : Inv M) (R : Rl S M M') (hl : lv M w = true) : can M' w = can M w := by
  rw [Bool.eq_iff_iff, can_iff, can_iff, R.2.1]
  rcases R.two J hl with ⟨a, b, c, d⟩ | ⟨a, b, c, d⟩
  · rw [a, b, c, d]
  · rw [a, b, c, d]
    constructor
    · rintro ⟨⟨q1, q2⟩, p1, p2, p3, p4, p5, p6⟩
      exact ⟨⟨q2, q1⟩, p1.symm, p5, p4, p3, p2, p6.symm⟩
    · rintro ⟨⟨q1, q2⟩, p1, p2, p3, p4, p5, p6⟩
      exact ⟨⟨q2, q1⟩, p1.symm, p5, p4, p3, p2, p6.symm⟩
theorem Rl.easeE (J : Inv M) (R : Rl S M M') (hl : lv M w = true) : ease M' w = ease M w := by
  unfold ease
  rw [R.2.1]
  rcases R.two J hl with ⟨a, b, c, d⟩ | ⟨a, b, c, d⟩
  · rw [a, b, c, d]
  · rw [a, b, c, d, Int32.add_comm (nI (sd M (ow M (h1 w)))), Int32.add_comm (nI (sd M (en M (h1 w))))]
theorem Rl.gaiE (J : Inv M) (R : Rl S M M') (hl : lv M w = true) : gai M' w c = gai M w c := by
  unfold gai
  rcases R.two J hl with ⟨a, b, c, d⟩ | ⟨a, b, c', d⟩
  · rw [a, b, c, d]
  · rw [a, b, c', d]
    simp only [Or.comm]
theorem Rl.mes (J : Inv M) (R : Rl S M M') : mEs M' = mEs M := by
  have e : es M' = es M := by
    unfold es
    refine it_congr 144 0 _ (fun i a _ _ => ?_)
    unfold esg
    rw [R.1]
    by_cases hl : lv M (wI i) = true
    · rw [if_pos hl, if_pos hl, R.easeE J hl, R.canE J hl]
    · rw [if_neg hl, if_neg hl]
  unfold mEs
  rw [e]
  by_cases h : (es M).1 < 0
  · rw [if_pos h, if_pos h]
  · rw [if_neg h, if_neg h]
    obtain ⟨w, e1, hl, _⟩ := es_some h
    rw [e1, nI_clamp (by have := w.isLt; omega), wI_val]
    exact R.easeE J hl
theorem Rl.swpE (J : Inv M) (R : Rl S M M') (i : Nat) : swp M' c n i = swp M c n i := by
  unfold swp
  rw [R.1, R.2.1]
  cases hl : lv M (wI i) with
  | false => rfl
  | true => rw [R.gaiE J hl, R.canE J hl]
theorem Rl.flE (J : Inv M) (R : Rl S M T) (JT : Inv T) (hl : lv M w = true) (hc : can M w = true) : Rl S (flM M w) (flM T w) := by
  have hlT : lv T w = true := by rw [R.1]; exact hl
  have hcT : can T w = true := by rw [R.canE J hl]; exact hc
  have A := FlS.of J hl hc
  have B := FlS.of JT hlT hcT
  refine A.map J R (LvH_h0.mpr hl) ?_
  unfold sg
  rw [wl_h0]
  by_cases z : S w = true
  · rw [if_pos z]
    exact B.symm JT (JT.f4 hlT hcT)
  · rw [if_neg z]
    exact B
theorem Inv.tw2 (J : Inv M) (hl : lv M w = true) (hc : can M w = true) : Inv (flM (flM M w) w) ∧ Rl (fun v => decide (v = w)) M (flM (flM M w) w) := by
  have J2 := J.fl hl hc
  have hl2 : lv (flM M w) w = true := by rw [flM_lv]; exact hl
  have hc2 := (J.can2 hl hc).1
  refine ⟨J2.fl hl2 hc2, ?_⟩
  have := (FlS.of J hl hc).twice J (J.f4 hl hc) J2 (J2.f4 hl2 hc2) (FlS.of J2 hl2 hc2)
  rw [wl_h0] at this
  exact this
/-- all walls swapped twice, one after the other -/
theorem tw_rel (J : Inv M) : ∀ i, ∃ S, Rl S M (it twG i 0 M) ∧ Inv (it twG i 0 M)
  | 0 => ⟨_, Rl.refl M, J⟩
  | i + 1 => by
    obtain ⟨S, R, JT⟩ := tw_rel J i
    rw [it_last0]
    generalize it twG i 0 M = T at R JT
    unfold twG
    by_cases hl : lv T (wI i) = true
    · rw [if_pos hl]
      by_cases hc : can T (wI i) = true
      · rw [if_pos hc]
        obtain ⟨J2, R2⟩ := JT.tw2 hl hc
        exact ⟨_, R.trans R2, J2⟩
      · rw [if_neg hc]
        exact ⟨S, R, JT⟩
    · rw [if_neg hl]
      exact ⟨S, R, JT⟩
def mxG (M : Ms) (i : Nat) (a : Int32) : Int32 := if lv M (wI i) = true then (if can M (wI i) = true then imax a (ease M (wI i) + mEs (flM M (wI i))) else a) else a
theorem ls_eq (J : Inv M) (e : Int32) : ∀ i, it lsG i 0 (M, e) = (it twG i 0 M, it (mxG M) i 0 e)
  | 0 => rfl
  | i + 1 => by
    rw [it_last0, it_last0, it_last0, ls_eq J e i]
    obtain ⟨S, R, JT⟩ := tw_rel J i
    generalize it twG i 0 M = T at R JT
    generalize it (mxG M) i 0 e = x
    unfold lsG twG mxG
    dsimp only
    by_cases hl : lv M (wI i) = true
    · have hlT : lv T (wI i) = true := by rw [R.1]; exact hl
      rw [if_pos hl, if_pos hlT, if_pos hlT, R.canE J hl]
      by_cases hc : can M (wI i) = true
      · rw [if_pos hc, if_pos hc, if_pos hc, R.easeE J hl, (R.flE J JT hl hc).mes (J.fl hl hc)]
      · rw [if_neg hc, if_neg hc, if_neg hc]
    · have hlT : ¬ lv T (wI i) = true := by rw [R.1]; exact hl
      rw [if_neg hl, if_neg hlT, if_neg hlT]
def twQ (M : Ms) (c : Ce) (n : Int32) (i : Nat) : Bool := lv M (wI i) && (can M (wI i) && (fd (swp (flM M (wI i)) c n) 144 0).isSome)
theorem tw_eq (J : Inv M) (c : Ce) (n : Int32) (i : Nat) : twP M c n i = twQ M c n i := by
  obtain ⟨S, R, JT⟩ := tw_rel J i
  unfold twP twQ
  generalize it twG i 0 M = T at R JT
  rw [R.1]
  cases hl : lv M (wI i) with
  | false => rfl
  | true =>
    rw [R.canE J hl]
    cases hc : can M (wI i) with
    | false => rfl
    | true =>
      have e : fd (swp (flM T (wI i)) c n) 144 0 = fd (swp (flM M (wI i)) c n) 144 0 := fd_congr 144 0 (fun k _ _ => (R.flE J JT hl hc).swpE (J.fl hl hc) k)
      rw [e]
theorem imax_comm (a b : Int32) : imax a b = imax b a := by
  by_cases h : b < a
  · rw [imax_l h]
    exact (imax_r (fun q => by rw [Int32.lt_iff_toInt_lt] at h q; omega)).symm
  · rw [imax_r h]
    unfold imax
    rw [if_neg h]
end RLE
