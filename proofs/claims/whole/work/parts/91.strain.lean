/-! ===== STRAIN falls ===== -/
def qI (x : Int) : Int := (6 - x) * (6 - x)
theorem qI_dec (x : Int) : qI (x - 1) = qI x + 13 - 2 * x := by unfold qI; grind
theorem qI_inc (x : Int) : qI (x + 1) = qI x + 2 * x - 11 := by unfold qI; grind
theorem qI_nn (x : Int) : 0 ≤ qI x := by
  unfold qI
  rcases Int.le_total 0 (6 - x) with h | h
  · exact Int.mul_nonneg h h
  · exact Int.mul_nonneg_of_nonpos_of_nonpos h h
def qn (x : Nat) : Nat := (qI x).toNat
def stf (M : Ms) (i : Nat) : Nat := if 0 < sd M (cI i) then qn (sd M (cI i)) else 0
def stN (M : Ms) : Nat := sm 48 (stf M)
def un (f : Nat → Nat) (k v : Nat) : Nat → Nat := fun j => if j = k then v else f j
theorem sm_un {f : Nat → Nat} {n k v : Nat} (hk : k < n) : sm n (un f k v) + f k = sm n f + v := by
  have := sm_upd (f := un f k v) (g := f) (i := k) n hk (fun j _ hj => if_neg hj)
  rw [show un f k v k = v from if_pos rfl] at this
  exact this
theorem sm4 {f g : Nat → Nat} {n a b c d : Nat} (ha : a < n) (hb : b < n) (hc : c < n) (hd : d < n) (n1 : a ≠ b) (n2 : a ≠ c) (n3 : a ≠ d) (n4 : b ≠ c) (n5 : b ≠ d) (n6 : c ≠ d) (h : ∀ j, j < n → j ≠ a → j ≠ b → j ≠ c → j ≠ d → f j = g j) : sm n g + (f a + f b + f c + f d) = sm n f + (g a + g b + g c + g d) := by
  have e : sm n g = sm n (un (un (un (un f a (g a)) b (g b)) c (g c)) d (g d)) := sm_congr n (fun j hj => by
    unfold un
    by_cases j4 : j = d
    · rw [if_pos j4, j4]
    · rw [if_neg j4]
      by_cases j3 : j = c
      · rw [if_pos j3, j3]
      · rw [if_neg j3]
        by_cases j2 : j = b
        · rw [if_pos j2, j2]
        · rw [if_neg j2]
          by_cases j1 : j = a
          · rw [if_pos j1, j1]
          · rw [if_neg j1]
            exact (h j hj j1 j2 j3 j4).symm)
  have k1 := sm_un (f := f) (v := g a) ha
  have k2 := sm_un (f := un f a (g a)) (v := g b) hb
  have k3 := sm_un (f := un (un f a (g a)) b (g b)) (v := g c) hc
  have k4 := sm_un (f := un (un (un f a (g a)) b (g b)) c (g c)) (v := g d) hd
  have e2 : un f a (g a) b = f b := if_neg n1.symm
  have e3 : un (un f a (g a)) b (g b) c = f c := by
    show (if c = b then g b else un f a (g a) c) = f c
    rw [if_neg n4.symm]
    exact if_neg n2.symm
  have e4 : un (un (un f a (g a)) b (g b)) c (g c) d = f d := by
    show (if d = c then g c else un (un f a (g a)) b (g b) d) = f d
    rw [if_neg n6.symm]
    show (if d = b then g b else un f a (g a) d) = f d
    rw [if_neg n5.symm]
    exact if_neg n3.symm
  rw [e2] at k2
  rw [e3] at k3
  rw [e4] at k4
  omega
theorem i_ring4 (p q : Int32) : 2 * (p - q) - 4 = 2 * p - (2 * q + 4) := by grind
section STR
variable {M : Ms} {w : Wa}
theorem Inv.ease_pos (J : Inv M) (h : 0 < ease M w) : sd M (en M (h0 w)) + sd M (en M (h1 w)) + 2 < sd M (ow M (h0 w)) + sd M (ow M (h1 w)) := by
  have b1 := J.sdb (ow M (h0 w))
  have b2 := J.sdb (ow M (h1 w))
  have b3 := J.sdb (en M (h0 w))
  have b4 := J.sdb (en M (h1 w))
  unfold ease at h
  rw [show nI 2 = 2 from rfl, show nI 4 = 4 from rfl, i_ring4, nI_add, nI_add, show (2 : Int32) = nI 2 from rfl, show (4 : Int32) = nI 4 from rfl, pk_mul, pk_mul, nI_add, Int32.lt_iff_toInt_lt, pk_sub_toInt (by omega) (by omega)] at h
  have e0 : (0 : Int32).toInt = 0 := rfl
  omega
theorem Inv.strain_lt (J : Inv M) (hl : lv M w = true) (hc : can M w = true) (he : 0 < ease M w) : stN (flM M w) < stN M := by
  have hp := J.ease_pos he
  obtain ⟨⟨c1, c2⟩, c3, c4, c5, c6, c7, c8⟩ := can_iff.mp hc
  have la : LvH M (h0 w) := LvH_h0.mpr hl
  have lo : LvH M (h1 w) := LvH_h1.mpr hl
  have pC : 3 ≤ sd M (en M (h0 w)) := J.pos (LvH_tw.mpr (J.nl la))
  have pD : 3 ≤ sd M (en M (h1 w)) := J.pos (LvH_tw.mpr (J.nl lo))
  have r5 : tw (nx M (h1 w)) ≠ h0 w := fun e => c5 (by show ow M (h0 w) = ow M (tw (nx M (h1 w))); rw [e])
  have Fsd := flM_sd M w
  rw [fu_n (ow M) _ r5, fu_n (sd M) _ c3.symm] at Fsd
  replace Fsd : sd (flM M w) = fu (fu (fu (fu (sd M) (ow M (h0 w)) (sd M (ow M (h0 w)) - 1)) (ow M (h1 w)) (sd M (ow M (h1 w)) - 1)) (en M (h0 w)) (fu (fu (sd M) (ow M (h0 w)) (sd M (ow M (h0 w)) - 1)) (ow M (h1 w)) (sd M (ow M (h1 w)) - 1) (en M (h0 w)) + 1)) (en M (h1 w)) (fu (fu (fu (sd M) (ow M (h0 w)) (sd M (ow M (h0 w)) - 1)) (ow M (h1 w)) (sd M (ow M (h1 w)) - 1)) (en M (h0 w)) (fu (fu (sd M) (ow M (h0 w)) (sd M (ow M (h0 w)) - 1)) (ow M (h1 w)) (sd M (ow M (h1 w)) - 1) (en M (h0 w)) + 1) (en M (h1 w)) + 1) := Fsd
  rw [fu_n _ _ c6.symm, fu_n _ _ c4.symm, fu_n _ _ c8.symm, fu_n _ _ c7.symm, fu_n _ _ c5.symm] at Fsd
  generalize ow M (h0 w) = A at *
  generalize ow M (h1 w) = B at *
  generalize en M (h0 w) = C at *
  generalize en M (h1 w) = D at *
  have sA : sd (flM M w) A = sd M A - 1 := by rw [Fsd, fu_n _ _ c5, fu_n _ _ c4, fu_n _ _ c3, fu_s]
  have sB : sd (flM M w) B = sd M B - 1 := by rw [Fsd, fu_n _ _ c7, fu_n _ _ c6, fu_s]
  have sC_ : sd (flM M w) C = sd M C + 1 := by rw [Fsd, fu_n _ _ c8, fu_s]
  have sD : sd (flM M w) D = sd M D + 1 := by rw [Fsd, fu_s]
  have k := sm4 (f := stf M) (g := stf (flM M w)) (n := 48) (a := A.val) (b := B.val) (c := C.val) (d := D.val) A.isLt B.isLt C.isLt D.isLt (fun e => c3 (Fin.ext e)) (fun e => c4 (Fin.ext e)) (fun e => c5 (Fin.ext e)) (fun e => c6 (Fin.ext e)) (fun e => c7 (Fin.ext e)) (fun e => c8 (Fin.ext e)) (fun j hj j1 j2 j3 j4 => by
    have n1 : cI j ≠ A := fun e => j1 (by rw [← e, cI_lt hj])
    have n2 : cI j ≠ B := fun e => j2 (by rw [← e, cI_lt hj])
    have n3 : cI j ≠ C := fun e => j3 (by rw [← e, cI_lt hj])
    have n4 : cI j ≠ D := fun e => j4 (by rw [← e, cI_lt hj])
    unfold stf
    rw [Fsd, fu_n _ _ n4, fu_n _ _ n3, fu_n _ _ n2, fu_n _ _ n1])
  have ev : ∀ (N : Ms) (c : Ce), 0 < sd N c → stf N c.val = qn (sd N c) := fun N c h => by unfold stf; rw [cI_val, if_pos h]
  rw [ev M A (by omega), ev M B (by omega), ev M C (by omega), ev M D (by omega), ev _ A (by rw [sA]; omega), ev _ B (by rw [sB]; omega), ev _ C (by rw [sC_]; omega), ev _ D (by rw [sD]; omega), sA, sB, sC_, sD] at k
  unfold stN
  unfold qn at k
  have qa := qI_dec (sd M A)
  have qb := qI_dec (sd M B)
  have qc := qI_inc (sd M C)
  have qd := qI_inc (sd M D)
  rw [show ((sd M A - 1 : Nat) : Int) = (sd M A : Int) - 1 by omega, show ((sd M B - 1 : Nat) : Int) = (sd M B : Int) - 1 by omega, show ((sd M C + 1 : Nat) : Int) = (sd M C : Int) + 1 by omega, show ((sd M D + 1 : Nat) : Int) = (sd M D : Int) + 1 by omega, qa, qb, qc, qd] at k
  have na := qI_nn (sd M A)
  have nb := qI_nn (sd M B)
  have nc := qI_nn (sd M C)
  have nd := qI_nn (sd M D)
  have ma := qI_nn (sd M A - 1)
  have mb := qI_nn (sd M B - 1)
  have mc := qI_nn (sd M C + 1)
  have md := qI_nn (sd M D + 1)
  rw [qa] at ma
  rw [qb] at mb
  rw [qc] at mc
  rw [qd] at md
  omega
theorem es_pos (h : ¬ (es M).1 < 0) : ∃ w : Wa, (es M).1 = nI w.val ∧ lv M w = true ∧ can M w = true ∧ 0 < ease M w := by
  have key := it_ind (esg M) 144 (fun _ a => (a.1 < 0 ∧ a.2 = nI 0) ∨ ∃ w : Wa, a.1 = nI w.val ∧ lv M w = true ∧ can M w = true ∧ a.2 = ease M w ∧ 0 < ease M w) (fun i a hi ha => ?_) (-1, nI 0) (Or.inl ⟨by decide, rfl⟩)
  · rcases key with ⟨q, _⟩ | ⟨w, e1, e2, e3, _, e5⟩
    · exact absurd q h
    · exact ⟨w, e1, e2, e3, e5⟩
  · unfold esg
    split
    · split
      · rename_i hg
        split
        · refine Or.inr ⟨wI i, by show nI i = nI (wI i).val; rw [wI_lt hi], by assumption, by assumption, rfl, ?_⟩
          rcases ha with ⟨_, q⟩ | ⟨w, _, _, _, q1, q2⟩
          · rw [q, nI_0] at hg
            exact hg
          · rw [q1] at hg
            rw [Int32.lt_iff_toInt_lt] at hg q2 ⊢
            omega
        · exact ha
      · exact ha
    · exact ha
theorem sm_add {f g : Nat → Nat} : ∀ n, sm n (fun i => f i + g i) = sm n f + sm n g
  | 0 => rfl
  | n + 1 => by
    show sm n (fun i => f i + g i) + (f n + g n) = (sm n f + f n) + (sm n g + g n)
    rw [sm_add n]
    omega
theorem sm_zero : ∀ n, sm n (fun _ => 0) = 0
  | 0 => rfl
  | n + 1 => by show sm n (fun _ => 0) + 0 = 0; rw [sm_zero n]
theorem sm_swap {F : Nat → Nat → Nat} (b : Nat) : ∀ a, sm a (fun i => sm b (F i)) = sm b (fun j => sm a (fun i => F i j))
  | 0 => (sm_zero b).symm
  | a + 1 => by
    show sm a (fun i => sm b (F i)) + sm b (F a) = sm b (fun j => sm a (fun i => F i j) + F a j)
    rw [sm_swap b a, sm_add]
theorem sm_mono {f g : Nat → Nat} : ∀ n, (∀ j, j < n → f j ≤ g j) → sm n f ≤ sm n g
  | 0, _ => Nat.le_refl _
  | n + 1, h => by
    show sm n f + f n ≤ sm n g + g n
    have := sm_mono (f := f) (g := g) n (fun j hj => h j (by omega))
    have := h n (by omega)
    omega
theorem sm_one {n : Nat} (k : Nat) (p : Nat → Bool) (h : ∀ j, j < n → p j = true → j = k) : sm n (fun j => b1 (p j)) ≤ 1 := by
  by_cases hk : k < n
  · have q := sm_upd (f := fun j => b1 (p j)) (g := fun _ => 0) (i := k) n hk (fun j hj hne => by
      show b1 (p j) = 0
      cases e : p j with
      | false => rfl
      | true => exact absurd (h j hj e) hne)
    rw [sm_zero] at q
    have := b1_le (p k)
    omega
  · have : sm n (fun j => b1 (p j)) = sm n (fun _ => 0) := sm_congr n (fun j hj => by
      cases e : p j with
      | false => rfl
      | true => have := h j hj e; omega)
    rw [this, sm_zero]
    omega
theorem Inv.sd_sum (J : Inv M) : sm 48 (fun i => sd M (cI i)) ≤ 288 := by
  have e : sm 48 (fun i => sd M (cI i)) = sm 48 (fun i => sm 288 (fun j => b1 (fib M (cI i) (hI j)))) := sm_congr 48 (fun j _ => J.2.1 (cI j))
  rw [e, sm_swap]
  have := sm_le (f := fun j => sm 48 (fun i => b1 (fib M (cI i) (hI j)))) (b := 1) 288 (fun j _ => sm_one (ow M (hI j)).val (fun i => fib M (cI i) (hI j)) (fun i hi he => by
    have := (fib_iff.mp he).2
    rw [this, cI_lt hi]))
  omega
theorem Inv.stN_le (J : Inv M) : stN M ≤ 100000 := by
  have h1 : stN M ≤ sm 48 (fun i => 36 + 288 * sd M (cI i)) := sm_mono 48 (fun j _ => by
    unfold stf
    split
    · have b := J.sdb (cI j)
      unfold qn qI
      have h1 : ((6 : Int) - (sd M (cI j) : Int)) * (6 - (sd M (cI j) : Int)) = 36 - 12 * (sd M (cI j) : Int) + (sd M (cI j) : Int) * (sd M (cI j) : Int) := by grind
      have h2 : (sd M (cI j) : Int) * (sd M (cI j) : Int) ≤ 288 * (sd M (cI j) : Int) := Int.mul_le_mul_of_nonneg_right (by omega) (by omega)
      rw [h1]
      omega
    · omega)
  have h2 : sm 48 (fun i => 36 + 288 * sd M (cI i)) = sm 48 (fun _ => 36) + sm 48 (fun i => 288 * sd M (cI i)) := sm_add 48
  have h3 : ∀ n, sm n (fun i => 288 * sd M (cI i)) = 288 * sm n (fun i => sd M (cI i)) := by
    intro n
    induction n with
    | zero => rfl
    | succ n ih =>
      show sm n (fun i => 288 * sd M (cI i)) + 288 * sd M (cI n) = 288 * (sm n (fun i => sd M (cI i)) + sd M (cI n))
      rw [ih, Nat.mul_add]
  have h4 : sm 48 (fun _ => 36) = 1728 := by decide
  have h5 := J.sd_sum
  rw [h2, h3, h4] at h1
  omega
end STR
