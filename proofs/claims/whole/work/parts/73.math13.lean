/-! ===== one cycle becomes two ===== -/
section SPL
variable {L : Hf → Prop} {n p : Hf → Hf} {o : Hf → Ce}
theorem PP.inj (C : PP L n p) {h g : Hf} (hl : L h) (gl : L g) (e : n h = n g) : h = g := by
  rw [← (C h hl).2.2.2, ← (C g gl).2.2.2, e]
theorem PP.lit (C : PP L n p) : ∀ (k : Nat) (h : Hf), L h → L (itn n k h)
  | 0, _, hl => hl
  | k + 1, h, hl => PP.lit C k (n h) (C h hl).1
theorem PP.itn_inj (C : PP L n p) : ∀ (k : Nat) (h g : Hf), L h → L g → itn n k h = itn n k g → h = g
  | 0, _, _, _, _, e => e
  | k + 1, h, g, hl, gl, e => C.inj hl gl (PP.itn_inj C k (n h) (n g) (C h hl).1 (C g gl).1 e)
theorem PP.per (C : PP L n p) (h : Hf) (hl : L h) : ∃ m, 0 < m ∧ itn n m h = h := by
  have key : ∀ k, 0 < k → Dst n h k ∨ ∃ m, 0 < m ∧ itn n m h = h := by
    intro k hk
    induction k with
    | zero => omega
    | succ k ih =>
      by_cases k0 : k = 0
      · subst k0
        exact Or.inl (fun i j a b => by omega)
      · rcases ih (by omega) with D | E
        · by_cases z : oP n h k (itn n k h) = true
          · obtain ⟨j, hj, ej⟩ := oP_iff.mp z
            have e : itn n (k - j) h = h := by
              refine (C.itn_inj j h _ hl (C.lit (k - j) h hl) ?_).symm
              rw [← itn_add, show k - j + j = k by omega]
              exact ej
            exact Or.inr ⟨k - j, by omega, e⟩
          · refine Or.inl (fun i j a b e => ?_)
            by_cases jk : j = k
            · subst jk
              exact z (oP_iff.mpr ⟨i, a, e⟩)
            · exact D i j a (by omega) e
        · exact Or.inr E
  rcases key 289 (by decide) with D | E
  · have := oP_count 289 D
    have := cH_le (oP n h 289)
    omega
  · exact E
theorem PP.symm (C : PP L n p) {h g : Hf} (hl : L h) (r : Rc n h g) : Rc n g h := by
  obtain ⟨k, hk⟩ := r
  obtain ⟨m, m0, e⟩ := C.per h hl
  have h1 : itn n (k * m) h = h := by
    have := itn_mod e m0 k 0
    rw [Nat.add_zero] at this
    exact this
  have km : k ≤ k * m := Nat.le_mul_of_pos_right k m0
  refine ⟨k * m - k, ?_⟩
  rw [← hk, ← itn_add, show k + (k * m - k) = k * m by omega]
  exact h1
theorem PP.swap (C : PP L n p) {x y : Hf} (lx : L x) (ly : L y) (xy : x ≠ y) : PP L (fu (fu n x (n y)) y (n x)) (fu (fu p (n y) x) (n x) y) := by
  have nxy : n x ≠ n y := fun e => xy (C.inj lx ly e)
  have Nx : fu (fu n x (n y)) y (n x) x = n y := by rw [fu_n _ _ xy, fu_s]
  have Ny : fu (fu n x (n y)) y (n x) y = n x := fu_s _ _ _
  have No : ∀ g, g ≠ x → g ≠ y → fu (fu n x (n y)) y (n x) g = n g := fun g h1 h2 => by rw [fu_n _ _ h2, fu_n _ _ h1]
  have Px : fu (fu p (n y) x) (n x) y (n x) = y := fu_s _ _ _
  have Py : fu (fu p (n y) x) (n x) y (n y) = x := by rw [fu_n _ _ nxy.symm, fu_s]
  have Po : ∀ g, g ≠ n x → g ≠ n y → fu (fu p (n y) x) (n x) y g = p g := fun g h1 h2 => by rw [fu_n _ _ h1, fu_n _ _ h2]
  intro h hl
  obtain ⟨b1, b2, b3, b4⟩ := C h hl
  refine ⟨?_, ?_, ?_, ?_⟩
  · by_cases z1 : h = x
    · rw [z1, Nx]; exact (C y ly).1
    · by_cases z2 : h = y
      · rw [z2, Ny]; exact (C x lx).1
      · rw [No h z1 z2]; exact b1
  · by_cases z1 : h = n x
    · rw [z1, Px]; exact ly
    · by_cases z2 : h = n y
      · rw [z2, Py]; exact lx
      · rw [Po h z1 z2]; exact b2
  · by_cases z1 : h = n x
    · rw [z1, Px, Ny]
    · by_cases z2 : h = n y
      · rw [z2, Py, Nx]
      · rw [Po h z1 z2, No _ (fun e => z1 (by rw [← b3, e])) (fun e => z2 (by rw [← b3, e]))]
        exact b3
  · by_cases z1 : h = x
    · rw [z1, Nx, Py]
    · by_cases z2 : h = y
      · rw [z2, Ny, Px]
      · rw [No h z1 z2, Po _ (fun e => z1 (C.inj hl lx e)) (fun e => z2 (C.inj hl ly e))]
        exact b4
/-- the halves behind x up to y are a new cell's -/
theorem Cy.split (C : Cy L n p o) {x y : Hf} (lx : L x) (ly : L y) (xy : x ≠ y) (oxy : o x = o y) (K : Nat) (eK : itn n K (n x) = y) (hy : ∀ k, k < K → itn n k (n x) ≠ y) (hx : ∀ k, k ≤ K → itn n k (n x) ≠ x) (o' : Hf → Ce) (fr : Ce) (hfr : ∀ g, L g → o g ≠ fr) (ho1 : ∀ k, k ≤ K → o' (itn n k (n x)) = fr) (ho2 : ∀ g, L g → (∀ k, k ≤ K → itn n k (n x) ≠ g) → o' g = o g) : Cy L (fu (fu n x (n y)) y (n x)) (fu (fu p (n y) x) (n x) y) o' := by
  have P' := C.1.swap lx ly xy
  have Nx : fu (fu n x (n y)) y (n x) x = n y := by rw [fu_n _ _ xy, fu_s]
  have Ny : fu (fu n x (n y)) y (n x) y = n x := fu_s _ _ _
  have No : ∀ g, g ≠ x → g ≠ y → fu (fu n x (n y)) y (n x) g = n g := fun g h1 h2 => by rw [fu_n _ _ h2, fu_n _ _ h1]
  -- in the part or not
  have dec : ∀ g, (∃ k, k ≤ K ∧ itn n k (n x) = g) ∨ (∀ k, k ≤ K → itn n k (n x) ≠ g) := by
    intro g
    by_cases z : ∃ k, k ≤ K ∧ itn n k (n x) = g
    · exact Or.inl z
    · exact Or.inr (fun k hk e => z ⟨k, hk, e⟩)
  have lnx := (C.1 x lx).1
  have outs : ∀ g, L g → (∀ k, k ≤ K → itn n k (n x) ≠ g) → g ≠ x → g ≠ y ∧ (∀ k, k ≤ K → itn n k (n x) ≠ n g) := by
    intro g lg hg gx
    refine ⟨fun e => hg K (Nat.le_refl _) (by rw [eK, e]), fun k hk e => ?_⟩
    cases k with
    | zero => exact gx (C.inj lx lg e).symm
    | succ k =>
      rw [itn_s] at e
      exact hg k (by omega) (C.inj (C.1.lit k _ lnx) lg e)
  have outy : ∀ k, k ≤ K → itn n k (n x) ≠ n y := by
    intro k hk e
    cases k with
    | zero => exact xy (C.inj lx ly e)
    | succ k =>
      rw [itn_s] at e
      exact hy k (by omega) (C.inj (C.1.lit k _ lnx) ly e)
  have outx : ∀ k, k ≤ K → itn n k (n x) ≠ x := hx
  -- the walks
  have inY : ∀ d k, k + d = K → Rc (fu (fu n x (n y)) y (n x)) (itn n k (n x)) y := by
    intro d
    induction d with
    | zero => intro k hk; rw [show k = K by omega, eK]; exact Rc.refl _ _
    | succ d ih =>
      intro k hk
      have s := Rc.step (fu (fu n x (n y)) y (n x)) (itn n k (n x))
      rw [No _ (hx k (by omega)) (hy k (by omega)), ← itn_s n k] at s
      exact s.trans (ih (k + 1) (by omega))
  have outX : ∀ k g, L g → (∀ k, k ≤ K → itn n k (n x) ≠ g) → itn n k g = x → Rc (fu (fu n x (n y)) y (n x)) g x := by
    intro k
    induction k with
    | zero => intro g _ _ e; rw [← e]; exact Rc.refl _ _
    | succ k ih =>
      intro g lg hg e
      by_cases z : g = x
      · rw [z]; exact Rc.refl _ _
      · obtain ⟨q1, q2⟩ := outs g lg hg z
        have s := Rc.step (fu (fu n x (n y)) y (n x)) g
        rw [No g z q1] at s
        exact s.trans (ih (n g) (C.1 g lg).1 q2 e)
  have toX : ∀ g, L g → o g = o x → (∀ k, k ≤ K → itn n k (n x) ≠ g) → Rc (fu (fu n x (n y)) y (n x)) g x := by
    intro g lg og hg
    obtain ⟨k, hk⟩ := C.2.2 g x lg lx og.symm
    exact outX k g lg hg hk
  have oarc : ∀ k, o (itn n k (n x)) = o x := fun k => ((C.lit k _ lnx).2).trans (C.on lx)
  refine ⟨P', fun h hl => ?_, fun h g hl gl e => ?_⟩
  · rcases dec h with ⟨k, hk, rfl⟩ | hh
    · rw [ho1 k hk]
      by_cases kK : k = K
      · rw [kK, eK, Ny]
        exact ho1 0 (Nat.zero_le _)
      · rw [No _ (hx k hk) (hy k (by omega)), ← itn_s n k]
        exact ho1 (k + 1) (by omega)
    · rw [ho2 h hl hh]
      by_cases z : h = x
      · rw [z, Nx, ho2 _ (C.1 y ly).1 outy, C.on ly, oxy]
      · obtain ⟨q1, q2⟩ := outs h hl hh z
        rw [No h z q1, ho2 _ (C.1 h hl).1 q2, C.on hl]
  · rcases dec h with ⟨k, hk, rfl⟩ | hh
    · rw [ho1 k hk] at e
      rcases dec g with ⟨l, hlK, rfl⟩ | hg
      · have r1 := inY (K - k) k (by omega)
        have r2 := P'.symm gl (inY (K - l) l (by omega))
        exact r1.trans r2
      · rw [ho2 g gl hg] at e
        exact absurd e (hfr g gl)
    · rw [ho2 h hl hh] at e
      rcases dec g with ⟨l, hlK, rfl⟩ | hg
      · rw [ho1 l hlK] at e
        exact absurd e.symm (hfr h hl)
      · rw [ho2 g gl hg] at e
        by_cases z : o h = o x
        · exact (toX h hl z hh).trans (P'.symm gl (toX g gl (e.trans z) hg))
        · refine RcMap (L := fun u => L u ∧ o u = o h) (n := n) (fun u hu => ⟨(C.1 u hu.1).1, (C.on hu.1).trans hu.2⟩) (fun u hu => ?_) ⟨hl, rfl⟩ (C.2.2 h g hl gl e)
          rw [← No u (fun q => z (by rw [← hu.2, q])) (fun q => z (by rw [← hu.2, q, oxy]))]
          exact Rc.step _ _
end SPL
