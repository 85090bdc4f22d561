/-! ===== two cycles become one ===== -/
section MRG
variable {L : Hf → Prop} {n p : Hf → Hf} {o : Hf → Ce}
theorem Cy.merge (C : Cy L n p o) {x y : Hf} (lx : L x) (ly : L y) (ne : o x ≠ o y) : Cy L (fu (fu n x (n y)) y (n x)) (fu (fu p (n y) x) (n x) y) (fun g => if o g = o y then o x else o g) := by
  have xy : x ≠ y := fun e => ne (by rw [e])
  have nxy : n x ≠ n y := fun e => xy (C.inj lx ly e)
  have Nx : fu (fu n x (n y)) y (n x) x = n y := by rw [fu_n _ _ xy, fu_s]
  have Ny : fu (fu n x (n y)) y (n x) y = n x := fu_s _ _ _
  have No : ∀ g, g ≠ x → g ≠ y → fu (fu n x (n y)) y (n x) g = n g := fun g h1 h2 => by rw [fu_n _ _ h2, fu_n _ _ h1]
  have Px : fu (fu p (n y) x) (n x) y (n x) = y := fu_s _ _ _
  have Py : fu (fu p (n y) x) (n x) y (n y) = x := by rw [fu_n _ _ nxy.symm, fu_s]
  have Po : ∀ g, g ≠ n x → g ≠ n y → fu (fu p (n y) x) (n x) y g = p g := fun g h1 h2 => by rw [fu_n _ _ h1, fu_n _ _ h2]
  have oy := C.on ly
  have ox := C.on lx
  have cl1 : ∀ (k : Nat) (u : Hf), L u → o u = o x → itn n k u = x → Rc (fu (fu n x (n y)) y (n x)) u x := by
    intro k
    induction k with
    | zero => intro u _ _ e; rw [← e]; exact Rc.refl _ _
    | succ k ih =>
      intro u lu ou e
      by_cases z : u = x
      · rw [z]; exact Rc.refl _ _
      · have s := Rc.step (fu (fu n x (n y)) y (n x)) u
        rw [No u z (fun q => ne (by rw [← ou, q]))] at s
        exact s.trans (ih (n u) (C.1 u lu).1 ((C.on lu).trans ou) e)
  have cl2 : ∀ (k : Nat) (u : Hf), L u → o u = o y → itn n k u = y → Rc (fu (fu n x (n y)) y (n x)) u y := by
    intro k
    induction k with
    | zero => intro u _ _ e; rw [← e]; exact Rc.refl _ _
    | succ k ih =>
      intro u lu ou e
      by_cases z : u = y
      · rw [z]; exact Rc.refl _ _
      · have s := Rc.step (fu (fu n x (n y)) y (n x)) u
        rw [No u (fun q => ne (by rw [← ou, q])) z] at s
        exact s.trans (ih (n u) (C.1 u lu).1 ((C.on lu).trans ou) e)
  have toX : ∀ u, L u → o u = o x → Rc (fu (fu n x (n y)) y (n x)) u x := fun u lu ou => by
    obtain ⟨k, hk⟩ := C.2.2 u x lu lx ou.symm
    exact cl1 k u lu ou hk
  have toY : ∀ u, L u → o u = o y → Rc (fu (fu n x (n y)) y (n x)) u y := fun u lu ou => by
    obtain ⟨k, hk⟩ := C.2.2 u y lu ly ou.symm
    exact cl2 k u lu ou hk
  have sx : Rc (fu (fu n x (n y)) y (n x)) x (n y) := by
    have := Rc.step (fu (fu n x (n y)) y (n x)) x
    rw [Nx] at this
    exact this
  have sy : Rc (fu (fu n x (n y)) y (n x)) y (n x) := by
    have := Rc.step (fu (fu n x (n y)) y (n x)) y
    rw [Ny] at this
    exact this
  have all : ∀ g, L g → Rc (fu (fu n x (n y)) y (n x)) g (n g) := by
    intro g lg
    by_cases z1 : g = x
    · rw [z1]
      exact (sx.trans (toY _ (C.1 y ly).1 oy)).trans sy
    · by_cases z2 : g = y
      · rw [z2]
        exact (sy.trans (toX _ (C.1 x lx).1 ox)).trans sx
      · rw [← No g z1 z2]
        exact Rc.step _ _
  have mm : ∀ u v, L u → Rc n u v → Rc (fu (fu n x (n y)) y (n x)) u v := fun u v lu r => RcMap (L := L) (fun h hl => (C.1 h hl).1) all lu r
  refine ⟨fun h hl => ?_, fun h hl => ?_, fun h g hl gl e => ?_⟩
  · obtain ⟨b1, b2, b3, b4⟩ := C.1 h hl
    refine ⟨?_, ?_, ?_, ?_⟩
    · by_cases z1 : h = x
      · rw [z1, Nx]; exact (C.1 y ly).1
      · by_cases z2 : h = y
        · rw [z2, Ny]; exact (C.1 x lx).1
        · rw [No h z1 z2]; exact b1
    · by_cases z1 : h = n x
      · rw [z1, Px]; exact ly
      · by_cases z2 : h = n y
        · rw [z2, Py]; exact lx
        · rw [Po h z1 z2]; exact b2
    · by_cases z1 : h = n x
      · rw [z1, Px, Ny]
      · by_cases z2 : h = n y
        · rw [z2, Py, Nx]
        · rw [Po h z1 z2, No _ (fun e => z1 (by rw [← b3, e])) (fun e => z2 (by rw [← b3, e]))]
          exact b3
    · by_cases z1 : h = x
      · rw [z1, Nx, Py]
      · by_cases z2 : h = y
        · rw [z2, Ny, Px]
        · rw [No h z1 z2, Po _ (fun e => z1 (C.inj hl lx e)) (fun e => z2 (C.inj hl ly e))]
          exact b4
  · dsimp only
    by_cases z1 : h = x
    · rw [z1, Nx, oy, if_pos rfl, if_neg ne]
    · by_cases z2 : h = y
      · rw [z2, Ny, ox, if_neg ne, if_pos rfl]
      · rw [No h z1 z2, C.on hl]
  · dsimp only at e
    by_cases z1 : o g = o y
    · rw [if_pos z1] at e
      by_cases z2 : o h = o y
      · exact mm h g hl (C.2.2 h g hl gl (z1.trans z2.symm))
      · rw [if_neg z2] at e
        exact ((toX h hl e.symm).trans sx).trans (mm _ g (C.1 y ly).1 (C.2.2 _ g (C.1 y ly).1 gl (z1.trans oy.symm)))
    · rw [if_neg z1] at e
      by_cases z2 : o h = o y
      · rw [if_pos z2] at e
        exact ((toY h hl z2).trans sy).trans (mm _ g (C.1 x lx).1 (C.2.2 _ g (C.1 x lx).1 gl (e.trans ox.symm)))
      · rw [if_neg z2] at e
        exact mm h g hl (C.2.2 h g hl gl e)
end MRG
/-! ===== a mesh whose meetings are whole but for some ===== -/
def KI (M : Ms) (X : Hf → Prop) : Prop := Cy (LvH M) (nx M) (pv M) (ow M) ∧ (∀ c, sd M c = cH (fib M c)) ∧ (∀ h, LvH M h → ow M (tw h) ≠ ow M h) ∧ (∀ h, LvH M h → ¬ X h → ph M (ph M (ph M h)) = h) ∧ (∀ w, lv M w = true → ∃ n, n ≤ 99 ∧ ln M w = nI n)
theorem Inv.ki {M : Ms} (J : Inv M) : KI M (fun _ => False) := ⟨J.1, J.2.1, J.2.2.1, fun h hl _ => J.2.2.2.1 h hl, J.2.2.2.2.2.2⟩
theorem goM_f (M : Ms) (g : Hf) (h1 : pv M g ≠ g) (h2 : tw g ≠ nx M g) (h3 : tw g ≠ pv M g) (h4 : pv M (tw g) ≠ tw g) (h5 : ow M (tw g) ≠ ow M g) : lv (goM M g) = fu (lv M) (wl g) false ∧ ow (goM M g) = ow M ∧ nx (goM M g) = fu (fu (nx M) (pv M g) (nx M g)) (pv M (tw g)) (nx M (tw g)) ∧ pv (goM M g) = fu (fu (pv M) (nx M g) (pv M g)) (nx M (tw g)) (pv M (tw g)) ∧ sd (goM M g) = fu (fu (sd M) (ow M g) (sd M (ow M g) - 1)) (ow M (tw g)) (sd M (ow M (tw g)) - 1) ∧ ln (goM M g) = ln M := by
  unfold goM unM
  refine ⟨?_, ?_, ?_, ?_, ?_, ?_⟩
  · simp only [g_lv_sLv, g_lv_sPv, g_lv_sNx, g_lv_sSd]
  · simp only [g_ow_sLv, g_ow_sPv, g_ow_sNx, g_ow_sSd]
  · simp only [g_nx_sLv, g_nx_sPv, g_nx_sNx, g_nx_sSd, g_pv_sLv, g_pv_sPv, g_pv_sNx, g_pv_sSd]
    rw [fu_n (nx M) _ (fun e => h1 e.symm), fu_n (pv M) _ h2, fu_n (nx M) _ h3]
  · simp only [g_nx_sLv, g_nx_sPv, g_nx_sNx, g_nx_sSd, g_pv_sLv, g_pv_sPv, g_pv_sNx, g_pv_sSd]
    rw [fu_n (nx M) _ (fun e => h1 e.symm), fu_n (pv M) _ h2, fu_n (nx M) _ h3, fu_n _ _ (fun e => h4 e.symm), fu_n (nx M) _ h3]
  · simp only [g_sd_sLv, g_sd_sPv, g_sd_sNx, g_sd_sSd]
    rw [fu_n (sd M) _ h5]
  · simp only [g_ln_sLv, g_ln_sPv, g_ln_sNx, g_ln_sSd]
