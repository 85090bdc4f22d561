/-! ===== the mesh's law ===== -/
def LvH (M : Ms) : Hf → Prop := fun h => lv M (wl h) = true
def fib (M : Ms) (c : Ce) (h : Hf) : Bool := lv M (wl h) && decide (ow M h = c)
def ph (M : Ms) (h : Hf) : Hf := tw (nx M h)
def cCe (M : Ms) : Nat := sm 48 (fun i => b1 (decide (0 < sd M (cI i))))
def cWa (M : Ms) : Nat := sm 144 (fun i => b1 (lv M (wI i)))
def Inv (M : Ms) : Prop := Cy (LvH M) (nx M) (pv M) (ow M) ∧ (∀ c, sd M c = cH (fib M c)) ∧ (∀ h, LvH M h → ow M (tw h) ≠ ow M h) ∧ (∀ h, LvH M h → ph M (ph M (ph M h)) = h) ∧ (∀ c, 0 < sd M c → 3 ≤ sd M c) ∧ cWa M = 3 * cCe M ∧ (∀ w, lv M w = true → ∃ n, n ≤ 99 ∧ ln M w = nI n)
theorem fib_iff {M : Ms} {c : Ce} {h : Hf} : fib M c h = true ↔ LvH M h ∧ ow M h = c := by
  unfold fib LvH
  rw [Bool.and_eq_true, decide_eq_true_iff]
theorem LvH_tw {M : Ms} {h : Hf} : LvH M (tw h) ↔ LvH M h := by unfold LvH; rw [wl_tw]
theorem LvH_h0 {M : Ms} {w : Wa} : LvH M (h0 w) ↔ lv M w = true := by unfold LvH; rw [wl_h0]
theorem LvH_h1 {M : Ms} {w : Wa} : LvH M (h1 w) ↔ lv M w = true := by unfold LvH; rw [wl_h1]
theorem tw_inj {h g : Hf} (e : tw h = tw g) : h = g := by rw [← tw_tw h, e, tw_tw]
section INV
variable {M : Ms}
theorem Inv.sdb (J : Inv M) : SdB M := fun c => by rw [J.2.1]; exact cH_le _
theorem Inv.lvn (J : Inv M) : LvN M := fun h hl => (J.1.1 h hl).1
theorem Inv.nl (J : Inv M) {h : Hf} (hl : LvH M h) : LvH M (nx M h) := (J.1.1 h hl).1
theorem Inv.pl (J : Inv M) {h : Hf} (hl : LvH M h) : LvH M (pv M h) := (J.1.1 h hl).2.1
theorem Inv.np (J : Inv M) {h : Hf} (hl : LvH M h) : nx M (pv M h) = h := (J.1.1 h hl).2.2.1
theorem Inv.pn (J : Inv M) {h : Hf} (hl : LvH M h) : pv M (nx M h) = h := (J.1.1 h hl).2.2.2
theorem Inv.on (J : Inv M) {h : Hf} (hl : LvH M h) : ow M (nx M h) = ow M h := J.1.on hl
theorem Inv.op (J : Inv M) {h : Hf} (hl : LvH M h) : ow M (pv M h) = ow M h := J.1.op hl
theorem Inv.pos (J : Inv M) {h : Hf} (hl : LvH M h) : 3 ≤ sd M (ow M h) := J.2.2.2.2.1 _ (by rw [J.2.1]; exact cH_ge h (fib_iff.mpr ⟨hl, rfl⟩))
theorem Inv.owl (J : Inv M) : OwL M := fun h hl => by have := J.pos hl; omega
theorem Inv.orb (J : Inv M) (h : Hf) (hl : LvH M h) : itn (nx M) (sd M (ow M h)) h = h ∧ Dst (nx M) h (sd M (ow M h)) ∧ ∀ g, LvH M g → ow M g = ow M h → ∃ k, k < sd M (ow M h) ∧ itn (nx M) k h = g := by
  have := J.1.orb h hl (fib M (ow M h)) (fun g => fib_iff)
  rw [← J.2.1] at this
  exact this.2
theorem Inv.hasf (J : Inv M) (c : Ce) (hc : 0 < sd M c) : ∃ h : Hf, fH M c = some h.val ∧ LvH M h ∧ ow M h = c := by
  rw [J.2.1] at hc
  obtain ⟨g, hg⟩ := cH_pos hc
  obtain ⟨g1, g2⟩ := fib_iff.mp hg
  obtain ⟨j, hj⟩ := fd_ex (P := fHp M c) g.isLt (by unfold fHp; rw [hI_val]; exact decide_eq_true ⟨g1, g2⟩)
  obtain ⟨j1, _, j2, _⟩ := fd_some hj
  have j3 := of_decide_eq_true j1
  have hlt : j < 288 := by omega
  exact ⟨hI j, by rw [hI_lt hlt]; exact hj, j3.1, j3.2⟩
theorem Inv.hasF (J : Inv M) : HasF M := fun c hc => by
  obtain ⟨h, h1, h2, _⟩ := J.hasf c hc
  exact ⟨h, h1, h2⟩
theorem fH_ow {M : Ms} {c : Ce} {f : Hf} (h : fH M c = some f.val) : LvH M f ∧ ow M f = c := by
  have := of_decide_eq_true (fd_some h).1
  rw [hI_val] at this
  exact this
/-- three at a meeting -/
theorem Inv.meet (J : Inv M) {a : Hf} (hl : LvH M a) : nx M (tw (nx M a)) = tw (pv M (tw a)) := by
  have e := J.2.2.2.1 a hl
  unfold ph at e
  have l1 : LvH M (tw (nx M a)) := LvH_tw.mpr (J.nl hl)
  have l2 : LvH M (tw (nx M (tw (nx M a)))) := LvH_tw.mpr (J.nl l1)
  have e2 : nx M (tw (nx M (tw (nx M a)))) = tw a := by rw [← e, tw_tw, e]
  have e3 := J.pn l2
  rw [e2] at e3
  rw [e3, tw_tw]
theorem Inv.endp (J : Inv M) {a : Hf} (hl : LvH M a) : ow M (tw (pv M a)) = en M (tw a) := by
  have lt : LvH M (tw a) := LvH_tw.mpr hl
  have := J.meet lt
  rw [tw_tw] at this
  rw [← this]
  exact J.on (LvH_tw.mpr (J.nl lt))
theorem Inv.nne (J : Inv M) {a : Hf} (hl : LvH M a) : nx M a ≠ a := by
  have := (J.orb a hl).2.1 0 1 (by omega) (by have := J.pos hl; omega)
  exact fun e => this e.symm
theorem Inv.pne (J : Inv M) {a : Hf} (hl : LvH M a) : pv M a ≠ a := fun e => J.nne hl (by have := J.np hl; rw [e] at this; exact this)
theorem Inv.npne (J : Inv M) {a : Hf} (hl : LvH M a) : nx M a ≠ pv M a := by
  intro e
  have h2 : itn (nx M) 2 a = a := by
    show nx M (nx M a) = a
    rw [e, J.np hl]
  exact (J.orb a hl).2.1 0 2 (by omega) (by have := J.pos hl; omega) h2.symm
theorem can_iff {w : Wa} : can M w = true ↔ (3 < sd M (ow M (h0 w)) ∧ 3 < sd M (ow M (h1 w))) ∧ (ow M (h0 w) ≠ ow M (h1 w) ∧ ow M (h0 w) ≠ en M (h0 w) ∧ ow M (h0 w) ≠ en M (h1 w) ∧ ow M (h1 w) ≠ en M (h0 w) ∧ ow M (h1 w) ≠ en M (h1 w) ∧ en M (h0 w) ≠ en M (h1 w)) := by
  unfold can four
  rw [Bool.and_eq_true, decide_eq_true_iff, decide_eq_true_iff]
theorem Inv.flok (J : Inv M) {w : Wa} (hl : lv M w = true) (hc : can M w = true) : FlOk M w := by
  obtain ⟨⟨c1, c2⟩, c3, c4, c5, c6, c7, c8⟩ := can_iff.mp hc
  have l0 : LvH M (h0 w) := LvH_h0.mpr hl
  have l1 : LvH M (h1 w) := LvH_h1.mpr hl
  exact ⟨hl, J.nl l0, J.pl l0, J.nl l1, J.pl l1, c3, J.owl _ (LvH_tw.mpr (J.nl l0)), J.owl _ (LvH_tw.mpr (J.nl l1)), by omega, by omega, c4, c5, c6, c7, c8⟩
/-- what isn't touched -/
theorem Inv.same {N : Ms} (J : Inv M) (e1 : lv N = lv M) (e2 : ow N = ow M) (e3 : nx N = nx M) (e4 : pv N = pv M) (e5 : sd N = sd M) (e6 : ∀ w, lv M w = true → ∃ n, n ≤ 99 ∧ ln N w = nI n) : Inv N := by
  obtain ⟨j1, j2, j3, j4, j5, j6, j7⟩ := J
  have eL : LvH N = LvH M := by unfold LvH; rw [e1]
  refine ⟨?_, ?_, ?_, ?_, ?_, ?_, ?_⟩
  · rw [eL, e2, e3, e4]; exact j1
  · intro c
    rw [e5, j2, cH_congr (P' := fib N c)]
    intro x
    unfold fib
    rw [e1, e2]
  · rw [eL, e2]; exact j3
  · intro h hl
    unfold ph
    rw [e3]
    rw [eL] at hl
    exact j4 h hl
  · rw [e5]; exact j5
  · unfold cWa cCe
    rw [e1, e5]
    exact j6
  · rw [e1]; exact e6
theorem Inv.gro (J : Inv M) (p : Int32) : Inv (groM M p 48) := J.same rfl rfl rfl rfl rfl J.2.2.2.2.2.2
theorem Inv.sAr (J : Inv M) (c : Ce) (v : Int32) : Inv (sAr M c v) := J.same rfl rfl rfl rfl rfl J.2.2.2.2.2.2
theorem Inv.sLn (J : Inv M) (w : Wa) (n : Nat) (hn : n ≤ 99) : Inv (sLn M w (nI n)) := J.same rfl rfl rfl rfl rfl (fun v hv => by
  show ∃ m, m ≤ 99 ∧ fu (ln M) w (nI n) v = nI m
  by_cases z : v = w
  · rw [z, fu_s]; exact ⟨n, hn, rfl⟩
  · rw [fu_n _ _ z]; exact J.2.2.2.2.2.2 v hv)
theorem clamp99 (x : Int32) : ∃ n, n ≤ 99 ∧ imax (nI 0) (imin x (nI 99)) = nI n := by
  unfold imax imin
  by_cases h2 : nI 99 < x
  · rw [if_pos h2]
    exact ⟨99, by omega, rfl⟩
  · rw [if_neg h2]
    by_cases h : nI 0 < x
    · rw [if_pos h]
      obtain ⟨n, e, _, hn⟩ := rng (x := x) (a := 0) (b := 99) (by decide) (by decide) (fun q => by
        rw [Int32.lt_iff_toInt_lt] at h q
        omega) h2
      exact ⟨n, hn, e⟩
    · rw [if_neg h]
      exact ⟨0, by omega, rfl⟩
theorem Inv.str (J : Inv M) : Inv (strM M 144) := J.same rfl rfl rfl rfl rfl (fun v hv => by
  show ∃ m, m ≤ 99 ∧ (if v.val < 144 ∧ lv M v = true then strV M v else ln M v) = nI m
  rw [if_pos ⟨v.isLt, hv⟩]
  exact clamp99 _)
end INV
theorem unM_f (M : Ms) (a : Hf) (h : pv M a ≠ a) : nx (unM M a) = fu (nx M) (pv M a) (nx M a) ∧ pv (unM M a) = fu (pv M) (nx M a) (pv M a) := by
  constructor
  · rfl
  · show fu (pv M) (fu (nx M) (pv M a) (nx M a) a) (pv M a) = _
    rw [fu_n _ _ (fun e => h e.symm)]
