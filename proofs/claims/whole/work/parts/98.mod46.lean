/-! ===== the class's spreads are spreads over graphs ===== -/
section GRB
variable {M : Ms} {least : Int32}
/-- from cell to cell over a wall, to those of enough sides -/
def GrM (M : Ms) (least : Int32) (u v : Ce) : Prop := ∃ h, LvH M h ∧ ow M h = u ∧ ow M (tw h) = v ∧ ¬ nI (sd M v) < least
def ggM (M : Ms) (least : Int32) (c : Ce) (i : Nat) : Option Ce := if nI (sd M (ow M (tw (nxi M i (hI ((fH M c).getD 0)))))) < least then none else some (ow M (tw (nxi M i (hI ((fH M c).getD 0)))))
theorem vis_gst (c : Ce) (i : Nat) (t : Sp) : vis M least c (ow M (tw (nxi M i (hI ((fH M c).getD 0))))) t = gst (ggM M least) c i t := by
  unfold vis gst ggM gpu
  generalize ow M (tw (nxi M i (hI ((fH M c).getD 0)))) = o
  by_cases h : nI (sd M o) < least
  · rw [if_pos h, if_pos h]
    dsimp only
    split <;> rfl
  · rw [if_neg h, if_neg h]
theorem prc_gpr (c : Ce) (t : Sp) : prc M least c t = gpr (ggM M least) (sd M) c t := by
  unfold prc gpr
  rw [show (fun i t => vis M least c (ow M (tw (nxi M i (hI ((fH M c).getD 0))))) t) = gst (ggM M least) c from funext (fun i => funext (fun t => vis_gst c i t))]
theorem bfs_gbf : ∀ (d k : Nat) (t : Sp), bfs M least d k t = gbf (ggM M least) (sd M) d k t
  | 0, _, _ => rfl
  | d + 1, k, t => by
    unfold bfs gbf
    cases t.2[k]? with
    | none => rfl
    | some c =>
      dsimp only
      rw [prc_gpr, bfs_gbf d (k + 1)]
/-- the halves of a cell, from its first on -/
theorem Inv.rnd (J : Inv M) (c : Ce) (g : Hf) : (LvH M g ∧ ow M g = c) ↔ ∃ i, i < sd M c ∧ nxi M i (hI ((fH M c).getD 0)) = g := by
  constructor
  · rintro ⟨lg, og⟩
    have hc : 0 < sd M c := by rw [← og]; exact J.owl g lg
    obtain ⟨f, fh, lf, of⟩ := J.hasf c hc
    rw [fh]
    show ∃ i, i < sd M c ∧ nxi M i (hI f.val) = g
    rw [hI_val]
    obtain ⟨k, hk, e⟩ := (J.orb f lf).2.2 g lg (by rw [of, og])
    rw [of] at hk
    exact ⟨k, hk, by rw [nxi_itn]; exact e⟩
  · rintro ⟨i, hi, e⟩
    obtain ⟨f, fh, lf, of⟩ := J.hasf c (by omega)
    rw [fh] at e
    have e : nxi M i (hI f.val) = g := e
    rw [hI_val, nxi_itn] at e
    rw [← e]
    obtain ⟨a, b⟩ := J.1.lit i f lf
    exact ⟨a, b.trans of⟩
theorem Inv.grm (J : Inv M) (u v : Ce) : GrM M least u v ↔ ∃ i, i < sd M u ∧ ggM M least u i = some v := by
  unfold GrM ggM
  constructor
  · rintro ⟨h, lh, oh, rfl, hn⟩
    obtain ⟨i, hi, e⟩ := (J.rnd u h).mp ⟨lh, oh⟩
    exact ⟨i, hi, by rw [e, if_neg hn]⟩
  · rintro ⟨i, hi, e⟩
    obtain ⟨lh, oh⟩ := (J.rnd u _).mpr ⟨i, hi, rfl⟩
    generalize nxi M i (hI ((fH M u).getD 0)) = h at e lh oh
    by_cases z : nI (sd M (ow M (tw h))) < least
    · rw [if_pos z] at e
      cases e
    · rw [if_neg z] at e
      cases e
      exact ⟨h, lh, oh, rfl, z⟩
theorem Inv.spf (J : Inv M) (c : Ce) (d : Ce → Option Nat) (hc : d c = none) : ∃ K, BI (GrM M least) c d K (spF M least c d) ∧ (spF M least c d).2.length ≤ K := by
  unfold spF
  rw [bfs_gbf]
  exact BI.run (fun u v => J.grm u v) 48 0 _ rfl (BI.start hc)
theorem Inv.spd (J : Inv M) (c : Ce) : DsG (GrM M least) c (spF M least c (fun _ => none)).1 := by
  obtain ⟨K, B, h⟩ := J.spf (least := least) c (fun _ => none) rfl
  exact B.dsg h
/-- places: a cell with so many rounds -/
def gg3 (M : Ms) (least : Int32) (k : P3) (i : Nat) : Option P3 := if nr (x3 k + rx M (nxi M i (hI ((fH M (c3 k)).getD 0)))) = true ∧ nr (y3 k + ry M (nxi M i (hI ((fH M (c3 k)).getD 0)))) = true ∧ ¬ nI (sd M (ow M (tw (nxi M i (hI ((fH M (c3 k)).getD 0)))))) < least then some (p3 (ow M (tw (nxi M i (hI ((fH M (c3 k)).getD 0))))) (x3 k + rx M (nxi M i (hI ((fH M (c3 k)).getD 0)))) (y3 k + ry M (nxi M i (hI ((fH M (c3 k)).getD 0))))) else none
def Gr3 (M : Ms) (least : Int32) (u v : P3) : Prop := ∃ i, i < sd M (c3 u) ∧ gg3 M least u i = some v
theorem gv3_gst (k : P3) (i : Nat) (t : Sq) : gv3 M least k (nxi M i (hI ((fH M (c3 k)).getD 0))) t = gst (gg3 M least) k i t := by
  unfold gv3 gst gg3
  generalize nxi M i (hI ((fH M (c3 k)).getD 0)) = h
  by_cases p1 : nr (x3 k + rx M h) = true
  · by_cases p2 : nr (y3 k + ry M h) = true
    · by_cases p4 : nI (sd M (ow M (tw h))) < least
      · rw [if_pos p1, if_pos p2, if_pos p4, if_neg (fun q => q.2.2 p4)]
      · rw [if_pos p1, if_pos p2, if_neg p4, if_pos ⟨p1, p2, p4⟩]
        rfl
    · rw [if_pos p1, if_neg p2, if_neg (fun q => p2 q.2.1)]
  · rw [if_neg p1, if_neg (fun q => p1 q.1)]
theorem goR_gpr (c : P3) (t : Sq) : goR M least c t = gpr (gg3 M least) (fun k => sd M (c3 k)) c t := by
  unfold goR gpr
  rw [show (fun i t => gv3 M least c (nxi M i (hI ((fH M (c3 c)).getD 0))) t) = gst (gg3 M least) c from funext (fun i => funext (fun t => gv3_gst c i t))]
theorem bfs3_gbf : ∀ (d k : Nat) (t : Sq), bfs3 M least d k t = gbf (gg3 M least) (fun k => sd M (c3 k)) d k t
  | 0, _, _ => rfl
  | d + 1, k, t => by
    unfold bfs3 gbf
    cases t.2[k]? with
    | none => rfl
    | some c =>
      dsimp only
      rw [goR_gpr, bfs3_gbf d (k + 1)]
theorem srd (M : Ms) (least : Int32) (c : Ce) : DsG (Gr3 M least) (p3 c (nI 0) (nI 0)) (srF M least c).1 := by
  unfold srF
  rw [bfs3_gbf, show pu3 (fun _ => none, []) (p3 c (nI 0) (nI 0)) 0 = (fu (fun _ => none) (p3 c (nI 0) (nI 0)) (some 0), [p3 c (nI 0) (nI 0)]) from rfl]
  obtain ⟨K, B, h⟩ := BI.run (G := Gr3 M least) (fun u v => Iff.rfl) 1200 0 (fu (fun _ => none) (p3 c (nI 0) (nI 0)) (some 0), [p3 c (nI 0) (nI 0)]) rfl (BI.start (d0 := fun _ => none) rfl)
  exact B.dsg h
/-- how many are not come to -/
def cnN {N : Nat} (f : Fin N → Option Nat) : Nat := sm N (fun i => if h : i < N then b1 (decide (f ⟨i, h⟩ = none)) else 0)
theorem sm_lt {a b : Nat → Nat} {i : Nat} : ∀ (n : Nat), (∀ j, j < n → a j ≤ b j) → i < n → a i < b i → sm n a < sm n b
  | 0, _, h, _ => absurd h (Nat.not_lt_zero _)
  | n + 1, h, hi, hl => by
    show sm n a + a n < sm n b + b n
    have e := h n (by omega)
    by_cases z : i = n
    · subst z
      have := sm_mono (f := a) (g := b) i (fun j hj => h j (by omega))
      omega
    · have := sm_lt (a := a) (b := b) (i := i) n (fun j hj => h j (by omega)) (by omega) hl
      omega
theorem cnN_le {N : Nat} (f : Fin N → Option Nat) : cnN f ≤ N := by
  have := sm_le (f := fun i => if h : i < N then b1 (decide (f ⟨i, h⟩ = none)) else 0) (b := 1) N (fun j hj => by
    show (if h : j < N then b1 (decide (f ⟨j, h⟩ = none)) else 0) ≤ 1
    rw [dif_pos hj]
    exact b1_le _)
  unfold cnN
  omega
theorem cnN_lt {N : Nat} {f g : Fin N → Option Nat} {v : Fin N} (h : ∀ w, f w ≠ none → g w ≠ none) (h1 : f v = none) (h2 : g v ≠ none) : cnN g < cnN f := by
  unfold cnN
  refine sm_lt (i := v.val) N (fun j hj => ?_) v.isLt ?_
  · show (if h : j < N then b1 (decide (g ⟨j, h⟩ = none)) else 0) ≤ (if h : j < N then b1 (decide (f ⟨j, h⟩ = none)) else 0)
    rw [dif_pos hj, dif_pos hj]
    by_cases z : g ⟨j, hj⟩ = none
    · have : f ⟨j, hj⟩ = none := Decidable.byContradiction (fun q => h _ q z)
      rw [decide_eq_true z, decide_eq_true this]
      exact Nat.le_refl _
    · rw [decide_eq_false z]
      exact Nat.zero_le _
  · show (if h : v.val < N then b1 (decide (g ⟨v.val, h⟩ = none)) else 0) < (if h : v.val < N then b1 (decide (f ⟨v.val, h⟩ = none)) else 0)
    rw [dif_pos v.isLt, dif_pos v.isLt]
    have e1 : f ⟨v.val, v.isLt⟩ = none := h1
    have e2 : ¬ g ⟨v.val, v.isLt⟩ = none := h2
    rw [decide_eq_true e1, decide_eq_false e2]
    decide
end GRB
