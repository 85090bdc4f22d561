/-- the state of a spread: how far each cell is, and the cells come to, in their order -/
abbrev Sp : Type := (Ce → Option Nat) × List Ce
def vis (M : Ms) (least : Int32) (cell other : Ce) (t : Sp) : Sp := if t.1 other = none then (if nI (sd M other) < least then t else (if t.2.length < 48 then (fu t.1 other (some ((t.1 cell).getD 0 + 1)), t.2 ++ [other]) else t)) else t
def prc (M : Ms) (least : Int32) (cell : Ce) (t : Sp) : Sp := it (fun i t => vis M least cell (ow M (tw (nxi M i (hI ((fH M cell).getD 0))))) t) (sd M cell) 0 t
def bfs (M : Ms) (least : Int32) : Nat → Nat → Sp → Sp
  | 0, _, t => t
  | f + 1, k, t => match t.2[k]? with
    | none => t
    | some c => bfs M least f (k + 1) (prc M least c t)
def SpI (t : Sp) : Prop := t.2.length ≤ 48 ∧ (∀ c j, t.1 c = some j → j < 48) ∧ (∀ c, c ∈ t.2 → ∃ j, t.1 c = some j ∧ j < t.2.length)
def RepQ (M : Ms) (t : Sp) (μ : mm_U) (w : Nat) : Prop := RepW M t.1 μ w ∧ μ w 4 = nI t.2.length ∧ (∀ k c, t.2[k]? = some c → μ (w + 3) k = nI c.val) ∧ SpI t
/-- a cell's first half is there -/
def HasF (M : Ms) : Prop := ∀ c, 0 < sd M c → ∃ h : Hf, fH M c = some h.val ∧ lv M (wl h) = true
theorem vis_mem {M : Ms} {least : Int32} {cell other : Ce} {t : Sp} {c : Ce} (hc : c ∈ t.2) : c ∈ (vis M least cell other t).2 := by
  unfold vis
  split
  · split
    · exact hc
    · split
      · exact List.mem_append.mpr (Or.inl hc)
      · exact hc
  · exact hc
section WY2
variable {sh : mm_Sh} {w b : Nat} {μ μ1 : mm_U} {M : Ms} {t : Sp}
/-- one push -/
theorem RepQ.push (R : RepQ M t μ w) (cell other : Ce) (j : Nat) (hm : cell ∈ t.2) (hj : t.1 cell = some j) (hl : t.2.length < 48) (ho : t.1 other = none) : RepQ M (fu t.1 other (some (j + 1)), t.2 ++ [other]) (mu (mu (mu μ (w + 1) (upd (μ (w + 1)) other.val (nI (j + 1)))) (w + 3) (upd (μ (w + 3)) t.2.length (nI other.val))) w (upd (μ w) 4 (nI (t.2.length + 1)))) w := by
  obtain ⟨⟨r1, r2⟩, r3, r4, i1, i2, i3⟩ := R
  obtain ⟨j', e1, e2⟩ := i3 cell hm
  have ej : j' = j := by rw [hj] at e1; exact (Option.some.inj e1).symm
  subst ej
  refine ⟨⟨fun c => ?_, fun c => ?_⟩, ?_, fun k c hk => ?_, ?_, fun c x hx => ?_, fun c hc => ?_⟩
  · simp (disch := omega) only [mu_n, mu_s]
    rw [upd_fin]
    show _ = fo (fu t.1 other (some (j' + 1)) c)
    unfold fu
    split
    · rfl
    · exact r1 c
  · simp (disch := omega) only [mu_n, mu_s]
    exact r2 c
  · rw [mu_s, upd_s, List.length_append]
    rfl
  · simp (disch := omega) only [mu_n, mu_s]
    by_cases z : k < t.2.length
    · rw [List.getElem?_append_left z] at hk
      rw [upd_n _ _ (by omega)]
      exact r4 k c hk
    · have hk' := (List.getElem?_eq_some_iff.mp hk).1
      rw [List.length_append] at hk'
      have zz : k = t.2.length := by
        have : ([other] : List Ce).length = 1 := rfl
        omega
      subst zz
      rw [List.getElem?_append_right (Nat.le_refl _), Nat.sub_self] at hk
      cases hk
      exact upd_s _ _ _
  · rw [List.length_append]
    have : ([other] : List Ce).length = 1 := rfl
    omega
  · have hx : fu t.1 other (some (j' + 1)) c = some x := hx
    by_cases z : c = other
    · rw [z, fu_s] at hx
      cases hx
      omega
    · rw [fu_n _ _ z] at hx
      exact i2 c x hx
  · have hlen : (t.2 ++ [other]).length = t.2.length + 1 := List.length_append
    rw [hlen]
    show ∃ x, fu t.1 other (some (j' + 1)) c = some x ∧ _
    rcases List.mem_append.mp hc with z | z
    · obtain ⟨x, x1, x2⟩ := i3 c z
      have ne : c ≠ other := fun q => by rw [q, ho] at x1; cases x1
      exact ⟨x, by rw [fu_n _ _ ne]; exact x1, by omega⟩
    · have : c = other := List.mem_singleton.mp z
      rw [this]
      exact ⟨j' + 1, fu_s _ _ _, by omega⟩
end WY2
