/-! ===== changes of a mesh, place by place ===== -/
def fu {α β : Type} [DecidableEq α] (f : α → β) (k : α) (v : β) : α → β := fun j => if j = k then v else f j
theorem fu_s {α β : Type} [DecidableEq α] (f : α → β) (k : α) (v : β) : fu f k v k = v := if_pos rfl
theorem fu_n {α β : Type} [DecidableEq α] (f : α → β) {k j : α} (v : β) (h : j ≠ k) : fu f k v j = f j := if_neg h
def sLv (M : Ms) (w : Wa) (v : Bool) : Ms := (fu (lv M) w v, ow M, nx M, pv M, rx M, ry M, ln M, sd M, ar M)
def sOw (M : Ms) (h : Hf) (v : Ce) : Ms := (lv M, fu (ow M) h v, nx M, pv M, rx M, ry M, ln M, sd M, ar M)
def sNx (M : Ms) (h : Hf) (v : Hf) : Ms := (lv M, ow M, fu (nx M) h v, pv M, rx M, ry M, ln M, sd M, ar M)
def sPv (M : Ms) (h : Hf) (v : Hf) : Ms := (lv M, ow M, nx M, fu (pv M) h v, rx M, ry M, ln M, sd M, ar M)
def sRx (M : Ms) (h : Hf) (v : Int32) : Ms := (lv M, ow M, nx M, pv M, fu (rx M) h v, ry M, ln M, sd M, ar M)
def sRy (M : Ms) (h : Hf) (v : Int32) : Ms := (lv M, ow M, nx M, pv M, rx M, fu (ry M) h v, ln M, sd M, ar M)
def sLn (M : Ms) (w : Wa) (v : Int32) : Ms := (lv M, ow M, nx M, pv M, rx M, ry M, fu (ln M) w v, sd M, ar M)
def sSd (M : Ms) (c : Ce) (v : Nat) : Ms := (lv M, ow M, nx M, pv M, rx M, ry M, ln M, fu (sd M) c v, ar M)
def sAr (M : Ms) (c : Ce) (v : Int32) : Ms := (lv M, ow M, nx M, pv M, rx M, ry M, ln M, sd M, fu (ar M) c v)
/-- nothing outside the mesh at b has changed -/
def Fr (μ μ' : mm_U) (b : Nat) : Prop := ∀ a, (a < b + 1 ∨ b + 8 < a) → μ' a = μ a
theorem Fr.refl (μ : mm_U) (b : Nat) : Fr μ μ b := fun _ _ => rfl
theorem Fr.trans {μ μ1 μ2 : mm_U} {b : Nat} (h1 : Fr μ μ1 b) (h2 : Fr μ1 μ2 b) : Fr μ μ2 b := fun a h => (h2 a h).trans (h1 a h)
theorem Fr.mu {μ μ1 : mm_U} {b a : Nat} (h : Fr μ μ1 b) (f : Nat → Int32) (h1 : b + 1 ≤ a) (h2 : a ≤ b + 8) : Fr μ (mu μ1 a f) b := fun q hq => by
  rw [mu_n _ _ (by omega)]
  exact h q hq
theorem upd_fin {n : Nat} (f : Nat → Int32) (k j : Fin n) (v : Int32) : upd f k.val v j.val = if j = k then v else f j.val := by
  unfold upd
  by_cases h : j = k
  · rw [if_pos h, if_pos (by rw [h])]
  · rw [if_neg h, if_neg (fun q => h (Fin.ext q))]
section WR
variable {b : Nat} {M : Ms} {μ : mm_U}
theorem RepC.wNx (R : RepC M μ b) (h v : Hf) : RepC (sNx M h v) (mu μ (b + 2) (upd (μ (b + 2)) h.val (nI v.val))) b := by
  obtain ⟨r1, r2, r3, r4, r5⟩ := R
  refine ⟨fun k hk => ?_, fun k hk => ?_, fun w hw => ?_, fun c => ?_, fun c hc => ?_⟩
  · obtain ⟨a1, a2, a3, a4, a5⟩ := r1 k hk
    rw [mu_n _ _ (by omega), mu_s, mu_n _ _ (by omega), mu_n _ _ (by omega), mu_n _ _ (by omega), upd_fin]
    refine ⟨a1, ?_, a3, a4, a5⟩
    show _ = nI (fu (nx M) h v k).val
    unfold fu
    split
    · rfl
    · exact a2
  · rw [mu_n _ _ (by omega)]; exact r2 k hk
  · rw [mu_n _ _ (by omega)]; exact r3 w hw
  · rw [mu_n _ _ (by omega)]; exact r4 c
  · rw [mu_n _ _ (by omega)]; exact r5 c hc
theorem RepC.wPv (R : RepC M μ b) (h v : Hf) : RepC (sPv M h v) (mu μ (b + 3) (upd (μ (b + 3)) h.val (nI v.val))) b := by
  obtain ⟨r1, r2, r3, r4, r5⟩ := R
  refine ⟨fun k hk => ?_, fun k hk => ?_, fun w hw => ?_, fun c => ?_, fun c hc => ?_⟩
  · obtain ⟨a1, a2, a3, a4, a5⟩ := r1 k hk
    rw [mu_n _ _ (by omega), mu_n _ _ (by omega), mu_s, mu_n _ _ (by omega), mu_n _ _ (by omega), upd_fin]
    refine ⟨a1, a2, ?_, a4, a5⟩
    show _ = nI (fu (pv M) h v k).val
    unfold fu
    split
    · rfl
    · exact a3
  · rw [mu_n _ _ (by omega)]; exact r2 k hk
  · rw [mu_n _ _ (by omega)]; exact r3 w hw
  · rw [mu_n _ _ (by omega)]; exact r4 c
  · rw [mu_n _ _ (by omega)]; exact r5 c hc
theorem RepC.wRx (R : RepC M μ b) (h : Hf) (v : Int32) : RepC (sRx M h v) (mu μ (b + 4) (upd (μ (b + 4)) h.val v)) b := by
  obtain ⟨r1, r2, r3, r4, r5⟩ := R
  refine ⟨fun k hk => ?_, fun k hk => ?_, fun w hw => ?_, fun c => ?_, fun c hc => ?_⟩
  · obtain ⟨a1, a2, a3, a4, a5⟩ := r1 k hk
    rw [mu_n _ _ (by omega), mu_n _ _ (by omega), mu_n _ _ (by omega), mu_s, mu_n _ _ (by omega), upd_fin]
    refine ⟨a1, a2, a3, ?_, a5⟩
    show _ = fu (rx M) h v k
    unfold fu
    split
    · rfl
    · exact a4
  · rw [mu_n _ _ (by omega)]; exact r2 k hk
  · rw [mu_n _ _ (by omega)]; exact r3 w hw
  · rw [mu_n _ _ (by omega)]; exact r4 c
  · rw [mu_n _ _ (by omega)]; exact r5 c hc
theorem RepC.wRy (R : RepC M μ b) (h : Hf) (v : Int32) : RepC (sRy M h v) (mu μ (b + 5) (upd (μ (b + 5)) h.val v)) b := by
  obtain ⟨r1, r2, r3, r4, r5⟩ := R
  refine ⟨fun k hk => ?_, fun k hk => ?_, fun w hw => ?_, fun c => ?_, fun c hc => ?_⟩
  · obtain ⟨a1, a2, a3, a4, a5⟩ := r1 k hk
    rw [mu_n _ _ (by omega), mu_n _ _ (by omega), mu_n _ _ (by omega), mu_n _ _ (by omega), mu_s, upd_fin]
    refine ⟨a1, a2, a3, a4, ?_⟩
    show _ = fu (ry M) h v k
    unfold fu
    split
    · rfl
    · exact a5
  · rw [mu_n _ _ (by omega)]; exact r2 k hk
  · rw [mu_n _ _ (by omega)]; exact r3 w hw
  · rw [mu_n _ _ (by omega)]; exact r4 c
  · rw [mu_n _ _ (by omega)]; exact r5 c hc
theorem RepC.wOw (R : RepC M μ b) (h : Hf) (v : Ce) (hl : lv M (wl h) = true) : RepC (sOw M h v) (mu μ (b + 1) (upd (μ (b + 1)) h.val (nI v.val))) b := by
  obtain ⟨r1, r2, r3, r4, r5⟩ := R
  refine ⟨fun k hk => ?_, fun k hk => ?_, fun w hw => ?_, fun c => ?_, fun c hc => ?_⟩
  · obtain ⟨a1, a2, a3, a4, a5⟩ := r1 k hk
    rw [mu_s, mu_n _ _ (by omega), mu_n _ _ (by omega), mu_n _ _ (by omega), mu_n _ _ (by omega), upd_fin]
    refine ⟨?_, a2, a3, a4, a5⟩
    show _ = nI (fu (ow M) h v k).val
    unfold fu
    split
    · rfl
    · exact a1
  · rw [mu_s, upd_fin, if_neg]
    · exact r2 k hk
    · intro e
      have hk : lv M (wl k) = false := hk
      rw [e, hl] at hk
      cases hk
  · rw [mu_n _ _ (by omega)]; exact r3 w hw
  · rw [mu_n _ _ (by omega)]; exact r4 c
  · rw [mu_n _ _ (by omega)]; exact r5 c hc
theorem RepC.wLn (R : RepC M μ b) (h : Wa) (v : Int32) : RepC (sLn M h v) (mu μ (b + 6) (upd (μ (b + 6)) h.val v)) b := by
  obtain ⟨r1, r2, r3, r4, r5⟩ := R
  refine ⟨fun k hk => ?_, fun k hk => ?_, fun w hw => ?_, fun c => ?_, fun c hc => ?_⟩
  · rw [mu_n _ _ (by omega), mu_n _ _ (by omega), mu_n _ _ (by omega), mu_n _ _ (by omega), mu_n _ _ (by omega)]
    exact r1 k hk
  · rw [mu_n _ _ (by omega)]; exact r2 k hk
  · rw [mu_s, upd_fin]
    show _ = fu (ln M) h v w
    unfold fu
    split
    · rfl
    · exact r3 w hw
  · rw [mu_n _ _ (by omega)]; exact r4 c
  · rw [mu_n _ _ (by omega)]; exact r5 c hc
/-- a cell's sides: it was there, or its area is written behind that -/
theorem RepC.wSd (R : RepC M μ b) (c0 : Ce) (v : Nat) (h : 0 < v → μ (b + 8) c0.val = ar M c0) : RepC (sSd M c0 v) (mu μ (b + 7) (upd (μ (b + 7)) c0.val (nI v))) b := by
  obtain ⟨r1, r2, r3, r4, r5⟩ := R
  refine ⟨fun k hk => ?_, fun k hk => ?_, fun w hw => ?_, fun c => ?_, fun c hc => ?_⟩
  · rw [mu_n _ _ (by omega), mu_n _ _ (by omega), mu_n _ _ (by omega), mu_n _ _ (by omega), mu_n _ _ (by omega)]
    exact r1 k hk
  · rw [mu_n _ _ (by omega)]; exact r2 k hk
  · rw [mu_n _ _ (by omega)]; exact r3 w hw
  · rw [mu_s, upd_fin]
    show _ = nI (fu (sd M) c0 v c)
    unfold fu
    split
    · rfl
    · exact r4 c
  · rw [mu_n _ _ (by omega)]
    have hc : 0 < fu (sd M) c0 v c := hc
    by_cases e : c = c0
    · subst e
      rw [fu_s] at hc
      exact h hc
    · rw [fu_n _ _ e] at hc
      exact r5 c hc
theorem RepC.wAr (R : RepC M μ b) (c0 : Ce) (v : Int32) : RepC (sAr M c0 v) (mu μ (b + 8) (upd (μ (b + 8)) c0.val v)) b := by
  obtain ⟨r1, r2, r3, r4, r5⟩ := R
  refine ⟨fun k hk => ?_, fun k hk => ?_, fun w hw => ?_, fun c => ?_, fun c hc => ?_⟩
  · rw [mu_n _ _ (by omega), mu_n _ _ (by omega), mu_n _ _ (by omega), mu_n _ _ (by omega), mu_n _ _ (by omega)]
    exact r1 k hk
  · rw [mu_n _ _ (by omega)]; exact r2 k hk
  · rw [mu_n _ _ (by omega)]; exact r3 w hw
  · rw [mu_n _ _ (by omega)]; exact r4 c
  · rw [mu_s, upd_fin]
    show _ = fu (ar M) c0 v c
    unfold fu
    split
    · rfl
    · exact r5 c hc
/-- a wall goes -/
theorem RepC.wDrop (R : RepC M μ b) (w0 : Wa) (v : Int32) : RepC (sLv M w0 false) (mu (mu (mu μ (b + 1) (upd (μ (b + 1)) (2 * w0.val) (-1))) (b + 1) (upd (mu μ (b + 1) (upd (μ (b + 1)) (2 * w0.val) (-1)) (b + 1)) (2 * w0.val + 1) (-1))) (b + 6) (upd (μ (b + 6)) w0.val v)) b := by
  obtain ⟨r1, r2, r3, r4, r5⟩ := R
  have key : ∀ k : Hf, upd (upd (μ (b + 1)) (2 * w0.val) (-1)) (2 * w0.val + 1) (-1) k.val = if wl k = w0 then -1 else μ (b + 1) k.val := by
    intro k
    unfold upd
    by_cases e : wl k = w0
    · rw [if_pos e]
      have : k.val / 2 = w0.val := congrArg Fin.val e
      by_cases e1 : k.val = 2 * w0.val + 1
      · rw [if_pos e1]
      · rw [if_neg e1, if_pos (by omega)]
    · rw [if_neg e]
      have : ¬ k.val / 2 = w0.val := fun q => e (Fin.ext q)
      rw [if_neg (by omega), if_neg (by omega)]
  have e1 : mu (mu (mu μ (b + 1) (upd (μ (b + 1)) (2 * w0.val) (-1))) (b + 1) (upd (mu μ (b + 1) (upd (μ (b + 1)) (2 * w0.val) (-1)) (b + 1)) (2 * w0.val + 1) (-1))) (b + 6) (upd (μ (b + 6)) w0.val v) = mu (mu μ (b + 1) (upd (upd (μ (b + 1)) (2 * w0.val) (-1)) (2 * w0.val + 1) (-1))) (b + 6) (upd (μ (b + 6)) w0.val v) := by
    rw [mu_s, mu_mu]
  rw [e1]
  refine ⟨fun k hk => ?_, fun k hk => ?_, fun w hw => ?_, fun c => ?_, fun c hc => ?_⟩
  · have hk : fu (lv M) w0 false (wl k) = true := hk
    have hne : wl k ≠ w0 := fun e => by rw [e, fu_s] at hk; cases hk
    rw [fu_n _ _ hne] at hk
    rw [mu_n _ _ (by omega), mu_s, mu_n _ _ (by omega), mu_n _ _ (by omega), mu_n _ _ (by omega), mu_n _ _ (by omega), mu_n _ _ (by omega), mu_n _ _ (by omega), mu_n _ _ (by omega), mu_n _ _ (by omega), key, if_neg hne]
    exact r1 k hk
  · have hk : fu (lv M) w0 false (wl k) = false := hk
    rw [mu_n _ _ (by omega), mu_s, key]
    by_cases hne : wl k = w0
    · rw [if_pos hne]
    · rw [if_neg hne]
      rw [fu_n _ _ hne] at hk
      exact r2 k hk
  · have hw : fu (lv M) w0 false w = true := hw
    have hne : w ≠ w0 := fun e => by rw [e, fu_s] at hw; cases hw
    rw [fu_n _ _ hne] at hw
    rw [mu_s, upd_fin, if_neg hne]
    exact r3 w hw
  · rw [mu_n _ _ (by omega), mu_n _ _ (by omega)]; exact r4 c
  · rw [mu_n _ _ (by omega), mu_n _ _ (by omega)]; exact r5 c hc
end WR
