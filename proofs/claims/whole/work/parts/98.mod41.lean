/-! ===== sums along a cycle are sums over halves ===== -/
noncomputable def oW (n : Hf → Hf) (h : Hf) (f : Hf → Nat) (k : Nat) (i : Nat) : Nat := if oP n h k (hI i) = true then f (hI i) else 0
theorem oW_sum {n : Hf → Hf} {h : Hf} (f : Hf → Nat) : ∀ (k : Nat), Dst n h k → sm 288 (oW n h f k) = sm k (fun j => f (itn n j h))
  | 0, _ => by
    have e : sm 288 (oW n h f 0) = sm 288 (fun _ => 0) := sm_congr 288 (fun j _ => if_neg (fun e => by
      obtain ⟨j, hj, _⟩ := oP_iff.mp e
      omega))
    rw [e, sm_zero]
    rfl
  | k + 1, D => by
    have ih := oW_sum (n := n) (h := h) f k (fun i j a b => D i j a (by omega))
    have q := sm_upd (f := oW n h f (k + 1)) (g := oW n h f k) (i := (itn n k h).val) 288 (itn n k h).isLt (fun j hj hne => by
      unfold oW
      have eq : (oP n h (k + 1) (hI j) = true) = (oP n h k (hI j) = true) := propext ⟨fun e => by
        obtain ⟨t, ht, et⟩ := oP_iff.mp e
        refine oP_iff.mpr ⟨t, ?_, et⟩
        have : t ≠ k := fun z => hne (by rw [← z, et, hI_lt hj])
        omega, fun e => by
        obtain ⟨t, ht, et⟩ := oP_iff.mp e
        exact oP_iff.mpr ⟨t, by omega, et⟩⟩
      simp only [eq])
    have a1 : oW n h f (k + 1) (itn n k h).val = f (itn n k h) := by
      unfold oW
      rw [hI_val, if_pos (oP_iff.mpr ⟨k, by omega, rfl⟩)]
    have a2 : oW n h f k (itn n k h).val = 0 := by
      unfold oW
      rw [hI_val]
      exact if_neg (fun e => by
        obtain ⟨j, hj, ej⟩ := oP_iff.mp e
        exact D j k hj (by omega) ej)
    rw [a1, a2, ih] at q
    show _ = sm k (fun j => f (itn n j h)) + f (itn n k h)
    omega
section CYS
variable {M : Ms}
/-- a cell's halves, one after another -/
theorem Inv.cys (J : Inv M) (f : Hf → Nat) {h : Hf} (lh : LvH M h) : sm 288 (fun i => if fib M (ow M h) (hI i) = true then f (hI i) else 0) = sm (sd M (ow M h)) (fun j => f (itn (nx M) j h)) := by
  obtain ⟨o1, o2, o3⟩ := J.orb h lh
  rw [← oW_sum f _ o2]
  refine sm_congr 288 (fun j _ => ?_)
  unfold oW
  have eq : (fib M (ow M h) (hI j) = true) = (oP (nx M) h (sd M (ow M h)) (hI j) = true) := propext ⟨fun e => by
    obtain ⟨e1, e2⟩ := fib_iff.mp e
    exact oP_iff.mpr (o3 _ e1 e2), fun e => by
    obtain ⟨t, ht, et⟩ := oP_iff.mp e
    have := J.1.lit t h lh
    rw [et] at this
    exact fib_iff.mpr this⟩
  simp only [eq]
theorem sm_at {f : Nat → Nat} {n k : Nat} (hk : k < n) (h : ∀ j, j < n → j ≠ k → f j = 0) : sm n f = f k := by
  have q := sm_upd (f := f) (g := fun _ => 0) (i := k) n hk h
  rw [sm_zero] at q
  omega
/-- all halves, cell by cell -/
theorem sm_cells (M : Ms) (f : Hf → Nat) (P : Ce → Bool) : sm 48 (fun i => if P (cI i) = true then sm 288 (fun j => if fib M (cI i) (hI j) = true then f (hI j) else 0) else 0) = sm 288 (fun j => if lv M (wl (hI j)) = true ∧ P (ow M (hI j)) = true then f (hI j) else 0) := by
  have e1 : sm 48 (fun i => if P (cI i) = true then sm 288 (fun j => if fib M (cI i) (hI j) = true then f (hI j) else 0) else 0) = sm 48 (fun i => sm 288 (fun j => if P (cI i) = true ∧ fib M (cI i) (hI j) = true then f (hI j) else 0)) := sm_congr 48 (fun i _ => by
    by_cases h : P (cI i) = true
    · rw [if_pos h]
      exact sm_congr 288 (fun j _ => by simp only [h, true_and])
    · rw [if_neg h]
      have : sm 288 (fun j => if P (cI i) = true ∧ fib M (cI i) (hI j) = true then f (hI j) else 0) = sm 288 (fun _ => 0) := sm_congr 288 (fun j _ => if_neg (fun z => h z.1))
      rw [this, sm_zero])
  rw [e1, sm_swap]
  refine sm_congr 288 (fun j _ => ?_)
  have e2 := sm_at (f := fun i => if P (cI i) = true ∧ fib M (cI i) (hI j) = true then f (hI j) else 0) (n := 48) (k := (ow M (hI j)).val) (ow M (hI j)).isLt (fun i hi hne => if_neg (fun z => hne (by
    have := (fib_iff.mp z.2).2
    rw [this, cI_lt hi])))
  rw [e2, cI_val]
  have eq : (P (ow M (hI j)) = true ∧ fib M (ow M (hI j)) (hI j) = true) = (lv M (wl (hI j)) = true ∧ P (ow M (hI j)) = true) := propext ⟨fun z => ⟨(fib_iff.mp z.2).1, z.1⟩, fun z => ⟨z.2, fib_iff.mpr ⟨z.1, rfl⟩⟩⟩
  simp only [eq]
end CYS
