section MAB
variable {sh : mm_Sh} {m : Nat} {M N : Ms} {μ : mm_U} {s : Fo} {Q : Option Value → mm_U → Prop}
/-- sums of halves in Int32 -/
theorem it_sm (P : Nat → Prop) [DecidablePred P] (f : Nat → Nat) : ∀ n, it (fun i a => if P i then a + nI (f i) else a) n 0 (nI 0) = nI (sm n (fun i => if P i then f i else 0))
  | 0 => rfl
  | n + 1 => by
    rw [it_last0, it_sm P f n]
    show _ = nI (sm n (fun i => if P i then f i else 0) + if P n then f n else 0)
    by_cases h : P n
    · rw [if_pos h, if_pos h]
      exact nI_add _ _
    · rw [if_neg h, if_neg h, Nat.add_zero]
/-- the sides of the cells about a cell -/
def abN (M : Ms) (c : Ce) : Nat := sm 288 (fun i => if fib M c (hI i) = true then sd M (ow M (tw (hI i))) else 0)
theorem sAA_N (M : Ms) (n : Int32) : sAA M n = nI (sm 48 (fun i => if nI (sd M (cI i)) = n then abN M (cI i) else 0)) := by
  have e := sm_cells M (fun h => sd M (ow M (tw h))) (fun c => decide (nI (sd M c) = n))
  have e1 : sm 48 (fun i => if nI (sd M (cI i)) = n then abN M (cI i) else 0) = sm 48 (fun i => if decide (nI (sd M (cI i)) = n) = true then sm 288 (fun j => if fib M (cI i) (hI j) = true then sd M (ow M (tw (hI j))) else 0) else 0) := sm_congr 48 (fun i _ => by
    unfold abN
    simp only [decide_eq_true_iff])
  rw [e1, e]
  have e2 := it_sm (fun i => lv M (wl (hI i)) = true ∧ decide (nI (sd M (ow M (hI i))) = n) = true) (fun i => sd M (ow M (tw (hI i)))) 288
  rw [← e2]
  unfold sAA
  refine it_congr 288 0 _ (fun j a _ _ => ?_)
  simp only [decide_eq_true_iff]
  by_cases h1 : lv M (wl (hI j)) = true
  · by_cases h2 : nI (sd M (ow M (hI j))) = n
    · rw [if_pos h1, if_pos h2, if_pos ⟨h1, h2⟩]
    · rw [if_pos h1, if_neg h2, if_neg (fun z => h2 z.2)]
  · rw [if_neg h1, if_neg (fun z => h1 z.1)]
end MAB
