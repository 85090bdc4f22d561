section PM5
theorem pm_0 {α : Type} (X M k0 k1 : List α) (a o : α) : (X ++ (M ++ (k0 ++ (k1 ++ [a, o])))).Perm ((a :: (X ++ (k0 ++ k1))) ++ (M ++ [o])) := by
  haveI : DecidableEq α := fun x y => Classical.propDecidable (x = y)
  rw [List.perm_iff_count]
  intro x
  simp only [List.count_append, List.count_cons, List.count_nil]
  omega
theorem pm_1 {α : Type} (X M k0 k1 : List α) (a o : α) : (X ++ (M ++ (k0 ++ (k1 ++ [a, o])))).Perm ((a :: (X ++ (k1 ++ k0))) ++ (M ++ [o])) := by
  haveI : DecidableEq α := fun x y => Classical.propDecidable (x = y)
  rw [List.perm_iff_count]
  intro x
  simp only [List.count_append, List.count_cons, List.count_nil]
  omega
variable {D : va_G} {A : Nat → Prop}
theorem ww_call {wc w1 R : va_W} {H0 H H1 : Heap} {locs : List Loc} (hP : va_P D vwCl (wc ++ R) H) (hD : va_D A (wc ++ R)) (hS : va_S A H0 H locs) (hA : ∀ x, H0.size ≤ x → A x) (hk : ∀ x : Nat, x < H.size → ¬ va_A wc H.size x → H1[x]? = H[x]?) (hP1 : va_P D vwCl w1 H1) (hD1 : va_D (va_A wc H.size) w1) : va_P D vwCl (w1 ++ R) H1 ∧ va_D A (w1 ++ R) := by
  obtain ⟨hPw, hPr⟩ := ww_P hP
  obtain ⟨hDw, hDr, hap⟩ := ww_D hD
  have out : ∀ (k : Nat) (x : Nat × va_E), R[k]? = some x → ¬ va_A wc H.size x.1 := fun k x hx h => by
    rcases h with ⟨i, e', hi⟩ | hge
    · exact hap i k (x.1, e') x hi hx rfl
    · have := (hPr k x hx).lt
      omega
  refine ⟨hP1.app (hPr.kept (fun k x hx => hk x.1 (hPr k x hx).lt (out k x hx))), (hD1.weaken (fun k x hx h => ?_)).app hDr (fun i j x y hx hy ee => ?_)⟩
  · rcases h with ⟨i, e', hi⟩ | hge
    · exact hDw.2 i (x.1, e') hi
    · exact hA _ (Nat.le_trans hS.1 hge)
  · exact out j y hy (by rw [← ee]; exact hD1.2 i x hx)
end PM5
/-- what is kept, as it lies -/
def kw1 (cA : Nat → ClassId) (o : Option Fo) (ρ : Nat → Nat) (μ : mm_U) : va_W := match o with
  | none => []
  | some _ => wF cA ρ μ
def kRf (K : Fin 2 → Option Fo) (ρK : Fin 2 → Nat → Nat) : Nat → Option Nat := fun i => if i = 0 then (K 0).map (fun _ => ρK 0 0) else if i = 1 then (K 1).map (fun _ => ρK 1 0) else none
def kR (cA : Nat → ClassId) (cK cL : ClassId) (kA oA : Nat) (K : Fin 2 → Option Fo) (ρK : Fin 2 → Nat → Nat) (μK : Fin 2 → mm_U) (lo : Nat → Int64) : va_W := kw1 cA (K 0) (ρK 0) (μK 0) ++ (kw1 cA (K 1) (ρK 1) (μK 1) ++ [kArr kA cK (kRf K ρK), (oA, .inl (cL, 1, .inr (.inl lo)))])
def KpO (K : Fin 2 → Option Fo) (μK : Fin 2 → mm_U) : Prop := ∀ j s, K j = some s → RepF s (μK j) 0 ∧ In s.1
def oj (j : Fin 2) : Fin 2 := if j = 0 then 1 else 0
theorem kR_pm {cA : Nat → ClassId} {cK cL : ClassId} {kA oA : Nat} {K : Fin 2 → Option Fo} {ρK : Fin 2 → Nat → Nat} {μK : Fin 2 → mm_U} {lo : Nat → Int64} (X M : va_W) (j : Fin 2) : (X ++ (M ++ kR cA cK cL kA oA K ρK μK lo)).Perm ((kArr kA cK (kRf K ρK) :: (X ++ (kw1 cA (K j) (ρK j) (μK j) ++ kw1 cA (K (oj j)) (ρK (oj j)) (μK (oj j))))) ++ (M ++ [(oA, .inl (cL, 1, .inr (.inl lo)))])) := by
  match j with
  | 0 => exact pm_0 X M _ _ _ _
  | 1 => exact pm_1 X M _ _ _ _
theorem kR_up {K : Fin 2 → Option Fo} {ρK : Fin 2 → Nat → Nat} (j : Fin 2) (s : Fo) (ρ : Nat → Nat) : va_up (kRf K ρK) j.val (some (ρ 0)) = kRf (fu K j (some s)) (fu ρK j ρ) := by
  funext i
  match j with
  | 0 =>
    by_cases z : i = 0
    · rw [z, show ((0 : Fin 2).val) = 0 from rfl, va_up_self]
      rfl
    · show va_up (kRf K ρK) 0 (some (ρ 0)) i = _
      rw [va_up_ne _ _ z]
      unfold kRf
      rw [if_neg z, if_neg z]
      rfl
  | 1 =>
    by_cases z : i = 1
    · rw [z, show ((1 : Fin 2).val) = 1 from rfl, va_up_self]
      rfl
    · show va_up (kRf K ρK) 1 (some (ρ 0)) i = _
      rw [va_up_ne _ _ z]
      unfold kRf
      rw [if_neg z, if_neg z]
      rfl
theorem kRf_no {K : Fin 2 → Option Fo} {ρK : Fin 2 → Nat → Nat} {j : Fin 2} (h : K j = none) : kRf K ρK j.val = none := by
  match j, h with
  | 0, h => show (K 0).map _ = none; rw [h]; rfl
  | 1, h => show (K 1).map _ = none; rw [h]; rfl
theorem kRf_is {K : Fin 2 → Option Fo} {ρK : Fin 2 → Nat → Nat} {j : Fin 2} {s : Fo} (h : K j = some s) : kRf K ρK j.val = some (ρK j 0) := by
  match j, h with
  | 0, h => show (K 0).map _ = _; rw [h]; rfl
  | 1, h => show (K 1).map _ = _; rw [h]; rfl
theorem fu_oj {α : Type} (f : Fin 2 → α) (j : Fin 2) (v : α) : fu f j v (oj j) = f (oj j) := by
  match j with
  | 0 => rfl
  | 1 => rfl
