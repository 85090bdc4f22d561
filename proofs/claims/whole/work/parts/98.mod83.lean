section PRM
variable {D : va_G} {cl : List vw_C} {A : Nat → Prop} {a b : va_W} {H : Heap}
theorem va_P_mem : va_P D cl a H ↔ ∀ q ∈ a, va_at D cl q H := ⟨fun h q hq => by
  obtain ⟨k, hk⟩ := List.getElem?_of_mem hq
  exact h k q hk, fun h k q hk => h q (List.mem_of_getElem? hk)⟩
theorem va_D_nd : va_D A a ↔ (a.map Prod.fst).Nodup ∧ ∀ q ∈ a, A q.1 := by
  constructor
  · rintro ⟨h1, h2⟩
    refine ⟨?_, fun q hq => by
      obtain ⟨k, hk⟩ := List.getElem?_of_mem hq
      exact h2 k q hk⟩
    refine List.pairwise_iff_getElem.mpr (fun i j hi hj hij e => ?_)
    rw [List.getElem_map, List.getElem_map] at e
    rw [List.length_map] at hi hj
    have := h1 i j _ _ (List.getElem?_eq_getElem hi) (List.getElem?_eq_getElem hj) e
    omega
  · rintro ⟨h1, h2⟩
    refine ⟨fun i j x y hx hy e => ?_, fun k q hk => h2 q (List.mem_of_getElem? hk)⟩
    have hi := (List.getElem?_eq_some_iff.mp hx).1
    have hj := (List.getElem?_eq_some_iff.mp hy).1
    have nd := List.pairwise_iff_getElem.mp h1
    have key : ∀ i j (x y : Nat × va_E), a[i]? = some x → a[j]? = some y → x.1 = y.1 → ¬ i < j := fun i j x y hx hy e hij => by
      obtain ⟨hi, ex⟩ := List.getElem?_eq_some_iff.mp hx
      obtain ⟨hj, ey⟩ := List.getElem?_eq_some_iff.mp hy
      refine nd i j (by rw [List.length_map]; exact hi) (by rw [List.length_map]; exact hj) hij ?_
      rw [List.getElem_map, List.getElem_map, ex, ey]
      exact e
    have k1 := key i j x y hx hy e
    have k2 := key j i y x hy hx e.symm
    omega
theorem pw_P (h : a.Perm b) (hP : va_P D cl a H) : va_P D cl b H := va_P_mem.mpr (fun q hq => va_P_mem.mp hP q (h.mem_iff.mpr hq))
theorem pw_D (h : a.Perm b) (hD : va_D A a) : va_D A b := by
  obtain ⟨h1, h2⟩ := va_D_nd.mp hD
  exact va_D_nd.mpr ⟨(h.map Prod.fst).nodup_iff.mp h1, fun q hq => h2 q (h.mem_iff.mpr hq)⟩
end PRM
/-- x's world, and a kept foam behind it -/
def j52 (ρX ρK : Nat → Nat) : Nat → Nat := fun a => if a < 37 then ρX a else ρK (a - 37)
def jm52 (μX μK : mm_U) : mm_U := fun a => if a < 37 then μX a else μK (a - 37)
theorem w52 (cA : Nat → ClassId) (ρX ρK : Nat → Nat) (v : Value) (μ : mm_U) : mm_w 52 (j52 ρX ρK) cA (shL (xL v ++ foL 37)) μ = mm_w 37 ρX cA (shL (xL v)) μ ++ mm_w 15 ρK cA (shL (foL 0)) (fun a => μ (37 + a)) := rfl
theorem w52m (cA : Nat → ClassId) (ρX ρK : Nat → Nat) (v : Value) (μX μK : mm_U) : mm_w 52 (j52 ρX ρK) cA (shL (xL v ++ foL 37)) (jm52 μX μK) = mm_w 37 ρX cA (shL (xL v)) μX ++ mm_w 15 ρK cA (shL (foL 0)) μK := rfl
theorem mm_w_cg {N : Nat} {ρ : Nat → Nat} {cA : Nat → ClassId} {sh : mm_Sh} {μ μ' : mm_U} (h : ∀ a, a < N → μ' a = μ a) : mm_w N ρ cA sh μ' = mm_w N ρ cA sh μ := by
  unfold mm_w
  refine List.map_congr_left (fun a ha => ?_)
  rw [h a (List.mem_range.mp ha)]
theorem sv52 (v : Value) : mm_SV 52 (shL (xL v ++ foL 37)) := sv_list (fun e he => (List.mem_append.mp he).elim (svs_x v e) (svs_fo 37 e))
theorem sh52_n (v : Value) : FoSh (shL (xL v ++ foL 37)) 1 := ⟨rfl, ⟨rfl, rfl, rfl, rfl, rfl, rfl, rfl, rfl, rfl⟩, ⟨rfl, rfl, rfl, rfl⟩, rfl⟩
theorem sh52_k (v : Value) : FoSh (shL (xL v ++ foL 37)) 37 := ⟨rfl, ⟨rfl, rfl, rfl, rfl, rfl, rfl, rfl, rfl, rfl⟩, ⟨rfl, rfl, rfl, rfl⟩, rfl⟩
theorem RepF.sh37 {s : Fo} {μ : mm_U} (h : RepF s μ 37) : RepF s (fun a => μ (37 + a)) 0 := h
theorem RepF.un37 {s : Fo} {μX μK : mm_U} (h : RepF s μK 0) : RepF s (jm52 μX μK) 37 := h
theorem RepF.jn1 {s : Fo} {μX μK : mm_U} (h : RepF s μX 1) : RepF s (jm52 μX μK) 1 := h
