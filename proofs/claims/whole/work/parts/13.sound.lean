/-! ===== the small machine is sound: its cells stand for cells of the heap ===== -/
def mm_v (ρ σ : Nat → Nat) : Value → Value
  | .ref a => .ref (ρ a)
  | .retAddr t => .ref (σ t)
  | v => v
def mm_fv (ρ : Nat → Nat) (f : Nat → Int32) (k : Nat) (d : mm_D) : Value := match d with
  | none => .int (f k)
  | some (.inl t) => .ref (ρ t)
  | some (.inr none) => .long (f k).toInt64
  | some (.inr (some v)) => v
def mm_ce (ρ : Nat → Nat) (cA : Nat → ClassId) (s : (Nat × Nat) ⊕ (Nat × List mm_D)) (f : Nat → Int32) : va_E := match s with
  | .inl (t, n) => .inl (cA t, n, .inl f)
  | .inr (ci, fs) => .inr (ci, fs.mapIdx (fun k d => mm_fv ρ f k d))
def mm_w (N : Nat) (ρ : Nat → Nat) (cA : Nat → ClassId) (sh : mm_Sh) (μ : mm_U) : va_W := (List.range N).map (fun a => (ρ a, mm_ce ρ cA (sh a) (μ a)))
theorem mm_w_at {N : Nat} {ρ : Nat → Nat} {cA : Nat → ClassId} {sh : mm_Sh} {μ : mm_U} {a : Nat} (h : a < N) : (mm_w N ρ cA sh μ)[a]? = some (ρ a, mm_ce ρ cA (sh a) (μ a)) := by
  simp [mm_w, h]
theorem mm_w_set {N : Nat} {ρ : Nat → Nat} {cA : Nat → ClassId} {sh : mm_Sh} {μ : mm_U} {a : Nat} (h : a < N) (f : Nat → Int32) : (mm_w N ρ cA sh μ).set a (ρ a, mm_ce ρ cA (sh a) f) = mm_w N ρ cA sh (mu μ a f) := by
  apply List.ext_getElem?
  intro i
  rw [List.getElem?_set]
  by_cases e : a = i
  · subst e
    rw [if_pos rfl, if_pos (by simp [mm_w, h]), mm_w_at h, mu_s]
  · rw [if_neg e]
    by_cases hi : i < N
    · rw [mm_w_at hi, mm_w_at hi, mu_n _ _ (fun q => e q.symm)]
    · rw [List.getElem?_eq_none (by simp [mm_w]; omega), List.getElem?_eq_none (by simp [mm_w]; omega)]
def mm_SV (N : Nat) (sh : mm_Sh) : Prop := (∀ a, N ≤ a → sh a = .inl (0, 0)) ∧ ∀ a, a < N → ∀ ci fs, sh a = .inr (ci, fs) → ∃ q, vwCl[ci]? = some q ∧ fs.length = q.2.2 ∧ ∀ (k : Nat) (d : mm_D), fs[k]? = some d → (d = none → parseFieldDescriptor (q.2.1 k).2.2.1 = some .int) ∧ (d = some (.inr none) → parseFieldDescriptor (q.2.1 k).2.2.1 = some .long)
theorem mm_al_in {N : Nat} {sh : mm_Sh} (SV : mm_SV N sh) {a : Nat} (h : 0 < mm_al sh a) : a < N ∧ sh a = .inl (0, mm_al sh a) := by
  refine ⟨?_, ?_⟩
  · refine Nat.not_le.mp fun q => ?_
    unfold mm_al at h
    rw [SV.1 a q] at h
    exact absurd h (Nat.lt_irrefl 0)
  · unfold mm_al at h ⊢
    split at h
    · rename_i n e
      rw [e]
    · exact absurd h (Nat.lt_irrefl 0)
theorem mm_bl_in {N : Nat} {sh : mm_Sh} (SV : mm_SV N sh) {a : Nat} (h : 0 < mm_bl sh a) : a < N ∧ sh a = .inl (1, mm_bl sh a) := by
  refine ⟨?_, ?_⟩
  · refine Nat.not_le.mp fun q => ?_
    unfold mm_bl at h
    rw [SV.1 a q] at h
    exact absurd h (Nat.lt_irrefl 0)
  · unfold mm_bl at h ⊢
    split at h
    · rename_i n e
      rw [e]
    · exact absurd h (Nat.lt_irrefl 0)
theorem mm_in_vp {i : Int32} {n : Nat} (h : mm_in i n = true) : vp_in i n := by
  unfold mm_in at h
  rw [decide_eq_true_eq] at h
  exact h
theorem mm_in_pos {i : Int32} {n : Nat} (h : mm_in i n = true) : 0 < n := by
  have h1 := mm_in_vp h
  exact Nat.pos_of_ne_zero fun q => h1 (Or.inr (by omega))
theorem mm_oc_in {N : Nat} {sh : mm_Sh} (SV : mm_SV N sh) {a ci : Nat} (h : mm_oc sh a ci = true) : a < N ∧ ∃ fs, sh a = .inr (ci, fs) := by
  unfold mm_oc at h
  split at h
  · rename_i c fs e
    have hc : c = ci := by simpa using h
    subst hc
    refine ⟨Nat.not_le.mp fun q => ?_, fs, e⟩
    rw [SV.1 a q] at e
    cases e
  · cases h
def mm_ty (cA : Nat → ClassId) : List (ClassId × FieldType) := [(cA 0, .int), (cA 1, .boolean)]
/-- the locals -/
def mm_LR (ρ σ : Nat → Nat) (nL : Nat) (lsA : Array Slot) (ls : List Value) : Prop := lsA.size = nL ∧ ls.length = nL ∧ lv_wf lsA ∧ ∀ (i : Nat) (v : Value), ls[i]? = some v → mm_ir v = true → lsA[i]? = some (.val (mm_v ρ σ v))
def mm_en (ρ σ : Nat → Nat) (ls : List Value) : List (Nat × Value) := (List.range ls.length).filterMap (fun i => match ls[i]? with
  | some v => if mm_ir v = true then some (i, mm_v ρ σ v) else none
  | none => none)
theorem mm_en_mem {ρ σ : Nat → Nat} {ls : List Value} {q : Nat × Value} : q ∈ mm_en ρ σ ls ↔ ∃ v, ls[q.1]? = some v ∧ mm_ir v = true ∧ q.2 = mm_v ρ σ v := by
  unfold mm_en
  rw [List.mem_filterMap]
  constructor
  · rintro ⟨i, hi, h⟩
    cases hv : ls[i]? with
    | none => rw [hv] at h; cases h
    | some v =>
      rw [hv] at h
      dsimp only at h
      by_cases hr : mm_ir v = true
      · rw [if_pos hr] at h
        cases h
        exact ⟨v, hv, hr, rfl⟩
      · rw [if_neg hr] at h
        cases h
  · rintro ⟨v, hv, hr, e⟩
    refine ⟨q.1, List.mem_range.mpr (List.getElem?_eq_some_iff.mp hv).1, ?_⟩
    rw [hv]
    dsimp only
    rw [if_pos hr, ← e]
theorem mm_LR.has {ρ σ : Nat → Nat} {nL : Nat} {lsA : Array Slot} {ls : List Value} (h : mm_LR ρ σ nL lsA ls) : lv_has lsA nL (mm_en ρ σ ls) := by
  refine ⟨h.1, h.2.2.1, fun q hq => ?_⟩
  obtain ⟨v, hv, hr, e⟩ := mm_en_mem.mp hq
  rw [e]
  exact h.2.2.2 q.1 v hv hr
theorem mm_cat {ρ σ : Nat → Nat} {v : Value} (h : mm_ir v = true) : (mm_v ρ σ v).category = 1 := by
  cases v <;> first | rfl | cases h
theorem mm_LR.back {ρ σ : Nat → Nat} {nL : Nat} {lsA ls' : Array Slot} {ls : List Value} (h : mm_LR ρ σ nL lsA ls) {k : Nat} {v : Value} (hr : mm_ir v = true) (hk : k < ls.length)
    (h' : lv_has ls' nL ((k, mm_v ρ σ v) :: (mm_en ρ σ ls).filter (fun q => !(q.1 == k) && !(q.1 + 1 == k && q.2.category == 2)))) : mm_LR ρ σ nL ls' (ls.set k v) := by
  refine ⟨h'.1, by rw [List.length_set]; exact h.2.1, h'.2.1, fun i w hw hrw => ?_⟩
  by_cases e : k = i
  · subst e
    rw [List.getElem?_set_self hk] at hw
    cases hw
    exact h'.2.2 (k, mm_v ρ σ v) List.mem_cons_self
  · rw [List.getElem?_set_ne e] at hw
    refine h'.2.2 (i, mm_v ρ σ w) (List.mem_cons_of_mem _ (List.mem_filter.mpr ⟨mm_en_mem.mpr ⟨w, hw, hrw, rfl⟩, ?_⟩))
    have c1 : (mm_v ρ σ w).category = 1 := mm_cat hrw
    have ne : ¬ i = k := fun q => e q.symm
    simp [c1, ne]
/-- the static rows, and the words for them -/
def mm_Z (σ : Nat → Nat) (A : Nat → Prop) (U : State) (H : Heap) : Prop := (va_Nw (.fieldLinkNest (mm_cn 2) 54 "FoamCells" "TO_X" "[I" "FoamCells") U ∧ va_Nw (.fieldLinkNest (mm_cn 2) 61 "FoamCells" "TO_Y" "[I" "FoamCells") U) ∧ ∀ t : Nat, t < 2 → va_Z "FoamCells" (mm_sn t) "[I" (.ref (σ t)) A U H ∧ va_X (σ t) 6 (mm_to t) U H ∧ σ t < H.size ∧ ¬ A (σ t)
theorem mm_Z.moved {σ : Nat → Nat} {A : Nat → Prop} {u U : State} {H : Heap} (hW : u.WarmedH U.vm) (h : mm_Z σ A u H) : mm_Z σ A U H := ⟨⟨va_Nw.warmF hW h.1.1, va_Nw.warmF hW h.1.2⟩, fun t ht => ⟨va_Z.moved hW.alike (h.2 t ht).1, va_X.moved hW.alike (h.2 t ht).2.1, (h.2 t ht).2.2⟩⟩
theorem mm_Z.kept {σ : Nat → Nat} {A B : Nat → Prop} {U : State} {H H1 : Heap} (h : mm_Z σ A U H) (hz : H.size ≤ H1.size) (hq : ∀ a : Nat, a < H.size → ¬ A a → H1[a]? = H[a]?) (hB : ∀ q, B q → A q) : mm_Z σ B U H1 := by
  refine ⟨h.1, fun t ht => ?_⟩
  obtain ⟨h1, h2, h3, h4⟩ := h.2 t ht
  exact ⟨(va_Z.kept h1 hq).narrow hB, h2.kept (hq _ h3 h4), Nat.lt_of_lt_of_le h3 hz, fun q => h4 (hB _ q)⟩
theorem mm_okS2 {o idx t : Nat} (h : mm_lk (mm_S o) idx = some t) : o = 2 ∧ ((idx = 54 ∧ t = 0) ∨ (idx = 61 ∧ t = 1)) := by
  have hm := mm_lk_mem h
  match o, hm with
  | 2, hm =>
    rcases List.mem_cons.mp hm with e | hm
    · cases e
      exact ⟨rfl, Or.inl ⟨rfl, rfl⟩⟩
    · cases List.mem_singleton.mp hm
      exact ⟨rfl, Or.inr ⟨rfl, rfl⟩⟩
  | 0, hm => exact absurd hm List.not_mem_nil
  | 1, hm => exact absurd hm List.not_mem_nil
  | 3, hm => exact absurd hm List.not_mem_nil
  | 4, hm => exact absurd hm List.not_mem_nil
  | 5, hm => exact absurd hm List.not_mem_nil
  | 6, hm => exact absurd hm List.not_mem_nil
  | 7, hm => exact absurd hm List.not_mem_nil
  | n + 8, hm => exact absurd hm List.not_mem_nil
def mm_CX (D : va_G) (cA : Nat → ClassId) (σ : Nat → Nat) (A : Nat → Prop) (y : mm_Y) (p : Program) (s : State) (m : MethodId) (args : Array Value) (meth : Method) (c : Code) : Prop :=
  p.tables.exec = Jvm.exec ∧ c.code = yc y ∧ meth.sig.returnType = yt y ∧ c.maxLocals = yl y ∧ (∀ w ∈ mm_tb, w.before args s = true) ∧ s.vm.findClass (mm_cn (yo y)) = some m.cls ∧ meth.locks = false ∧ va_K D vwCl (mm_ty cA) s ∧ (∀ q, s.heap.size ≤ q → A q) ∧ mm_Z σ A s s.heap
def mm_WS (D : va_G) (cA : Nat → ClassId) (N : Nat) (sh : mm_Sh) (ρ : Nat → Nat) (A : Nat → Prop) (H0 : Heap) (μ : mm_U) (H : Heap) (locs : List Loc) : Prop := va_P D vwCl (mm_w N ρ cA sh μ) H ∧ va_D A (mm_w N ρ cA sh μ) ∧ va_S A H0 H locs
def mm_rm (r : Nat) : Room := { frames := r, cells := 0, slots := 0, locals := 32 * r }
theorem mm_if {α : Type} {c : Prop} [Decidable c] {x : Option α} {r : α} (h : (if c then x else none) = some r) : c ∧ x = some r := by
  by_cases hc : c
  · rw [if_pos hc] at h; exact ⟨hc, h⟩
  · rw [if_neg hc] at h; cases h
theorem mm_go_inv {pc pc' : Nat} {ls ls' st st' : List Value} {μ μ' : mm_U} (h : mm_go pc ls st μ = some (.inl (pc', ls', st', μ'))) : pc = pc' ∧ ls = ls' ∧ st = st' ∧ μ = μ' := by
  unfold mm_go at h
  cases h
  exact ⟨rfl, rfl, rfl, rfl⟩
theorem mm_bin_inv {f : Int32 → Int32 → Int32} {pc pc' : Nat} {ls ls' st st' : List Value} {μ μ' : mm_U} (h : mm_bin f pc ls st μ = some (.inl (pc', ls', st', μ'))) : ∃ a b r, st = .int b :: .int a :: r ∧ pc = pc' ∧ ls = ls' ∧ .int (f a b) :: r = st' ∧ μ = μ' := by
  unfold mm_bin at h
  split at h
  · obtain ⟨h1, h2, h3, h4⟩ := mm_go_inv h
    exact ⟨_, _, _, rfl, h1, h2, h3, h4⟩
  · cases h
theorem mm_binL_inv {f : Int64 → Int64 → Int64} {pc pc' : Nat} {ls ls' st st' : List Value} {μ μ' : mm_U} (h : mm_binL f pc ls st μ = some (.inl (pc', ls', st', μ'))) : ∃ a b r, st = .long b :: .long a :: r ∧ pc = pc' ∧ ls = ls' ∧ .long (f a b) :: r = st' ∧ μ = μ' := by
  unfold mm_binL at h
  split at h
  · obtain ⟨h1, h2, h3, h4⟩ := mm_go_inv h
    exact ⟨_, _, _, rfl, h1, h2, h3, h4⟩
  · cases h
theorem mm_ld_inv {k pc pc' : Nat} {ls ls' st st' : List Value} {μ μ' : mm_U} (h : mm_ld k pc ls st μ = some (.inl (pc', ls', st', μ'))) : ∃ x, ls[k]? = some (.int x) ∧ pc = pc' ∧ ls = ls' ∧ .int x :: st = st' ∧ μ = μ' := by
  unfold mm_ld at h
  split at h
  · rename_i x e
    obtain ⟨h1, h2, h3, h4⟩ := mm_go_inv h
    exact ⟨_, e, h1, h2, h3, h4⟩
  · cases h
theorem mm_ldr_inv {k pc pc' : Nat} {ls ls' st st' : List Value} {μ μ' : mm_U} (h : mm_ldr k pc ls st μ = some (.inl (pc', ls', st', μ'))) : ∃ x, ls[k]? = some (.ref x) ∧ pc = pc' ∧ ls = ls' ∧ .ref x :: st = st' ∧ μ = μ' := by
  unfold mm_ldr at h
  split at h
  · rename_i x e
    obtain ⟨h1, h2, h3, h4⟩ := mm_go_inv h
    exact ⟨_, e, h1, h2, h3, h4⟩
  · cases h
theorem mm_str_inv {k pc pc' : Nat} {ls ls' st st' : List Value} {μ μ' : mm_U} (h : mm_str k pc ls st μ = some (.inl (pc', ls', st', μ'))) : ∃ x, st = .int x :: st' ∧ k < ls.length ∧ pc = pc' ∧ ls.set k (.int x) = ls' ∧ μ = μ' := by
  unfold mm_str at h
  split at h
  · obtain ⟨hk, h⟩ := mm_if h
    obtain ⟨h1, h2, h3, h4⟩ := mm_go_inv h
    subst h3
    exact ⟨_, rfl, hk, h1, h2, h4⟩
  · cases h
theorem mm_strr_inv {k pc pc' : Nat} {ls ls' st st' : List Value} {μ μ' : mm_U} (h : mm_strr k pc ls st μ = some (.inl (pc', ls', st', μ'))) : ∃ x, st = .ref x :: st' ∧ k < ls.length ∧ pc = pc' ∧ ls.set k (.ref x) = ls' ∧ μ = μ' := by
  unfold mm_strr at h
  split at h
  · obtain ⟨hk, h⟩ := mm_if h
    obtain ⟨h1, h2, h3, h4⟩ := mm_go_inv h
    subst h3
    exact ⟨_, rfl, hk, h1, h2, h4⟩
  · cases h
theorem mm_inc_inv {k pc pc' : Nat} {c : Int} {ls ls' st st' : List Value} {μ μ' : mm_U} (h : mm_inc k c pc ls st μ = some (.inl (pc', ls', st', μ'))) : ∃ x, ls[k]? = some (.int x) ∧ pc = pc' ∧ ls.set k (.int (x + Int32.ofInt c)) = ls' ∧ st = st' ∧ μ = μ' := by
  unfold mm_inc at h
  split at h
  · rename_i x e
    obtain ⟨h1, h2, h3, h4⟩ := mm_go_inv h
    exact ⟨_, e, h1, h2, h3, h4⟩
  · cases h
theorem mm_tg_inv {pc t : Nat} {off : Int} (h : mm_tg pc off = some t) : (pc : Int) + off = (t : Int) := by
  unfold mm_tg at h
  split at h
  · rename_i q e
    cases h
    exact e
  · cases h
