/-! ===== the shapes of the worlds ===== -/
abbrev mm_Sc : Type := (Nat × Nat) ⊕ (Nat × List mm_D)
def shL (l : List mm_Sc) : mm_Sh := fun a => l.getD a (.inl (0, 0))
def SVe (e : mm_Sc) : Prop := ∀ ci fs, e = .inr (ci, fs) → ∃ q, vwCl[ci]? = some q ∧ fs.length = q.2.2 ∧ ∀ (k : Nat) (d : mm_D), fs[k]? = some d → (d = none → parseFieldDescriptor (q.2.1 k).2.2.1 = some .int) ∧ (d = some (.inr none) → parseFieldDescriptor (q.2.1 k).2.2.1 = some .long)
theorem sv_arr (t n : Nat) : SVe (.inl (t, n)) := fun ci fs h => by cases h
theorem sv_of {ci : Nat} {fs : List mm_D} {q : vw_C} (hq : vwCl[ci]? = some q) (hl : fs.length = q.2.2) (ty : Nat → FieldType) (hty : ∀ k, k < q.2.2 → parseFieldDescriptor (q.2.1 k).2.2.1 = some (ty k)) (hk : ∀ k, k < q.2.2 → (fs[k]? = some none → ty k = .int) ∧ (fs[k]? = some (some (.inr none)) → ty k = .long)) : SVe (.inr (ci, fs)) := fun ci' fs' h => by
  cases h
  refine ⟨q, hq, hl, fun k d hd => ?_⟩
  have kl : k < q.2.2 := by
    have := (List.getElem?_eq_some_iff.mp hd).1
    omega
  refine ⟨fun e => ?_, fun e => ?_⟩
  · rw [hty k kl, (hk k kl).1 (by rw [hd, e])]
  · rw [hty k kl, (hk k kl).2 (by rw [hd, e])]
theorem sv_list {l : List mm_Sc} (h : ∀ e ∈ l, SVe e) : mm_SV l.length (shL l) := by
  refine ⟨fun a ha => ?_, fun a ha ci fs e => ?_⟩
  · unfold shL
    rw [List.getD_eq_getElem?_getD, List.getElem?_eq_none ha]
    rfl
  · have e' : l[a]? = some (shL l a) := by
      unfold shL
      rw [List.getD_eq_getElem?_getD, List.getElem?_eq_getElem ha]
      rfl
    exact h _ (List.mem_of_getElem? e') ci fs e
theorem sv_fo (f : Nat) : SVe (.inr (1, [some (.inl (f + 1)), some (.inl (f + 10)), some (.inl (f + 14)), none, none, none, none, none, none, none, none])) := sv_of (q := (RX1, TX1, 11)) rfl rfl tyX1 tyX1_ok (fun k hk => by
  have h : k = 0 ∨ k = 1 ∨ k = 2 ∨ k = 3 ∨ k = 4 ∨ k = 5 ∨ k = 6 ∨ k = 7 ∨ k = 8 ∨ k = 9 ∨ k = 10 := by
    have : k < 11 := hk
    omega
  rcases h with rfl | rfl | rfl | rfl | rfl | rfl | rfl | rfl | rfl | rfl | rfl <;> (constructor <;> intro h <;> first | rfl | cases h))
theorem sv_me (b : Nat) : SVe (.inr (2, [some (.inl (b + 1)), some (.inl (b + 2)), some (.inl (b + 3)), some (.inl (b + 4)), some (.inl (b + 5)), some (.inl (b + 6)), some (.inl (b + 7)), some (.inl (b + 8))])) := sv_of (q := (RX2, TX2, 8)) rfl rfl tyX2 tyX2_ok (fun k hk => by
  have h : k = 0 ∨ k = 1 ∨ k = 2 ∨ k = 3 ∨ k = 4 ∨ k = 5 ∨ k = 6 ∨ k = 7 := by
    have : k < 8 := hk
    omega
  rcases h with rfl | rfl | rfl | rfl | rfl | rfl | rfl | rfl <;> (constructor <;> intro h <;> first | rfl | cases h))
theorem sv_di (d : Nat) : SVe (.inr (0, [some (.inl (d + 1)), some (.inl (d + 2)), some (.inl (d + 3)), none, none])) := sv_of (q := (RX0, TX0, 5)) rfl rfl tyX0 tyX0_ok (fun k hk => by
  have h : k = 0 ∨ k = 1 ∨ k = 2 ∨ k = 3 ∨ k = 4 := by
    have : k < 5 := hk
    omega
  rcases h with rfl | rfl | rfl | rfl | rfl <;> (constructor <;> intro h <;> first | rfl | cases h))
theorem sv_pa (g : Nat) : SVe (.inr (3, [some (.inl (g + 1)), none])) := sv_of (q := (RX3, TX3, 2)) rfl rfl tyX3 tyX3_ok (fun k hk => by
  have h : k = 0 ∨ k = 1 := by
    have : k < 2 := hk
    omega
  rcases h with rfl | rfl <;> (constructor <;> intro h <;> first | rfl | cases h))
theorem sv_wa (w : Nat) : SVe (.inr (4, [some (.inl (w + 1)), some (.inl (w + 2)), some (.inl (w + 3)), some (.inl (w + 4)), none, none, none, none])) := sv_of (q := (RX4, TX4, 8)) rfl rfl tyX4 tyX4_ok (fun k hk => by
  have h : k = 0 ∨ k = 1 ∨ k = 2 ∨ k = 3 ∨ k = 4 ∨ k = 5 ∨ k = 6 ∨ k = 7 := by
    have : k < 8 := hk
    omega
  rcases h with rfl | rfl | rfl | rfl | rfl | rfl | rfl | rfl <;> (constructor <;> intro h <;> first | rfl | cases h))
theorem sv_x (f g w : Nat) (v : Value) : SVe (.inr (5, [some (.inl f), some (.inl g), some (.inl w), some (.inr (some v))])) := sv_of (q := (RX5, TX5, 4)) rfl rfl tyX5 tyX5_ok (fun k hk => by
  have h : k = 0 ∨ k = 1 ∨ k = 2 ∨ k = 3 := by
    have : k < 4 := hk
    omega
  rcases h with rfl | rfl | rfl | rfl <;> (constructor <;> intro h <;> first | rfl | cases h))
theorem sv_mo (m : Nat) : SVe (.inr (6, [none, some (.inl (m + 1)), some (.inl (m + 2)), some (.inl (m + 3)), some (.inl (m + 4)), some (.inl (m + 5)), some (.inl (m + 6)), none, some (.inr none), some (.inl (m + 7)), some (.inl (m + 8)), some (.inl (m + 9))])) := sv_of (q := (RX6, TX6, 12)) rfl rfl tyX6 tyX6_ok (fun k hk => by
  have h : k = 0 ∨ k = 1 ∨ k = 2 ∨ k = 3 ∨ k = 4 ∨ k = 5 ∨ k = 6 ∨ k = 7 ∨ k = 8 ∨ k = 9 ∨ k = 10 ∨ k = 11 := by
    have : k < 12 := hk
    omega
  rcases h with rfl | rfl | rfl | rfl | rfl | rfl | rfl | rfl | rfl | rfl | rfl | rfl <;> (constructor <;> intro h <;> first | rfl | cases h))
def foL (f : Nat) : List mm_Sc := [.inr (1, [some (.inl (f + 1)), some (.inl (f + 10)), some (.inl (f + 14)), none, none, none, none, none, none, none, none]), .inr (2, [some (.inl (f + 1 + 1)), some (.inl (f + 1 + 2)), some (.inl (f + 1 + 3)), some (.inl (f + 1 + 4)), some (.inl (f + 1 + 5)), some (.inl (f + 1 + 6)), some (.inl (f + 1 + 7)), some (.inl (f + 1 + 8))]), .inl (0, 288), .inl (0, 288), .inl (0, 288), .inl (0, 288), .inl (0, 288), .inl (0, 144), .inl (0, 48), .inl (0, 48), .inr (0, [some (.inl (f + 10 + 1)), some (.inl (f + 10 + 2)), some (.inl (f + 10 + 3)), none, none]), .inl (0, 30), .inl (0, 30), .inl (0, 30), .inl (0, 4)]
def paL (g : Nat) : List mm_Sc := .inr (3, [some (.inl (g + 1)), none]) :: foL (g + 1)
def waL (w : Nat) : List mm_Sc := [.inr (4, [some (.inl (w + 1)), some (.inl (w + 2)), some (.inl (w + 3)), some (.inl (w + 4)), none, none, none, none]), .inl (0, 48), .inl (0, 1200), .inl (0, 1200), .inl (0, 48)]
def moL (m : Nat) : List mm_Sc := [.inr (6, [none, some (.inl (m + 1)), some (.inl (m + 2)), some (.inl (m + 3)), some (.inl (m + 4)), some (.inl (m + 5)), some (.inl (m + 6)), none, some (.inr none), some (.inl (m + 7)), some (.inl (m + 8)), some (.inl (m + 9))]), .inl (0, 1786), .inl (0, 1786), .inl (0, 3572), .inl (1, 2), .inl (0, 6), .inl (0, 6), .inl (0, 48), .inl (0, 1200), .inl (0, 48)]
def xL (v : Value) : List mm_Sc := .inr (5, [some (.inl 1), some (.inl 16), some (.inl 32), some (.inr (some v))]) :: (foL 1 ++ (paL 16 ++ waL 32))
theorem svs_fo (f : Nat) : ∀ e ∈ foL f, SVe e := by
  intro e he
  simp only [foL, List.mem_cons, List.not_mem_nil, or_false] at he
  rcases he with rfl | rfl | rfl | rfl | rfl | rfl | rfl | rfl | rfl | rfl | rfl | rfl | rfl | rfl | rfl
  · exact sv_fo f
  · exact sv_me (f + 1)
  · exact sv_arr _ _
  · exact sv_arr _ _
  · exact sv_arr _ _
  · exact sv_arr _ _
  · exact sv_arr _ _
  · exact sv_arr _ _
  · exact sv_arr _ _
  · exact sv_arr _ _
  · exact sv_di (f + 10)
  · exact sv_arr _ _
  · exact sv_arr _ _
  · exact sv_arr _ _
  · exact sv_arr _ _
theorem svs_wa (w : Nat) : ∀ e ∈ waL w, SVe e := by
  intro e he
  simp only [waL, List.mem_cons, List.not_mem_nil, or_false] at he
  rcases he with rfl | rfl | rfl | rfl | rfl
  · exact sv_wa w
  · exact sv_arr _ _
  · exact sv_arr _ _
  · exact sv_arr _ _
  · exact sv_arr _ _
theorem svs_mo (m : Nat) : ∀ e ∈ moL m, SVe e := by
  intro e he
  simp only [moL, List.mem_cons, List.not_mem_nil, or_false] at he
  rcases he with rfl | rfl | rfl | rfl | rfl | rfl | rfl | rfl | rfl | rfl
  · exact sv_mo m
  · exact sv_arr _ _
  · exact sv_arr _ _
  · exact sv_arr _ _
  · exact sv_arr _ _
  · exact sv_arr _ _
  · exact sv_arr _ _
  · exact sv_arr _ _
  · exact sv_arr _ _
  · exact sv_arr _ _
theorem svs_x (v : Value) : ∀ e ∈ xL v, SVe e := by
  intro e he
  unfold xL paL at he
  rcases List.mem_cons.mp he with rfl | he
  · exact sv_x 1 16 32 v
  rcases List.mem_append.mp he with he | he
  · exact svs_fo 1 e he
  rcases List.mem_append.mp he with he | he
  · rcases List.mem_cons.mp he with rfl | he
    · exact sv_pa 16
    · exact svs_fo 17 e he
  · exact svs_wa 32 e he
theorem svX (v : Value) : mm_SV 37 (shL (xL v)) := sv_list (svs_x v)
theorem svM : mm_SV 10 (shL (moL 0)) := sv_list (svs_mo 0)
theorem svF : mm_SV 15 (shL (foL 0)) := sv_list (svs_fo 0)
theorem shF_ok : FoSh (shL (foL 0)) 0 := ⟨rfl, ⟨rfl, rfl, rfl, rfl, rfl, rfl, rfl, rfl, rfl⟩, ⟨rfl, rfl, rfl, rfl⟩, rfl⟩
theorem shM_ok : MoSh (shL (moL 0)) 0 := ⟨rfl, rfl, rfl, rfl, rfl, rfl, rfl, rfl, rfl, rfl⟩
theorem shX_fo (v : Value) : FoSh (shL (xL v)) 1 := ⟨rfl, ⟨rfl, rfl, rfl, rfl, rfl, rfl, rfl, rfl, rfl⟩, ⟨rfl, rfl, rfl, rfl⟩, rfl⟩
theorem shX_ok (v : Value) : XSh (shL (xL v)) 0 1 16 32 := ⟨⟨v, rfl⟩, shX_fo v, ⟨rfl, rfl, ⟨rfl, rfl, rfl, rfl, rfl, rfl, rfl, rfl, rfl⟩, ⟨rfl, rfl, rfl, rfl⟩, rfl⟩, ⟨rfl, rfl, rfl, rfl, rfl⟩, by omega, by omega⟩
