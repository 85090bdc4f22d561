/-! ===== the mathematical mesh: halves, cells, walls ===== -/
abbrev Hf : Type := Fin 288
abbrev Ce : Type := Fin 48
abbrev Wa : Type := Fin 144
def tw (h : Hf) : Hf := ⟨if h.val % 2 = 0 then h.val + 1 else h.val - 1, by have := h.isLt; split <;> omega⟩
def h0 (w : Wa) : Hf := ⟨2 * w.val, by have := w.isLt; omega⟩
def h1 (w : Wa) : Hf := ⟨2 * w.val + 1, by have := w.isLt; omega⟩
def wl (h : Hf) : Wa := ⟨h.val / 2, by have := h.isLt; omega⟩
theorem tw_val (h : Hf) : (tw h).val = if h.val % 2 = 0 then h.val + 1 else h.val - 1 := rfl
theorem tw_xor (h : Hf) : h.val ^^^ 1 = (tw h).val := by
  have key : ∀ h : Hf, h.val ^^^ 1 = (tw h).val := by decide +kernel
  exact key h
theorem tw_tw (h : Hf) : tw (tw h) = h := by
  apply Fin.ext
  rw [tw_val, tw_val]
  split <;> split <;> omega
theorem tw_ne (h : Hf) : tw h ≠ h := by
  intro e
  have := congrArg Fin.val e
  rw [tw_val] at this
  split at this <;> omega
theorem wl_tw (h : Hf) : wl (tw h) = wl h := by
  apply Fin.ext
  show (tw h).val / 2 = h.val / 2
  rw [tw_val]
  split <;> omega
theorem tw_h0 (w : Wa) : tw (h0 w) = h1 w := by
  apply Fin.ext
  rw [tw_val]
  show (if (2 * w.val) % 2 = 0 then 2 * w.val + 1 else _) = 2 * w.val + 1
  rw [if_pos (by omega)]
theorem tw_h1 (w : Wa) : tw (h1 w) = h0 w := by rw [← tw_h0, tw_tw]
theorem wl_h0 (w : Wa) : wl (h0 w) = w := by
  apply Fin.ext
  show 2 * w.val / 2 = w.val
  omega
theorem wl_h1 (w : Wa) : wl (h1 w) = w := by
  apply Fin.ext
  show (2 * w.val + 1) / 2 = w.val
  omega
theorem h0_val (w : Wa) : (h0 w).val = 2 * w.val := rfl
theorem h1_val (w : Wa) : (h1 w).val = 2 * w.val + 1 := rfl
theorem wl_val (h : Hf) : (wl h).val = h.val / 2 := rfl
abbrev Ms : Type := (Wa → Bool) × (Hf → Ce) × (Hf → Hf) × (Hf → Hf) × (Hf → Int32) × (Hf → Int32) × (Wa → Int32) × (Ce → Nat) × (Ce → Int32)
abbrev lv (M : Ms) : Wa → Bool := M.1
abbrev ow (M : Ms) : Hf → Ce := M.2.1
abbrev nx (M : Ms) : Hf → Hf := M.2.2.1
abbrev pv (M : Ms) : Hf → Hf := M.2.2.2.1
abbrev rx (M : Ms) : Hf → Int32 := M.2.2.2.2.1
abbrev ry (M : Ms) : Hf → Int32 := M.2.2.2.2.2.1
abbrev ln (M : Ms) : Wa → Int32 := M.2.2.2.2.2.2.1
abbrev sd (M : Ms) : Ce → Nat := M.2.2.2.2.2.2.2.1
abbrev ar (M : Ms) : Ce → Int32 := M.2.2.2.2.2.2.2.2
/-- the class's arrays hold a mesh: the Mesh object is cell b, its arrays b + 1 .. b + 8 -/
def RepC (M : Ms) (μ : mm_U) (b : Nat) : Prop :=
  (∀ h : Hf, lv M (wl h) = true → μ (b + 1) h.val = nI (ow M h).val ∧ μ (b + 2) h.val = nI (nx M h).val ∧ μ (b + 3) h.val = nI (pv M h).val ∧ μ (b + 4) h.val = rx M h ∧ μ (b + 5) h.val = ry M h)
  ∧ (∀ h : Hf, lv M (wl h) = false → μ (b + 1) h.val = -1)
  ∧ (∀ w : Wa, lv M w = true → μ (b + 6) w.val = ln M w)
  ∧ (∀ c : Ce, μ (b + 7) c.val = nI (sd M c))
  ∧ (∀ c : Ce, 0 < sd M c → μ (b + 8) c.val = ar M c)
def MeshSh (sh : mm_Sh) (b : Nat) : Prop := sh b = .inr (2, [some (.inl (b + 1)), some (.inl (b + 2)), some (.inl (b + 3)), some (.inl (b + 4)), some (.inl (b + 5)), some (.inl (b + 6)), some (.inl (b + 7)), some (.inl (b + 8))])
  ∧ sh (b + 1) = .inl (0, 288) ∧ sh (b + 2) = .inl (0, 288) ∧ sh (b + 3) = .inl (0, 288) ∧ sh (b + 4) = .inl (0, 288) ∧ sh (b + 5) = .inl (0, 288) ∧ sh (b + 6) = .inl (0, 144) ∧ sh (b + 7) = .inl (0, 48) ∧ sh (b + 8) = .inl (0, 48)
section MSH
variable {sh : mm_Sh} {b : Nat}
theorem MeshSh.oc (S : MeshSh sh b) : (mm_oc sh b 2 = true) = True := by unfold mm_oc; rw [S.1]; exact eq_true rfl
theorem MeshSh.g0 (S : MeshSh sh b) (μ : mm_U) : mm_gf sh μ b 2 0 = some (.ref (b + 1)) := by unfold mm_gf mm_oc mm_fd; rw [S.1]; rfl
theorem MeshSh.g1 (S : MeshSh sh b) (μ : mm_U) : mm_gf sh μ b 2 1 = some (.ref (b + 2)) := by unfold mm_gf mm_oc mm_fd; rw [S.1]; rfl
theorem MeshSh.g2 (S : MeshSh sh b) (μ : mm_U) : mm_gf sh μ b 2 2 = some (.ref (b + 3)) := by unfold mm_gf mm_oc mm_fd; rw [S.1]; rfl
theorem MeshSh.g3 (S : MeshSh sh b) (μ : mm_U) : mm_gf sh μ b 2 3 = some (.ref (b + 4)) := by unfold mm_gf mm_oc mm_fd; rw [S.1]; rfl
theorem MeshSh.g4 (S : MeshSh sh b) (μ : mm_U) : mm_gf sh μ b 2 4 = some (.ref (b + 5)) := by unfold mm_gf mm_oc mm_fd; rw [S.1]; rfl
theorem MeshSh.g5 (S : MeshSh sh b) (μ : mm_U) : mm_gf sh μ b 2 5 = some (.ref (b + 6)) := by unfold mm_gf mm_oc mm_fd; rw [S.1]; rfl
theorem MeshSh.g6 (S : MeshSh sh b) (μ : mm_U) : mm_gf sh μ b 2 6 = some (.ref (b + 7)) := by unfold mm_gf mm_oc mm_fd; rw [S.1]; rfl
theorem MeshSh.g7 (S : MeshSh sh b) (μ : mm_U) : mm_gf sh μ b 2 7 = some (.ref (b + 8)) := by unfold mm_gf mm_oc mm_fd; rw [S.1]; rfl
theorem MeshSh.a1 (S : MeshSh sh b) : mm_al sh (b + 1) = 288 := by unfold mm_al; rw [S.2.1]; rfl
theorem MeshSh.a2 (S : MeshSh sh b) : mm_al sh (b + 2) = 288 := by unfold mm_al; rw [S.2.2.1]; rfl
theorem MeshSh.a3 (S : MeshSh sh b) : mm_al sh (b + 3) = 288 := by unfold mm_al; rw [S.2.2.2.1]; rfl
theorem MeshSh.a4 (S : MeshSh sh b) : mm_al sh (b + 4) = 288 := by unfold mm_al; rw [S.2.2.2.2.1]; rfl
theorem MeshSh.a5 (S : MeshSh sh b) : mm_al sh (b + 5) = 288 := by unfold mm_al; rw [S.2.2.2.2.2.1]; rfl
theorem MeshSh.a6 (S : MeshSh sh b) : mm_al sh (b + 6) = 144 := by unfold mm_al; rw [S.2.2.2.2.2.2.1]; rfl
theorem MeshSh.a7 (S : MeshSh sh b) : mm_al sh (b + 7) = 48 := by unfold mm_al; rw [S.2.2.2.2.2.2.2.1]; rfl
theorem MeshSh.a8 (S : MeshSh sh b) : mm_al sh (b + 8) = 48 := by unfold mm_al; rw [S.2.2.2.2.2.2.2.2]; rfl
end MSH
/-- sides are few -/
def SdB (M : Ms) : Prop := ∀ c : Ce, sd M c ≤ 288
def cI (i : Nat) : Ce := ⟨i % 48, Nat.mod_lt _ (by decide)⟩
def wI (i : Nat) : Wa := ⟨i % 144, Nat.mod_lt _ (by decide)⟩
def hI (i : Nat) : Hf := ⟨i % 288, Nat.mod_lt _ (by decide)⟩
theorem cI_lt {i : Nat} (h : i < 48) : (cI i).val = i := Nat.mod_eq_of_lt h
theorem wI_lt {i : Nat} (h : i < 144) : (wI i).val = i := Nat.mod_eq_of_lt h
theorem hI_lt {i : Nat} (h : i < 288) : (hI i).val = i := Nat.mod_eq_of_lt h
theorem cI_val (c : Ce) : cI c.val = c := Fin.ext (cI_lt c.isLt)
theorem wI_val (c : Wa) : wI c.val = c := Fin.ext (wI_lt c.isLt)
theorem hI_val (c : Hf) : hI c.val = c := Fin.ext (hI_lt c.isLt)
/-- a loop over 0 .. n - 1 -/
def it {α : Type} (g : Nat → α → α) : Nat → Nat → α → α
  | 0, _, a => a
  | d + 1, i, a => it g d (i + 1) (g i a)
theorem lp {α : Type} (N : Nat) (F : Nat → α → Prop) (g : Nat → α → α) (hs : ∀ i a, i < N → F i a = F (i + 1) (g i a)) (a : α) : F 0 a = F N (it g N 0 a) := by
  have key : ∀ d i a, i + d = N → F i a = F N (it g d i a) := by
    intro d
    induction d with
    | zero => intro i a h; rw [show i = N by omega]; rfl
    | succ d ih => intro i a h; rw [hs i a (by omega), ih (i + 1) (g i a) (by omega)]; rfl
  exact key N 0 a (by omega)
theorem it_congr {α : Type} {g f : Nat → α → α} : ∀ (d i : Nat) (a : α), (∀ j a, i ≤ j → j < i + d → g j a = f j a) → it g d i a = it f d i a
  | 0, _, _, _ => rfl
  | d + 1, i, a, h => by
    show it g d (i + 1) (g i a) = it f d (i + 1) (f i a)
    rw [h i a (Nat.le_refl _) (by omega)]
    exact it_congr d (i + 1) _ (fun j b h1 h2 => h j b (by omega) (by omega))
/-- the first of 0 .. n - 1 -/
def fd (P : Nat → Bool) : Nat → Nat → Option Nat
  | 0, _ => none
  | d + 1, i => if P i = true then some i else fd P d (i + 1)
def fo : Option Nat → Int32
  | some j => nI j
  | none => -1
theorem lpf (N : Nat) (F : Nat → Prop) (P : Nat → Bool) (E : Nat → Prop) (hs : ∀ i, i < N → F i = if P i = true then E i else F (i + 1)) : F 0 = match fd P N 0 with
    | some j => E j
    | none => F N := by
  have key : ∀ d i, i + d = N → F i = match fd P d i with
    | some j => E j
    | none => F N := by
    intro d
    induction d with
    | zero => intro i h; rw [show i = N by omega]; rfl
    | succ d ih =>
      intro i h
      rw [hs i (by omega)]
      unfold fd
      by_cases hp : P i = true
      · rw [if_pos hp, if_pos hp]
      · rw [if_neg hp, if_neg hp]
        exact ih (i + 1) (by omega)
  exact key N 0 (by omega)
theorem fd_some {P : Nat → Bool} : ∀ {d i j : Nat}, fd P d i = some j → P j = true ∧ i ≤ j ∧ j < i + d ∧ ∀ k, i ≤ k → k < j → P k = false
  | 0, _, _, h => by cases h
  | d + 1, i, j, h => by
    unfold fd at h
    by_cases hp : P i = true
    · rw [if_pos hp] at h
      cases h
      exact ⟨hp, Nat.le_refl _, by omega, fun k h1 h2 => by omega⟩
    · rw [if_neg hp] at h
      obtain ⟨h1, h2, h3, h4⟩ := fd_some h
      refine ⟨h1, by omega, by omega, fun k a1 a2 => ?_⟩
      by_cases e : k = i
      · rw [e]; exact Bool.eq_false_iff.mpr hp
      · exact h4 k (by omega) a2
theorem fd_none {P : Nat → Bool} : ∀ {d i : Nat}, fd P d i = none → ∀ k, i ≤ k → k < i + d → P k = false
  | 0, _, _, k, h1, h2 => by omega
  | d + 1, i, h, k, h1, h2 => by
    unfold fd at h
    by_cases hp : P i = true
    · rw [if_pos hp] at h
      cases h
    · rw [if_neg hp] at h
      by_cases e : k = i
      · rw [e]; exact Bool.eq_false_iff.mpr hp
      · exact fd_none h k (by omega) (by omega)
theorem fd_ex {P : Nat → Bool} {n k : Nat} (hk : k < n) (hp : P k = true) : ∃ j, fd P n 0 = some j := by
  cases h : fd P n 0 with
  | some j => exact ⟨j, rfl⟩
  | none =>
    have := fd_none h k (Nat.zero_le _) (by omega)
    rw [hp] at this
    cases this
theorem fd_congr {P P' : Nat → Bool} : ∀ (d i : Nat), (∀ k, i ≤ k → k < i + d → P k = P' k) → fd P d i = fd P' d i
  | 0, _, _ => rfl
  | d + 1, i, h => by
    unfold fd
    rw [h i (Nat.le_refl _) (by omega), fd_congr d (i + 1) (fun k h1 h2 => h k (by omega) (by omega))]
/-- the i-th half behind one -/
def nxi (M : Ms) : Nat → Hf → Hf
  | 0, h => h
  | k + 1, h => nxi M k (nx M h)
theorem nxi_s (M : Ms) : ∀ (k : Nat) (h : Hf), nxi M (k + 1) h = nx M (nxi M k h)
  | 0, _ => rfl
  | k + 1, h => by
    show nxi M (k + 1) (nx M h) = nx M (nxi M k (nx M h))
    exact nxi_s M k (nx M h)
theorem it_fst {α β : Type} {f : Nat → α → α} {k : Nat → α × β → β} : ∀ (d i : Nat) (a : α × β), (it (fun i (a : α × β) => (f i a.1, k i a)) d i a).1 = it f d i a.1
  | 0, _, _ => rfl
  | d + 1, i, a => it_fst d (i + 1) (f i a.1, k i a)
theorem ce_vv (a c : Ce) : (a.val = c.val) = (a = c) := propext ⟨Fin.ext, fun h => by rw [h]⟩
theorem hf_vv (a c : Hf) : (a.val = c.val) = (a = c) := propext ⟨Fin.ext, fun h => by rw [h]⟩
theorem wa_vv (a c : Wa) : (a.val = c.val) = (a = c) := propext ⟨Fin.ext, fun h => by rw [h]⟩
theorem i_irr (x : Int32) : (x < x) = False := eq_false (fun h => by rw [Int32.lt_iff_toInt_lt] at h; omega)
theorem i_rfl (x : Int32) : (x ≤ x) = True := eq_true (by rw [Int32.le_iff_toInt_le]; omega)
theorem lpI {α : Type} (N : Nat) (F I : Nat → α → Prop) (hs : ∀ i a, i < N → I i a → (∀ a', I (i + 1) a' → F (i + 1) a') → F i a) (he : ∀ a, I N a → F N a) (a : α) (h0 : I 0 a) : F 0 a := by
  have key : ∀ d i a, i + d = N → I i a → F i a := by
    intro d
    induction d with
    | zero => intro i a h hI; rw [show i = N by omega] at hI ⊢; exact he a hI
    | succ d ih => intro i a h hI; exact hs i a (by omega) hI (fun a' h' => ih (i + 1) a' (by omega) h')
  exact key N 0 a (by omega) h0
