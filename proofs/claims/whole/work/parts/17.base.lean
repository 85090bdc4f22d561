/-! ===== words for runs of the small machine ===== -/
section BASE
variable {sh : mm_Sh} {y : mm_Y} {pc : Nat} {ls st : List Value} {μ : mm_U} {Q : Option Value → mm_U → Prop}
theorem wp_idiv' {a b : Int32} (hd : decode (yc y) pc = .ok (.idiv, 1)) (hb : ¬ b = 0) : wp sh y pc ls (.int b :: .int a :: st) μ Q = wp sh y (pc + 1) ls (.int (a / b) :: st) μ Q := wp_idiv hb hd
theorem wp_irem' {a b : Int32} (hd : decode (yc y) pc = .ok (.irem, 1)) (hb : ¬ b = 0) : wp sh y pc ls (.int b :: .int a :: st) μ Q = wp sh y (pc + 1) ls (.int (a - a / b * b) :: st) μ Q := wp_irem hb hd
theorem wp_lrem' {a b : Int64} (hd : decode (yc y) pc = .ok (.lrem, 1)) (hb : ¬ b = 0) : wp sh y pc ls (.long b :: .long a :: st) μ Q = wp sh y (pc + 1) ls (.long (a - a / b * b) :: st) μ Q := wp_lrem hb hd
theorem wp_acp' {a a0 idx k : Nat} (hm : mm_lk (mm_M (yo y)) idx = none) (hk : mm_lk (mm_P (yo y)) idx = some 0) (hr : 0 < yr y) (hd : decode (yc y) pc = .ok (.invokestatic idx, 3)) (h0 : 0 < k) (h31 : k < 2 ^ 31) (h1 : k ≤ mm_al sh a0) (h2 : k ≤ mm_al sh a) : wp sh y pc ls [.int (nI k), .int (nI 0), .ref a, .int (nI 0), .ref a0] μ Q = wp sh y (pc + 3) ls [] (mu μ a (va_cpy (μ a0) (μ a) 0 0 k)) Q := by
  have e0 : (nI 0).toNatClampNeg = 0 := by decide
  have e1 : ¬ nI 0 < 0 := by decide
  rw [wp_acp hm hk hr (by rw [nI_clamp h31]; exact h0) hd, nI_clamp h31, e0]
  exact propext ⟨fun q => q.2, fun q => ⟨⟨e1, e1, nI_pos h31, by omega, by omega⟩, q⟩⟩
theorem wp_ialdS0 {i : Int32} (hd : decode (yc y) pc = .ok (.iaload, 1)) : wp sh y pc ls (.int i :: .retAddr 0 :: st) μ Q = (mm_in i 6 = true ∧ wp sh y (pc + 1) ls (.int (mm_toX i.toNatClampNeg) :: st) μ Q) := wp_ialdS (by decide) hd
theorem wp_ialdS1 {i : Int32} (hd : decode (yc y) pc = .ok (.iaload, 1)) : wp sh y pc ls (.int i :: .retAddr 1 :: st) μ Q = (mm_in i 6 = true ∧ wp sh y (pc + 1) ls (.int (mm_toY i.toNatClampNeg) :: st) μ Q) := wp_ialdS (by decide) hd
end BASE
theorem ok0 : (mm_ok [] = true) = True := eq_true rfl
theorem ok1 (a : Value) : (mm_ok [a] = true) = True := eq_true rfl
theorem ok2 (a b : Value) : (mm_ok [a, b] = true) = True := eq_true rfl
theorem ok3 (a b c : Value) : (mm_ok [a, b, c] = true) = True := eq_true rfl
theorem ok4 (a b c d : Value) : (mm_ok [a, b, c, d] = true) = True := eq_true rfl
theorem mm_in_t {k n : Nat} (hk : k < n) (hn : n < 2 ^ 31) : (mm_in (nI k) n = true) = True := by
  rw [mm_in_nI (by omega)]
  exact eq_true hk
def bI (p : Bool) : Int32 := if p = true then nI 1 else nI 0
theorem bI_t : bI true = nI 1 := rfl
theorem bI_f : bI false = nI 0 := rfl
theorem bI_eq0 (p : Bool) : (bI p = 0) = (p = false) := by cases p <;> exact propext (by decide)
theorem bI_ne0 (p : Bool) : (¬ bI p = 0) = (p = true) := by cases p <;> exact propext (by decide)
theorem bI_zz (p : Bool) : (bI p = 0 ∨ bI p = 1) = True := by cases p <;> exact eq_true (by decide)
theorem n1_0 : (nI 1 = 0) = False := eq_false (by decide)
theorem n0_0 : (nI 0 = 0) = True := eq_true (by decide)
theorem n0_zz : (nI 0 = 0 ∨ nI 0 = 1) = True := eq_true (by decide)
theorem n1_zz : (nI 1 = 0 ∨ nI 1 = 1) = True := eq_true (by decide)
theorem nI_le_ {a b : Nat} (ha : a < 2 ^ 31) (hb : b < 2 ^ 31) : (nI a ≤ nI b) = (a ≤ b) := propext (nI_leI ha hb)
theorem nI_lt_ {a b : Nat} (ha : a < 2 ^ 31) (hb : b < 2 ^ 31) : (nI a < nI b) = (a < b) := propext (nI_ltI ha hb)
theorem nI_eq_ {a b : Nat} (ha : a < 2 ^ 31) (hb : b < 2 ^ 31) : (nI a = nI b) = (a = b) := propext (nI_eq ha hb)
theorem nI_lt0 {n : Nat} (h : n < 2 ^ 31) : (nI n < 0) = False := eq_false (nI_pos h)
theorem nI_ge0 {n : Nat} (h : n < 2 ^ 31) : (0 ≤ nI n) = True := eq_true (nI_pos' h)
theorem nI_gt0 {n : Nat} (h : n < 2 ^ 31) : (0 < nI n) = (0 < n) := by
  have := nI_lt_ (a := 0) (b := n) (by decide) h
  rw [nI_0] at this
  exact this
theorem nI_le0 {n : Nat} (h : n < 2 ^ 31) : (nI n ≤ 0) = (n = 0) := by
  have := nI_le_ (a := n) (b := 0) h (by decide)
  rw [nI_0] at this
  rw [this]
  exact propext ⟨fun q => by omega, fun q => by omega⟩
theorem nI_eq0 {n : Nat} (h : n < 2 ^ 31) : (nI n = 0) = (n = 0) := by
  have := nI_eq_ (a := n) (b := 0) h (by decide)
  rw [nI_0] at this
  exact this
theorem nI_xor (a b : Nat) : nI a ^^^ nI b = nI (a ^^^ b) := by
  apply Int32.toBitVec_inj.mp
  unfold nI
  simp only [Int32.toBitVec_xor, Int32.toBitVec_ofNat]
  exact BitVec.ofNat_xor.symm
theorem cl_eq {sh : mm_Sh} {z : mm_Y} {as : List Value} {μ : mm_U} {Q : Option Value → mm_U → Prop} : cl sh z as μ Q = wp sh z 0 (mm_pd (yl z) as) [] μ Q := rfl
theorem m1_lt0 : ((-1 : Int32) < 0) = True := eq_true (by decide)
theorem m1_ge0 : ((0 : Int32) ≤ (-1 : Int32)) = False := eq_false (by decide)
theorem n1_1 : (nI 1 = 1) = True := eq_true (by decide)
theorem k10 : ((1 : Nat) = 0) = False := eq_false (by decide)
