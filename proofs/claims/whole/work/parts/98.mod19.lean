theorem shr_i (a : Int32) : (a >>> (1 : Int32)).toInt = a.toInt / 2 := by
  have e : (a >>> (1 : Int32)).toBitVec = a.toBitVec.sshiftRight 1 := rfl
  show (a >>> (1 : Int32)).toBitVec.toInt = _
  rw [e, BitVec.toInt_sshiftRight, Int.shiftRight_eq_div_pow]
  rfl
theorem flo_i (a : Int32) : (flo a).toInt = a.toInt / 2 := by
  have h2 : (nI 2).toInt = 2 := rfl
  have b1 := a.toInt_lt
  have b2 := a.le_toInt
  have ms : (0 ≤ a ^^^ nI 2) = (0 ≤ a.toInt) := by
    have e : (a ^^^ nI 2).toBitVec.msb = a.toBitVec.msb := by
      rw [Int32.toBitVec_xor, BitVec.msb_xor]
      show (a.toBitVec.msb ^^ false) = _
      rw [Bool.xor_false]
    rw [BitVec.msb_eq_toInt, BitVec.msb_eq_toInt] at e
    have e := decide_eq_decide.mp e
    have e0 : (0 : Int32).toInt = 0 := rfl
    have e : ((a ^^^ nI 2).toInt < 0) ↔ a.toInt < 0 := e
    rw [Int32.le_iff_toInt_le, e0]
    exact propext ⟨fun h => by omega, fun h => by omega⟩
  have dv : (a / nI 2).toInt = a.toInt.tdiv 2 := by
    rw [Int32.toInt_div, h2]
    rcases Int.le_total 0 a.toInt with z | z
    · rw [Int.tdiv_eq_ediv_of_nonneg z, Int.bmod_def]
      omega
    · have : a.toInt.tdiv 2 = -((-a.toInt) / 2) := by
        rw [← Int.tdiv_eq_ediv_of_nonneg (by omega), Int.neg_tdiv]
        omega
      rw [this, Int.bmod_def]
      omega
  unfold flo
  by_cases h : 0 ≤ a ^^^ nI 2
  · rw [if_pos h, dv]
    rw [ms] at h
    exact Int.tdiv_eq_ediv_of_nonneg h
  · rw [if_neg h]
    rw [ms] at h
    have td : a.toInt.tdiv 2 = -((-a.toInt) / 2) := by
      rw [← Int.tdiv_eq_ediv_of_nonneg (by omega), Int.neg_tdiv]
      omega
    have mu : (a / nI 2 * nI 2).toInt = -((-a.toInt) / 2) * 2 := by
      rw [Int32.toInt_mul, dv, td, h2, Int.bmod_def]
      omega
    by_cases q : a / nI 2 * nI 2 = a
    · rw [if_pos q, dv, td]
      have := congrArg Int32.toInt q
      rw [mu] at this
      omega
    · rw [if_neg q]
      have : a.toInt ≠ -((-a.toInt) / 2) * 2 := fun e => q (Int32.toInt_inj.mp (by rw [mu]; exact e.symm))
      have h1 : (nI 1).toInt = 1 := rfl
      rw [Int32.toInt_sub, dv, td, h1, Int.bmod_def]
      omega
theorem shr_flo (a : Int32) : a >>> (nI 1 &&& 31) = flo a := by
  have e : (nI 1 &&& 31 : Int32) = 1 := by decide
  rw [e]
  exact Int32.toInt_inj.mp ((shr_i a).trans (flo_i a).symm)
