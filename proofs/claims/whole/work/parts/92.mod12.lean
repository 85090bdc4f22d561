section MRX
variable {sh : mm_Sh} {m : Nat} {M : Ms} {μ : mm_U} {s : Fo} {c : Ce} {Q : Option Value → mm_U → Prop}
theorem es_m1 (h : (es M).1 < 0) : (es M).1 = -1 := by
  have key := it_ind (esg M) 144 (fun _ a => a.1 = -1 ∨ ¬ a.1 < 0) (fun i a hi ha => by
    unfold esg
    split
    · split
      · split
        · exact Or.inr (nI_pos (by omega))
        · exact ha
      · exact ha
    · exact ha) (-1, nI 0) (Or.inl rfl)
  exact key.resolve_right (fun q => q h)
theorem rx_loop (O : MoSh sh m) : ∀ (d k : Nat) (s : Fo) (μ1 : mm_U), Inv s.1 → RepM s μ1 m → stN s.1 ≤ d → k + d < 2 ^ 31 → RO μ μ1 m → wp sh zX6_relaxes 7 [.ref m, .int (nI k), .int (es s.1).1] [] μ1 (fun r μ' => r = some (.int (nI (caF d k s).1)) ∧ (RepM (caF d k s).2 μ' m ∧ Inv (caF d k s).2.1) ∧ RO μ μ' m) := by
  intro d
  induction d with
  | zero =>
    intro k s μ1 J R hs hk F
    by_cases h : (es s.1).1 < 0
    · have e := es_m1 h
      rw [e]
      have q : ((-1 : Int32) = -1) = True := eq_true rfl
      rw [wp_il2 (y := zX6_relaxes) dX6_relaxes_7]
      simp (disch := first | omega | assumption) only [mm_op_some, true_and, and_true, mm_rc_some, mm_rc_none, pk_mul, nI_add, mm_in_t, nI_clamp, ok0, ok1, ok2, ok3, ok4, n1_0, n0_0, nI_le_, nI_lt_, if_true, if_false, not_true, not_false_eq_true, ce_lt, ce_cl, hf_lt, hf_cl, wp_iconst (y := zX6_relaxes) ((-1)) ki_m1 dX6_relaxes_8, wp_icmp_eq (y := zX6_relaxes) 28 (by decide) dX6_relaxes_9, wp_il1 (y := zX6_relaxes) dX6_relaxes_28, wp_ireti (y := zX6_relaxes) rfl dX6_relaxes_29, q]
      exact ⟨rfl, ⟨R, J⟩, F⟩
    · obtain ⟨w, _, hl, hc, he⟩ := es_pos h
      have := J.strain_lt hl hc he
      omega
  | succ d ih =>
    intro k s μ1 J R hs hk F
    by_cases h : (es s.1).1 < 0
    · have e := es_m1 h
      have ec : caF (d + 1) k s = (k, s) := by
        show (if (es s.1).1 < 0 then (k, s) else _) = _
        rw [if_pos h]
      rw [ec, e]
      have q : ((-1 : Int32) = -1) = True := eq_true rfl
      rw [wp_il2 (y := zX6_relaxes) dX6_relaxes_7]
      simp (disch := first | omega | assumption) only [mm_op_some, true_and, and_true, mm_rc_some, mm_rc_none, pk_mul, nI_add, mm_in_t, nI_clamp, ok0, ok1, ok2, ok3, ok4, n1_0, n0_0, nI_le_, nI_lt_, if_true, if_false, not_true, not_false_eq_true, ce_lt, ce_cl, hf_lt, hf_cl, wp_iconst (y := zX6_relaxes) ((-1)) ki_m1 dX6_relaxes_8, wp_icmp_eq (y := zX6_relaxes) 28 (by decide) dX6_relaxes_9, wp_il1 (y := zX6_relaxes) dX6_relaxes_28, wp_ireti (y := zX6_relaxes) rfl dX6_relaxes_29, q]
      exact ⟨⟨R, J⟩, F⟩
    · obtain ⟨w, e, hl, hc, he⟩ := es_pos h
      have lt := J.strain_lt hl hc he
      have ec : caF (d + 1) k s = caF d (k + 1) (fEv s (flM s.1 w) 0 7 (nI w.val)) := by
        show (if (es s.1).1 < 0 then (k, s) else caF d (k + 1) (fEv s (flM s.1 (wI (es s.1).1.toNatClampNeg)) 0 7 (es s.1).1)) = _
        rw [if_neg h, e, nI_clamp (by omega), wI_val]
      rw [ec, e]
      have q : (nI w.val = (-1 : Int32)) = False := nI_m1 (by omega)
      rw [wp_il2 (y := zX6_relaxes) dX6_relaxes_7]
      simp (disch := first | omega | assumption) only [mm_op_some, true_and, and_true, mm_rc_some, mm_rc_none, pk_mul, nI_add, mm_in_t, nI_clamp, ok0, ok1, ok2, ok3, ok4, n1_0, n0_0, nI_le_, nI_lt_, if_true, if_false, not_true, not_false_eq_true, ce_lt, ce_cl, hf_lt, hf_cl, wp_iconst (y := zX6_relaxes) ((-1)) ki_m1 dX6_relaxes_8, wp_icmp_eq (y := zX6_relaxes) 28 (by decide) dX6_relaxes_9, wp_al0 (y := zX6_relaxes) dX6_relaxes_12, wp_il2 (y := zX6_relaxes) dX6_relaxes_13, wp_cv1 (y := zX6_relaxes) kM6_153 (by decide) dX6_relaxes_14, (show yo zX6_swaps = 6 from rfl), O.oc, O.g0, O.g1, O.g2, O.g3, O.g4, O.g5, O.g6, O.g7, O.g9, O.g10, O.g11, O.p0, O.p7, O.a1, O.a2, O.a3, O.a4, O.a5, O.a6, O.a7, O.a8, O.a9, q]
      refine cl_mono (m_swaps O R J w hl hc) ?_
      rintro r μ2 ⟨rfl, R2, F2⟩
      have J2 : Inv (fEv s (flM s.1 w) 0 7 (nI w.val)).1 := J.fl hl hc
      have E1 : ∀ Q', cl sh zX6_easier [.ref m] μ2 Q' = Q' (some (.int (es (fEv s (flM s.1 w) 0 7 (nI w.val)).1).1)) μ2 := fun Q' => m_easier O R2.1 J2
      simp (disch := first | omega | assumption) only [mm_op_some, true_and, and_true, mm_rc_some, mm_rc_none, pk_mul, nI_add, mm_in_t, nI_clamp, ok0, ok1, ok2, ok3, ok4, n1_0, n0_0, nI_le_, nI_lt_, if_true, if_false, not_true, not_false_eq_true, ce_lt, ce_cl, hf_lt, hf_cl, wp_inc1 (y := zX6_relaxes) (nI 1) ki_1 dX6_relaxes_17, wp_al0 (y := zX6_relaxes) dX6_relaxes_20, wp_cv0 (y := zX6_relaxes) kM6_231 (by decide) dX6_relaxes_21, (show yo zX6_easier = 6 from rfl), wp_is2 (y := zX6_relaxes) dX6_relaxes_24, wp_goto (y := zX6_relaxes) 7 (by decide) dX6_relaxes_25, O.oc, O.g0, O.g1, O.g2, O.g3, O.g4, O.g5, O.g6, O.g7, O.g9, O.g10, O.g11, O.p0, O.p7, O.a1, O.a2, O.a3, O.a4, O.a5, O.a6, O.a7, O.a8, O.a9, E1]
      exact ih (k + 1) (fEv s (flM s.1 w) 0 7 (nI w.val)) μ2 J2 R2 (by show stN (flM s.1 w) ≤ d; omega) (by omega) (F.trans F2)
theorem m_relaxes (O : MoSh sh m) (R : RepM s μ m) (J : Inv s.1) : cl sh zX6_relaxes [.ref m] μ (fun r μ' => r = some (.int (nI (caF 1000000 0 s).1)) ∧ (RepM (caF 1000000 0 s).2 μ' m ∧ Inv (caF 1000000 0 s).2.1) ∧ RO μ μ' m) := by
  have E1 : ∀ Q', cl sh zX6_easier [.ref m] μ Q' = Q' (some (.int (es s.1).1)) μ := fun Q' => m_easier O R.1 J
  show wp sh zX6_relaxes 0 [.ref m, .null, .null] [] μ _
  simp (disch := first | omega | assumption) only [mm_op_some, true_and, and_true, mm_rc_some, mm_rc_none, pk_mul, nI_add, mm_in_t, nI_clamp, ok0, ok1, ok2, ok3, ok4, n1_0, n0_0, nI_le_, nI_lt_, if_true, if_false, not_true, not_false_eq_true, ce_lt, ce_cl, hf_lt, hf_cl, wp_iconst (y := zX6_relaxes) (nI 0) ki_0 dX6_relaxes_0, wp_is1 (y := zX6_relaxes) dX6_relaxes_1, wp_al0 (y := zX6_relaxes) dX6_relaxes_2, wp_cv0 (y := zX6_relaxes) kM6_231 (by decide) dX6_relaxes_3, (show yo zX6_easier = 6 from rfl), wp_is2 (y := zX6_relaxes) dX6_relaxes_6, O.oc, O.g0, O.g1, O.g2, O.g3, O.g4, O.g5, O.g6, O.g7, O.g9, O.g10, O.g11, O.p0, O.p7, O.a1, O.a2, O.a3, O.a4, O.a5, O.a6, O.a7, O.a8, O.a9, E1]
  exact rx_loop O 1000000 0 s μ J R (by have := J.stN_le; omega) (by decide) (RO.refl _ _)
/-- nothing but the row, what is going on and what is seeded has changed -/
def RS (μ μ' : mm_U) (m : Nat) : Prop := (∀ a, a ≠ m → a ≠ m + 1 → μ' a = μ a) ∧ ∀ k, k ≠ 7 → k ≠ 8 → μ' m k = μ m k
theorem RS.refl (μ : mm_U) (m : Nat) : RS μ μ m := ⟨fun _ _ _ => rfl, fun _ _ _ => rfl⟩
theorem RS.trans {μ1 μ2 : mm_U} (h1 : RS μ μ1 m) (h2 : RS μ1 μ2 m) : RS μ μ2 m := ⟨fun a h k => (h2.1 a h k).trans (h1.1 a h k), fun k h h' => (h2.2 k h h').trans (h1.2 k h h')⟩
theorem RM.rs {μ1 : mm_U} (h : RM μ μ1 m) : RS μ μ1 m := ⟨h.1, fun k h' _ => h.2 k h'⟩
theorem RS_mu8 {μ1 : mm_U} (h : RS μ μ1 m) (v : Int32) : RS μ (mu μ1 m (upd (μ1 m) 8 v)) m := ⟨fun a ha hb => by rw [mu_n _ _ ha]; exact h.1 a ha hb, fun k hk hk' => by rw [mu_s, upd_n _ _ hk']; exact h.2 k hk hk'⟩
theorem RepM.mu8 (R : RepM s μ m) (v : Int32) : RepM s (mu μ m (upd (μ m) 8 v)) m := by
  refine ⟨by rw [mu_n _ _ (by omega)]; exact R.1, ?_⟩
  rw [mu_s, mu_n _ _ (by omega), upd_n _ _ (by omega)]
  exact R.2
theorem lN_rem {a c : Nat} (ha : a < 2 ^ 40) (hc : c < 2 ^ 31) (h0 : 0 < c) : lN a - lN a / lN c * lN c = lN (a % c) := by
  have e : lN a / lN c = lN (a / c) := by
    apply Int64.toInt_inj.mp
    have ea : (lN a).toInt = (a : Int) := lg_ofNat_toInt (by omega)
    have ec : (lN c).toInt = (c : Int) := lg_ofNat_toInt (by omega)
    have hle : a / c ≤ a := Nat.div_le_self a c
    have eq_ : (lN (a / c)).toInt = ((a / c : Nat) : Int) := lg_ofNat_toInt (by omega)
    rw [Int64.toInt_div_of_ne_right _ _ (fun z => by
      have := congrArg Int64.toInt z
      rw [ec] at this
      have e1 : (-1 : Int64).toInt = -1 := by decide
      omega), ea, ec, eq_]
    exact (Int.ofNat_tdiv a c).symm
  have hm := Nat.div_add_mod a c
  have hle : a / c * c ≤ a := Nat.div_mul_le_self a c
  rw [e, lN_mul, lN_sub hle]
  congr 1
  rw [Nat.mul_comm] at hm
  omega
theorem m_draw (O : MoSh sh m) (z : Nat) (hz : z < 1900000) (h8 : μ m 8 = nI z) : cl sh zX6_draw [.ref m, .int (nI 144)] μ Q = Q (some (.int (nI ((1103 * z + 12345) % 1000003 % 144)))) (mu μ m (upd (μ m) 8 (nI ((1103 * z + 12345) % 1000003)))) := by
  have b : (1103 * z + 12345) % 1000003 < 1000003 := Nat.mod_lt _ (by decide)
  have e1 : (nI z).toInt64 = lN z := nI_l (by omega)
  have e2 : lN z * (1103 : Int64) + 12345 = lN (1103 * z + 12345) := by
    rw [show (1103 : Int64) = lN 1103 from rfl, show (12345 : Int64) = lN 12345 from rfl, lN_mul, lN_add, Nat.mul_comm]
  have e3 : lN (1103 * z + 12345) - lN (1103 * z + 12345) / 1000003 * 1000003 = lN ((1103 * z + 12345) % 1000003) := lN_rem (c := 1000003) (by omega) (by decide) (by decide)
  have g8 := O.g8
  have k1 : ¬ (1000003 : Int64) = 0 := by decide
  have k2 : ¬ lN 144 = 0 := by decide
  have e5 : (nI 144).toInt64 = lN 144 := nI_l (by decide)
  have e6 : (lN ((1103 * z + 12345) % 1000003)).toInt32 = nI ((1103 * z + 12345) % 1000003) := lN_i _
  have e7 : (nI ((1103 * z + 12345) % 1000003)).toInt64 = lN ((1103 * z + 12345) % 1000003) := nI_l (by omega)
  have p8 := O.p8 μ (lN ((1103 * z + 12345) % 1000003)) (by rw [e6, e7])
  rw [e6] at p8
  have e8 : lN ((1103 * z + 12345) % 1000003) - lN ((1103 * z + 12345) % 1000003) / lN 144 * lN 144 = lN ((1103 * z + 12345) % 1000003 % 144) := lN_rem (by omega) (by decide) (by decide)
  have e9 : (lN ((1103 * z + 12345) % 1000003 % 144)).toInt32 = nI ((1103 * z + 12345) % 1000003 % 144) := lN_i _
  show wp sh zX6_draw 0 [.ref m, .int (nI 144)] [] μ Q = _
  simp (disch := first | omega | assumption) only [mm_op_some, wp_al0 (y := zX6_draw) dX6_draw_0, wp_al0 (y := zX6_draw) dX6_draw_1, wp_getf (y := zX6_draw) kF6_199 dX6_draw_2, wp_ldc2 (y := zX6_draw) kL6_203 dX6_draw_5, wp_lmul (y := zX6_draw) dX6_draw_8, wp_ldc2 (y := zX6_draw) kL6_205 dX6_draw_9, wp_ladd (y := zX6_draw) dX6_draw_12, wp_ldc2 (y := zX6_draw) kL6_207 dX6_draw_13, wp_lrem' (y := zX6_draw) dX6_draw_16, wp_putf (y := zX6_draw) kF6_199 rfl dX6_draw_17, wp_al0 (y := zX6_draw) dX6_draw_20, wp_getf (y := zX6_draw) kF6_199 dX6_draw_21, wp_il1 (y := zX6_draw) dX6_draw_24, wp_i2l (y := zX6_draw) dX6_draw_25, wp_lrem' (y := zX6_draw) dX6_draw_26, wp_l2i (y := zX6_draw) dX6_draw_27, wp_ireti (y := zX6_draw) rfl dX6_draw_28, O.oc, g8, h8, e1, e2, e3, p8, mu_s, upd_s, e7, e5, e8, e9]
theorem m_shakes (O : MoSh sh m) (R : RepM s μ m) (J : Inv s.1) (seed n : Nat) (h : Int32) (hs : seed < 1900000) (hn : n < 2 ^ 30) : cl sh zX6_shakes [.ref m, .int (nI seed), .int (nI n), .int h] μ (fun r μ' => r = some (.int (nI (jlF h n seed s).2.1)) ∧ (RepM (jlF h n seed s).2.2 μ' m ∧ Inv (jlF h n seed s).2.2.1) ∧ RS μ μ' m ∧ μ' m 7 = μ m 7) := by
  have e1 : (nI seed).toInt64 = lN seed := nI_l (by omega)
  have e6 : (lN seed).toInt32 = nI seed := lN_i _
  have p8 := O.p8 μ (lN seed) (by rw [e6, e1])
  rw [e6] at p8
  show wp sh zX6_shakes 0 [.ref m, .int (nI seed), .int (nI n), .int h, .null, .null, .null] [] μ _
  simp (disch := first | omega | assumption) only [mm_op_some, wp_al0 (y := zX6_shakes) dX6_shakes_0, wp_il1 (y := zX6_shakes) dX6_shakes_1, wp_i2l (y := zX6_shakes) dX6_shakes_2, wp_putf (y := zX6_shakes) kF6_199 rfl dX6_shakes_3, wp_iconst (y := zX6_shakes) (nI 0) ki_0 dX6_shakes_6, wp_is4 (y := zX6_shakes) dX6_shakes_7, wp_iconst (y := zX6_shakes) (nI 0) ki_0 dX6_shakes_9, wp_is5 (y := zX6_shakes) dX6_shakes_10, O.oc, e1, p8]
  unfold jlF
  have bound : ∀ i, (it (fun _ a => jlS h a) i 0 (seed, 0, s)).1 < 1900000 ∧ (it (fun _ a => jlS h a) i 0 (seed, 0, s)).2.1 ≤ i := by
    intro i
    induction i with
    | zero => exact ⟨hs, Nat.le_refl _⟩
    | succ i ih =>
      rw [it_last0]
      generalize it (fun _ a => jlS h a) i 0 (seed, 0, s) = a at ih
      have b : (1103 * a.1 + 12345) % 1000003 < 1000003 := Nat.mod_lt _ (by decide)
      unfold jlS
      dsimp only
      split
      · split
        · split
          · exact ⟨(by omega : (1103 * a.1 + 12345) % 1000003 < 1900000), Nat.le_succ_of_le ih.2⟩
          · exact ⟨(by omega : (1103 * a.1 + 12345) % 1000003 < 1900000), Nat.succ_le_succ ih.2⟩
        · exact ⟨(by omega : (1103 * a.1 + 12345) % 1000003 < 1900000), Nat.le_succ_of_le ih.2⟩
      · exact ⟨(by omega : (1103 * a.1 + 12345) % 1000003 < 1900000), Nat.le_succ_of_le ih.2⟩
  refine lpI n (fun i (a : mm_U × Value) => wp sh zX6_shakes 12 [.ref m, .int (nI seed), .int (nI n), .int h, .int (nI (it (fun _ a => jlS h a) i 0 (seed, 0, s)).2.1), .int (nI i), a.2] [] a.1 (fun r μ' => r = some (.int (nI (it (fun _ a => jlS h a) n 0 (seed, 0, s)).2.1)) ∧ (RepM (it (fun _ a => jlS h a) n 0 (seed, 0, s)).2.2 μ' m ∧ Inv (it (fun _ a => jlS h a) n 0 (seed, 0, s)).2.2.1) ∧ RS μ μ' m ∧ μ' m 7 = μ m 7)) (fun i a => (RepM (it (fun _ a => jlS h a) i 0 (seed, 0, s)).2.2 a.1 m ∧ Inv (it (fun _ a => jlS h a) i 0 (seed, 0, s)).2.2.1) ∧ a.1 m 8 = nI (it (fun _ a => jlS h a) i 0 (seed, 0, s)).1 ∧ RS μ a.1 m ∧ a.1 m 7 = μ m 7) ?_ ?_ (mu μ m (upd (μ m) 8 (nI seed)), .null) ⟨⟨R.mu8 _, J⟩, (by show mu μ m (upd (μ m) 8 (nI seed)) m 8 = nI seed; rw [mu_s, upd_s]), RS_mu8 (RS.refl _ _) _, (by show mu μ m (upd (μ m) 8 (nI seed)) m 7 = μ m 7; rw [mu_s, upd_n _ _ (by omega)])⟩
  · rintro i ⟨μ1, v⟩ hi ⟨⟨R1, J1⟩, h8, F1, h7⟩ kx
    replace kx := fun (μ' : mm_U) (v : Value) q => kx (μ', v) q
    dsimp only at R1 J1 h8 F1 h7 kx ⊢
    rw [it_last0] at kx
    obtain ⟨b1_, b2_⟩ := bound i
    generalize it (fun _ a => jlS h a) i 0 (seed, 0, s) = a at *
    obtain ⟨z, q, t⟩ := a
    dsimp only at *
    have zb : (1103 * z + 12345) % 1000003 < 1000003 := Nat.mod_lt _ (by decide)
    have w144 : (1103 * z + 12345) % 1000003 % 144 < 144 := Nat.mod_lt _ (by decide)
    have h9 : (n ≤ i) = False := eq_false (by omega)
    have E1 : ∀ Q', cl sh zX6_draw [.ref m, .int (nI 144)] μ1 Q' = Q' (some (.int (nI ((1103 * z + 12345) % 1000003 % 144)))) (mu μ1 m (upd (μ1 m) 8 (nI ((1103 * z + 12345) % 1000003)))) := fun Q' => m_draw O z b1_ h8
    have R2 := R1.mu8 (nI ((1103 * z + 12345) % 1000003))
    have F2 := RS_mu8 F1 (nI ((1103 * z + 12345) % 1000003))
    have s8 : mu μ1 m (upd (μ1 m) 8 (nI ((1103 * z + 12345) % 1000003))) m 8 = nI ((1103 * z + 12345) % 1000003) := by rw [mu_s, upd_s]
    have s7 : mu μ1 m (upd (μ1 m) 8 (nI ((1103 * z + 12345) % 1000003))) m 7 = μ m 7 := by rw [mu_s, upd_n _ _ (by omega)]; exact h7
    generalize mu μ1 m (upd (μ1 m) 8 (nI ((1103 * z + 12345) % 1000003))) = μ2 at E1 R2 F2 s8 s7
    have E2 : ∀ Q', cl sh zX6_canSwap [.ref m, .int (nI ((1103 * z + 12345) % 1000003 % 144))] μ2 Q' = Q' (some (.int (bI (lv t.1 (wI ((1103 * z + 12345) % 1000003 % 144)) && can t.1 (wI ((1103 * z + 12345) % 1000003 % 144)))))) μ2 := fun Q' => m_canSwap O R2.1 J1 w144
    have iv := wI_lt w144
    unfold jlS at kx
    dsimp only at kx
    generalize (1103 * z + 12345) % 1000003 = y at *
    rw [wp_il5 (y := zX6_shakes) dX6_shakes_12]
    have no : (lv t.1 (wI (y % 144)) && can t.1 (wI (y % 144))) = false → (if lv t.1 (wI (y % 144)) = true then (if can t.1 (wI (y % 144)) = true then (if ease t.1 (wI (y % 144)) < -h then (y, q, t) else (y, q + 1, fEv t (flM t.1 (wI (y % 144))) 0 7 (nI (y % 144)))) else (y, q, t)) else (y, q, t)) = (y, q, t) := by
      intro hb
      split
      · rename_i hl
        rw [hl, Bool.true_and] at hb
        rw [hb, if_neg (by decide)]
      · rfl
    cases hb : (lv t.1 (wI (y % 144)) && can t.1 (wI (y % 144))) with
    | false =>
      rw [hb] at E2
      rw [no hb] at kx
      simp (disch := first | omega | assumption) only [mm_op_some, true_and, and_true, mm_rc_some, mm_rc_none, pk_mul, nI_add, mm_in_t, nI_clamp, ok0, ok1, ok2, ok3, ok4, n1_0, n0_0, nI_le_, nI_lt_, if_true, if_false, not_true, not_false_eq_true, ce_lt, ce_cl, hf_lt, hf_cl, wp_il2 (y := zX6_shakes) dX6_shakes_14, wp_icmp_ge (y := zX6_shakes) 62 (by decide) dX6_shakes_15, wp_al0 (y := zX6_shakes) dX6_shakes_18, wp_sipush (y := zX6_shakes) (nI 144) ks_144 dX6_shakes_19, wp_cv1 (y := zX6_shakes) kM6_209 (by decide) dX6_shakes_22, (show yo zX6_draw = 6 from rfl), wp_is6 (y := zX6_shakes) dX6_shakes_25, wp_al0 (y := zX6_shakes) dX6_shakes_27, wp_il6 (y := zX6_shakes) dX6_shakes_28, wp_cv1 (y := zX6_shakes) kM6_147 (by decide) dX6_shakes_30, (show yo zX6_canSwap = 6 from rfl), wp_if_eq (y := zX6_shakes) 56 (by decide) dX6_shakes_33, wp_inc5 (y := zX6_shakes) (nI 1) ki_1 dX6_shakes_56, wp_goto (y := zX6_shakes) 12 (by decide) dX6_shakes_59, O.oc, O.g0, O.g1, O.g2, O.g3, O.g4, O.g5, O.g6, O.g7, O.g9, O.g10, O.g11, O.p0, O.p7, O.a1, O.a2, O.a3, O.a4, O.a5, O.a6, O.a7, O.a8, O.a9, E1, E2, bI_f, h9]
      exact kx _ _ ⟨⟨R2, J1⟩, s8, F2, s7⟩
    | true =>
      rw [hb] at E2
      have hl : lv t.1 (wI (y % 144)) = true := (Bool.and_eq_true _ _ ▸ hb).1
      have hc : can t.1 (wI (y % 144)) = true := (Bool.and_eq_true _ _ ▸ hb).2
      rw [if_pos hl, if_pos hc] at kx
      have E3 : ∀ Q', cl sh zX6_easing [.ref m, .int (nI (y % 144))] μ2 Q' = Q' (some (.int (ease t.1 (wI (y % 144))))) μ2 := fun Q' => by
        have := m_easing (Q := Q') O R2.1 J1 (wI (y % 144)) hl
        rw [iv] at this
        exact this
      by_cases he : ease t.1 (wI (y % 144)) < -h
      · rw [if_pos he] at kx
        simp (disch := first | omega | assumption) only [mm_op_some, true_and, and_true, mm_rc_some, mm_rc_none, pk_mul, nI_add, mm_in_t, nI_clamp, ok0, ok1, ok2, ok3, ok4, n1_0, n0_0, nI_le_, nI_lt_, if_true, if_false, not_true, not_false_eq_true, ce_lt, ce_cl, hf_lt, hf_cl, wp_il2 (y := zX6_shakes) dX6_shakes_14, wp_icmp_ge (y := zX6_shakes) 62 (by decide) dX6_shakes_15, wp_al0 (y := zX6_shakes) dX6_shakes_18, wp_sipush (y := zX6_shakes) (nI 144) ks_144 dX6_shakes_19, wp_cv1 (y := zX6_shakes) kM6_209 (by decide) dX6_shakes_22, (show yo zX6_draw = 6 from rfl), wp_is6 (y := zX6_shakes) dX6_shakes_25, wp_al0 (y := zX6_shakes) dX6_shakes_27, wp_il6 (y := zX6_shakes) dX6_shakes_28, wp_cv1 (y := zX6_shakes) kM6_147 (by decide) dX6_shakes_30, (show yo zX6_canSwap = 6 from rfl), wp_if_eq (y := zX6_shakes) 56 (by decide) dX6_shakes_33, wp_al0 (y := zX6_shakes) dX6_shakes_36, wp_il6 (y := zX6_shakes) dX6_shakes_37, wp_cv1 (y := zX6_shakes) kM6_150 (by decide) dX6_shakes_39, (show yo zX6_easing = 6 from rfl), wp_il3 (y := zX6_shakes) dX6_shakes_42, wp_ineg (y := zX6_shakes) dX6_shakes_43, wp_icmp_lt (y := zX6_shakes) 56 (by decide) dX6_shakes_44, wp_inc5 (y := zX6_shakes) (nI 1) ki_1 dX6_shakes_56, wp_goto (y := zX6_shakes) 12 (by decide) dX6_shakes_59, O.oc, O.g0, O.g1, O.g2, O.g3, O.g4, O.g5, O.g6, O.g7, O.g9, O.g10, O.g11, O.p0, O.p7, O.a1, O.a2, O.a3, O.a4, O.a5, O.a6, O.a7, O.a8, O.a9, E1, E2, E3, bI_t, h9, he]
        exact kx _ _ ⟨⟨R2, J1⟩, s8, F2, s7⟩
      · rw [if_neg he] at kx
        simp (disch := first | omega | assumption) only [mm_op_some, true_and, and_true, mm_rc_some, mm_rc_none, pk_mul, nI_add, mm_in_t, nI_clamp, ok0, ok1, ok2, ok3, ok4, n1_0, n0_0, nI_le_, nI_lt_, if_true, if_false, not_true, not_false_eq_true, ce_lt, ce_cl, hf_lt, hf_cl, wp_il2 (y := zX6_shakes) dX6_shakes_14, wp_icmp_ge (y := zX6_shakes) 62 (by decide) dX6_shakes_15, wp_al0 (y := zX6_shakes) dX6_shakes_18, wp_sipush (y := zX6_shakes) (nI 144) ks_144 dX6_shakes_19, wp_cv1 (y := zX6_shakes) kM6_209 (by decide) dX6_shakes_22, (show yo zX6_draw = 6 from rfl), wp_is6 (y := zX6_shakes) dX6_shakes_25, wp_al0 (y := zX6_shakes) dX6_shakes_27, wp_il6 (y := zX6_shakes) dX6_shakes_28, wp_cv1 (y := zX6_shakes) kM6_147 (by decide) dX6_shakes_30, (show yo zX6_canSwap = 6 from rfl), wp_if_eq (y := zX6_shakes) 56 (by decide) dX6_shakes_33, wp_al0 (y := zX6_shakes) dX6_shakes_36, wp_il6 (y := zX6_shakes) dX6_shakes_37, wp_cv1 (y := zX6_shakes) kM6_150 (by decide) dX6_shakes_39, (show yo zX6_easing = 6 from rfl), wp_il3 (y := zX6_shakes) dX6_shakes_42, wp_ineg (y := zX6_shakes) dX6_shakes_43, wp_icmp_lt (y := zX6_shakes) 56 (by decide) dX6_shakes_44, wp_al0 (y := zX6_shakes) dX6_shakes_47, wp_il6 (y := zX6_shakes) dX6_shakes_48, wp_cv1 (y := zX6_shakes) kM6_153 (by decide) dX6_shakes_50, (show yo zX6_swaps = 6 from rfl), O.oc, O.g0, O.g1, O.g2, O.g3, O.g4, O.g5, O.g6, O.g7, O.g9, O.g10, O.g11, O.p0, O.p7, O.a1, O.a2, O.a3, O.a4, O.a5, O.a6, O.a7, O.a8, O.a9, E1, E2, E3, bI_t, h9, he]
        have qq := m_swaps O R2 J1 (wI (y % 144)) hl hc
        rw [iv] at qq
        refine cl_mono qq ?_
        rintro r μ3 ⟨rfl, R3, F3⟩
        simp (disch := first | omega | assumption) only [mm_op_some, true_and, and_true, mm_rc_some, mm_rc_none, pk_mul, nI_add, mm_in_t, nI_clamp, ok0, ok1, ok2, ok3, ok4, n1_0, n0_0, nI_le_, nI_lt_, if_true, if_false, not_true, not_false_eq_true, ce_lt, ce_cl, hf_lt, hf_cl, wp_inc4 (y := zX6_shakes) (nI 1) ki_1 dX6_shakes_53, wp_inc5 (y := zX6_shakes) (nI 1) ki_1 dX6_shakes_56, wp_goto (y := zX6_shakes) 12 (by decide) dX6_shakes_59]
        refine kx _ _ ⟨⟨R3, J1.fl hl hc⟩, ?_, F2.trans F3.rm.rs, ?_⟩
        · rw [F3 m (by omega)]; exact s8
        · rw [F3 m (by omega)]; exact s7
  · rintro ⟨μ1, v⟩ ⟨⟨R1, J1⟩, h8, F1, h7⟩
    dsimp only at R1 J1 h8 F1 h7 ⊢
    have h9 : (n ≤ n) = True := eq_true (Nat.le_refl _)
    rw [wp_il5 (y := zX6_shakes) dX6_shakes_12]
    simp (disch := first | omega | assumption) only [mm_op_some, true_and, and_true, mm_rc_some, mm_rc_none, pk_mul, nI_add, mm_in_t, nI_clamp, ok0, ok1, ok2, ok3, ok4, n1_0, n0_0, nI_le_, nI_lt_, if_true, if_false, not_true, not_false_eq_true, ce_lt, ce_cl, hf_lt, hf_cl, wp_il2 (y := zX6_shakes) dX6_shakes_14, wp_icmp_ge (y := zX6_shakes) 62 (by decide) dX6_shakes_15, wp_il4 (y := zX6_shakes) dX6_shakes_62, wp_ireti (y := zX6_shakes) rfl dX6_shakes_64, h9]
    exact ⟨⟨R1, J1⟩, F1, h7⟩
end MRX
