/-! ===== what a cut leaves, as functions ===== -/
theorem cutNx1 (f : Hf → Hf) {t A1 ta tb A2 u a B3 C3 A0 B2 b na pb : Hf} (d_t_A1 : t ≠ A1) (d_t_tb : t ≠ tb) (d_t_A2 : t ≠ A2) (d_t_a : t ≠ a) (d_t_B3 : t ≠ B3) (d_t_C3 : t ≠ C3) (d_t_A0 : t ≠ A0) (d_t_B2 : t ≠ B2) (d_t_pb : t ≠ pb) (d_A1_tb : A1 ≠ tb) (d_A1_A2 : A1 ≠ A2) (d_A1_a : A1 ≠ a) (d_A1_B3 : A1 ≠ B3) (d_A1_C3 : A1 ≠ C3) (d_A1_A0 : A1 ≠ A0) (d_A1_B2 : A1 ≠ B2) (d_A1_pb : A1 ≠ pb) (d_tb_A2 : tb ≠ A2) (d_tb_a : tb ≠ a) (d_tb_B3 : tb ≠ B3) (d_tb_C3 : tb ≠ C3) (d_tb_A0 : tb ≠ A0) (d_tb_B2 : tb ≠ B2) (d_tb_pb : tb ≠ pb) (d_A2_a : A2 ≠ a) (d_A2_B3 : A2 ≠ B3) (d_A2_C3 : A2 ≠ C3) (d_A2_A0 : A2 ≠ A0) (d_A2_B2 : A2 ≠ B2) (d_A2_pb : A2 ≠ pb) (d_a_B3 : a ≠ B3) (d_a_C3 : a ≠ C3) (d_a_A0 : a ≠ A0) (d_a_B2 : a ≠ B2) (d_a_pb : a ≠ pb) (d_B3_C3 : B3 ≠ C3) (d_B3_A0 : B3 ≠ A0) (d_B3_B2 : B3 ≠ B2) (d_B3_pb : B3 ≠ pb) (d_C3_A0 : C3 ≠ A0) (d_C3_B2 : C3 ≠ B2) (d_C3_pb : C3 ≠ pb) (d_A0_B2 : A0 ≠ B2) (d_A0_pb : A0 ≠ pb) (d_B2_pb : B2 ≠ pb) (g : Hf) : (fu (fu (fu (fu (fu (fu (fu (fu (fu (fu f t A1) A1 ta) A2 u) tb A2) a B3) B3 b) B2 C3) C3 A0) A0 na) pb B2) g = (fu (fu (fu (fu (fu (fu (fu (fu (fu (fu (fu (fu (fu (fu f t A1) A1 ta) tb A2) A2 u) a B3) B3 na) B3 C3) C3 na) C3 A0) A0 na) pb B2) B2 b) B3 b) B2 C3) g := by
  have e_t_A1 := d_t_A1.symm
  have e_t_tb := d_t_tb.symm
  have e_t_A2 := d_t_A2.symm
  have e_t_a := d_t_a.symm
  have e_t_B3 := d_t_B3.symm
  have e_t_C3 := d_t_C3.symm
  have e_t_A0 := d_t_A0.symm
  have e_t_B2 := d_t_B2.symm
  have e_t_pb := d_t_pb.symm
  have e_A1_tb := d_A1_tb.symm
  have e_A1_A2 := d_A1_A2.symm
  have e_A1_a := d_A1_a.symm
  have e_A1_B3 := d_A1_B3.symm
  have e_A1_C3 := d_A1_C3.symm
  have e_A1_A0 := d_A1_A0.symm
  have e_A1_B2 := d_A1_B2.symm
  have e_A1_pb := d_A1_pb.symm
  have e_tb_A2 := d_tb_A2.symm
  have e_tb_a := d_tb_a.symm
  have e_tb_B3 := d_tb_B3.symm
  have e_tb_C3 := d_tb_C3.symm
  have e_tb_A0 := d_tb_A0.symm
  have e_tb_B2 := d_tb_B2.symm
  have e_tb_pb := d_tb_pb.symm
  have e_A2_a := d_A2_a.symm
  have e_A2_B3 := d_A2_B3.symm
  have e_A2_C3 := d_A2_C3.symm
  have e_A2_A0 := d_A2_A0.symm
  have e_A2_B2 := d_A2_B2.symm
  have e_A2_pb := d_A2_pb.symm
  have e_a_B3 := d_a_B3.symm
  have e_a_C3 := d_a_C3.symm
  have e_a_A0 := d_a_A0.symm
  have e_a_B2 := d_a_B2.symm
  have e_a_pb := d_a_pb.symm
  have e_B3_C3 := d_B3_C3.symm
  have e_B3_A0 := d_B3_A0.symm
  have e_B3_B2 := d_B3_B2.symm
  have e_B3_pb := d_B3_pb.symm
  have e_C3_A0 := d_C3_A0.symm
  have e_C3_B2 := d_C3_B2.symm
  have e_C3_pb := d_C3_pb.symm
  have e_A0_B2 := d_A0_B2.symm
  have e_A0_pb := d_A0_pb.symm
  have e_B2_pb := d_B2_pb.symm
  by_cases h_t : g = t
  · subst h_t
    simp [fu, d_t_A1, e_t_A1, d_t_tb, e_t_tb, d_t_A2, e_t_A2, d_t_a, e_t_a, d_t_B3, e_t_B3, d_t_C3, e_t_C3, d_t_A0, e_t_A0, d_t_B2, e_t_B2, d_t_pb, e_t_pb]
  by_cases h_A1 : g = A1
  · subst h_A1
    simp [fu, d_t_A1, e_t_A1, d_A1_tb, e_A1_tb, d_A1_A2, e_A1_A2, d_A1_a, e_A1_a, d_A1_B3, e_A1_B3, d_A1_C3, e_A1_C3, d_A1_A0, e_A1_A0, d_A1_B2, e_A1_B2, d_A1_pb, e_A1_pb]
  by_cases h_tb : g = tb
  · subst h_tb
    simp [fu, d_t_tb, e_t_tb, d_A1_tb, e_A1_tb, d_tb_A2, e_tb_A2, d_tb_a, e_tb_a, d_tb_B3, e_tb_B3, d_tb_C3, e_tb_C3, d_tb_A0, e_tb_A0, d_tb_B2, e_tb_B2, d_tb_pb, e_tb_pb]
  by_cases h_A2 : g = A2
  · subst h_A2
    simp [fu, d_t_A2, e_t_A2, d_A1_A2, e_A1_A2, d_tb_A2, e_tb_A2, d_A2_a, e_A2_a, d_A2_B3, e_A2_B3, d_A2_C3, e_A2_C3, d_A2_A0, e_A2_A0, d_A2_B2, e_A2_B2, d_A2_pb, e_A2_pb]
  by_cases h_a : g = a
  · subst h_a
    simp [fu, d_t_a, e_t_a, d_A1_a, e_A1_a, d_tb_a, e_tb_a, d_A2_a, e_A2_a, d_a_B3, e_a_B3, d_a_C3, e_a_C3, d_a_A0, e_a_A0, d_a_B2, e_a_B2, d_a_pb, e_a_pb]
  by_cases h_B3 : g = B3
  · subst h_B3
    simp [fu, d_t_B3, e_t_B3, d_A1_B3, e_A1_B3, d_tb_B3, e_tb_B3, d_A2_B3, e_A2_B3, d_a_B3, e_a_B3, d_B3_C3, e_B3_C3, d_B3_A0, e_B3_A0, d_B3_B2, e_B3_B2, d_B3_pb, e_B3_pb]
  by_cases h_C3 : g = C3
  · subst h_C3
    simp [fu, d_t_C3, e_t_C3, d_A1_C3, e_A1_C3, d_tb_C3, e_tb_C3, d_A2_C3, e_A2_C3, d_a_C3, e_a_C3, d_B3_C3, e_B3_C3, d_C3_A0, e_C3_A0, d_C3_B2, e_C3_B2, d_C3_pb, e_C3_pb]
  by_cases h_A0 : g = A0
  · subst h_A0
    simp [fu, d_t_A0, e_t_A0, d_A1_A0, e_A1_A0, d_tb_A0, e_tb_A0, d_A2_A0, e_A2_A0, d_a_A0, e_a_A0, d_B3_A0, e_B3_A0, d_C3_A0, e_C3_A0, d_A0_B2, e_A0_B2, d_A0_pb, e_A0_pb]
  by_cases h_B2 : g = B2
  · subst h_B2
    simp [fu, d_t_B2, e_t_B2, d_A1_B2, e_A1_B2, d_tb_B2, e_tb_B2, d_A2_B2, e_A2_B2, d_a_B2, e_a_B2, d_B3_B2, e_B3_B2, d_C3_B2, e_C3_B2, d_A0_B2, e_A0_B2, d_B2_pb, e_B2_pb]
  by_cases h_pb : g = pb
  · subst h_pb
    simp [fu, d_t_pb, e_t_pb, d_A1_pb, e_A1_pb, d_tb_pb, e_tb_pb, d_A2_pb, e_A2_pb, d_a_pb, e_a_pb, d_B3_pb, e_B3_pb, d_C3_pb, e_C3_pb, d_A0_pb, e_A0_pb, d_B2_pb, e_B2_pb]
  simp [fu, h_t, h_A1, h_tb, h_A2, h_a, h_B3, h_C3, h_A0, h_B2, h_pb]
theorem cutNx0 (f : Hf → Hf) {t A1 ta tb A2 u a B3 C3 A0 B2 b na pb : Hf} (d_t_A1 : t ≠ A1) (d_t_tb : t ≠ tb) (d_t_A2 : t ≠ A2) (d_t_a : t ≠ a) (d_t_B3 : t ≠ B3) (d_t_C3 : t ≠ C3) (d_t_A0 : t ≠ A0) (d_t_B2 : t ≠ B2) (d_A1_tb : A1 ≠ tb) (d_A1_A2 : A1 ≠ A2) (d_A1_a : A1 ≠ a) (d_A1_B3 : A1 ≠ B3) (d_A1_C3 : A1 ≠ C3) (d_A1_A0 : A1 ≠ A0) (d_A1_B2 : A1 ≠ B2) (d_tb_A2 : tb ≠ A2) (d_tb_a : tb ≠ a) (d_tb_B3 : tb ≠ B3) (d_tb_C3 : tb ≠ C3) (d_tb_A0 : tb ≠ A0) (d_tb_B2 : tb ≠ B2) (d_A2_a : A2 ≠ a) (d_A2_B3 : A2 ≠ B3) (d_A2_C3 : A2 ≠ C3) (d_A2_A0 : A2 ≠ A0) (d_A2_B2 : A2 ≠ B2) (d_a_B3 : a ≠ B3) (d_a_C3 : a ≠ C3) (d_a_A0 : a ≠ A0) (d_a_B2 : a ≠ B2) (d_B3_C3 : B3 ≠ C3) (d_B3_A0 : B3 ≠ A0) (d_B3_B2 : B3 ≠ B2) (d_C3_A0 : C3 ≠ A0) (d_C3_B2 : C3 ≠ B2) (d_A0_B2 : A0 ≠ B2) (g : Hf) : (fu (fu (fu (fu (fu (fu (fu (fu (fu f t A1) A1 ta) A2 u) tb A2) a B3) B3 b) B2 C3) C3 A0) A0 B2) g = (fu (fu (fu (fu (fu (fu (fu (fu (fu (fu (fu (fu (fu (fu f t A1) A1 ta) tb A2) A2 u) a B3) B3 na) B3 C3) C3 na) C3 A0) A0 na) A0 B2) B2 b) B3 b) B2 C3) g := by
  have e_t_A1 := d_t_A1.symm
  have e_t_tb := d_t_tb.symm
  have e_t_A2 := d_t_A2.symm
  have e_t_a := d_t_a.symm
  have e_t_B3 := d_t_B3.symm
  have e_t_C3 := d_t_C3.symm
  have e_t_A0 := d_t_A0.symm
  have e_t_B2 := d_t_B2.symm
  have e_A1_tb := d_A1_tb.symm
  have e_A1_A2 := d_A1_A2.symm
  have e_A1_a := d_A1_a.symm
  have e_A1_B3 := d_A1_B3.symm
  have e_A1_C3 := d_A1_C3.symm
  have e_A1_A0 := d_A1_A0.symm
  have e_A1_B2 := d_A1_B2.symm
  have e_tb_A2 := d_tb_A2.symm
  have e_tb_a := d_tb_a.symm
  have e_tb_B3 := d_tb_B3.symm
  have e_tb_C3 := d_tb_C3.symm
  have e_tb_A0 := d_tb_A0.symm
  have e_tb_B2 := d_tb_B2.symm
  have e_A2_a := d_A2_a.symm
  have e_A2_B3 := d_A2_B3.symm
  have e_A2_C3 := d_A2_C3.symm
  have e_A2_A0 := d_A2_A0.symm
  have e_A2_B2 := d_A2_B2.symm
  have e_a_B3 := d_a_B3.symm
  have e_a_C3 := d_a_C3.symm
  have e_a_A0 := d_a_A0.symm
  have e_a_B2 := d_a_B2.symm
  have e_B3_C3 := d_B3_C3.symm
  have e_B3_A0 := d_B3_A0.symm
  have e_B3_B2 := d_B3_B2.symm
  have e_C3_A0 := d_C3_A0.symm
  have e_C3_B2 := d_C3_B2.symm
  have e_A0_B2 := d_A0_B2.symm
  by_cases h_t : g = t
  · subst h_t
    simp [fu, d_t_A1, e_t_A1, d_t_tb, e_t_tb, d_t_A2, e_t_A2, d_t_a, e_t_a, d_t_B3, e_t_B3, d_t_C3, e_t_C3, d_t_A0, e_t_A0, d_t_B2, e_t_B2]
  by_cases h_A1 : g = A1
  · subst h_A1
    simp [fu, d_t_A1, e_t_A1, d_A1_tb, e_A1_tb, d_A1_A2, e_A1_A2, d_A1_a, e_A1_a, d_A1_B3, e_A1_B3, d_A1_C3, e_A1_C3, d_A1_A0, e_A1_A0, d_A1_B2, e_A1_B2]
  by_cases h_tb : g = tb
  · subst h_tb
    simp [fu, d_t_tb, e_t_tb, d_A1_tb, e_A1_tb, d_tb_A2, e_tb_A2, d_tb_a, e_tb_a, d_tb_B3, e_tb_B3, d_tb_C3, e_tb_C3, d_tb_A0, e_tb_A0, d_tb_B2, e_tb_B2]
  by_cases h_A2 : g = A2
  · subst h_A2
    simp [fu, d_t_A2, e_t_A2, d_A1_A2, e_A1_A2, d_tb_A2, e_tb_A2, d_A2_a, e_A2_a, d_A2_B3, e_A2_B3, d_A2_C3, e_A2_C3, d_A2_A0, e_A2_A0, d_A2_B2, e_A2_B2]
  by_cases h_a : g = a
  · subst h_a
    simp [fu, d_t_a, e_t_a, d_A1_a, e_A1_a, d_tb_a, e_tb_a, d_A2_a, e_A2_a, d_a_B3, e_a_B3, d_a_C3, e_a_C3, d_a_A0, e_a_A0, d_a_B2, e_a_B2]
  by_cases h_B3 : g = B3
  · subst h_B3
    simp [fu, d_t_B3, e_t_B3, d_A1_B3, e_A1_B3, d_tb_B3, e_tb_B3, d_A2_B3, e_A2_B3, d_a_B3, e_a_B3, d_B3_C3, e_B3_C3, d_B3_A0, e_B3_A0, d_B3_B2, e_B3_B2]
  by_cases h_C3 : g = C3
  · subst h_C3
    simp [fu, d_t_C3, e_t_C3, d_A1_C3, e_A1_C3, d_tb_C3, e_tb_C3, d_A2_C3, e_A2_C3, d_a_C3, e_a_C3, d_B3_C3, e_B3_C3, d_C3_A0, e_C3_A0, d_C3_B2, e_C3_B2]
  by_cases h_A0 : g = A0
  · subst h_A0
    simp [fu, d_t_A0, e_t_A0, d_A1_A0, e_A1_A0, d_tb_A0, e_tb_A0, d_A2_A0, e_A2_A0, d_a_A0, e_a_A0, d_B3_A0, e_B3_A0, d_C3_A0, e_C3_A0, d_A0_B2, e_A0_B2]
  by_cases h_B2 : g = B2
  · subst h_B2
    simp [fu, d_t_B2, e_t_B2, d_A1_B2, e_A1_B2, d_tb_B2, e_tb_B2, d_A2_B2, e_A2_B2, d_a_B2, e_a_B2, d_B3_B2, e_B3_B2, d_C3_B2, e_C3_B2, d_A0_B2, e_A0_B2]
  simp [fu, h_t, h_A1, h_tb, h_A2, h_a, h_B3, h_C3, h_A0, h_B2]
theorem cutPv1 (f : Hf → Hf) {t A1 ta tb A2 u a B3 C3 A0 B2 b na pb : Hf} (d_A1_ta : A1 ≠ ta) (d_A1_A2 : A1 ≠ A2) (d_A1_u : A1 ≠ u) (d_A1_B3 : A1 ≠ B3) (d_A1_na : A1 ≠ na) (d_A1_C3 : A1 ≠ C3) (d_A1_A0 : A1 ≠ A0) (d_A1_B2 : A1 ≠ B2) (d_A1_b : A1 ≠ b) (d_ta_A2 : ta ≠ A2) (d_ta_u : ta ≠ u) (d_ta_B3 : ta ≠ B3) (d_ta_na : ta ≠ na) (d_ta_C3 : ta ≠ C3) (d_ta_A0 : ta ≠ A0) (d_ta_B2 : ta ≠ B2) (d_ta_b : ta ≠ b) (d_A2_u : A2 ≠ u) (d_A2_B3 : A2 ≠ B3) (d_A2_na : A2 ≠ na) (d_A2_C3 : A2 ≠ C3) (d_A2_A0 : A2 ≠ A0) (d_A2_B2 : A2 ≠ B2) (d_A2_b : A2 ≠ b) (d_u_B3 : u ≠ B3) (d_u_na : u ≠ na) (d_u_C3 : u ≠ C3) (d_u_A0 : u ≠ A0) (d_u_B2 : u ≠ B2) (d_u_b : u ≠ b) (d_B3_na : B3 ≠ na) (d_B3_C3 : B3 ≠ C3) (d_B3_A0 : B3 ≠ A0) (d_B3_B2 : B3 ≠ B2) (d_B3_b : B3 ≠ b) (d_na_C3 : na ≠ C3) (d_na_A0 : na ≠ A0) (d_na_B2 : na ≠ B2) (d_na_b : na ≠ b) (d_C3_A0 : C3 ≠ A0) (d_C3_B2 : C3 ≠ B2) (d_C3_b : C3 ≠ b) (d_A0_B2 : A0 ≠ B2) (d_A0_b : A0 ≠ b) (d_B2_b : B2 ≠ b) (g : Hf) : (fu (fu (fu (fu (fu (fu (fu (fu (fu (fu f A1 t) ta A1) u A2) A2 tb) B3 a) b B3) C3 B2) A0 C3) na A0) B2 pb) g = (fu (fu (fu (fu (fu (fu (fu (fu (fu (fu (fu (fu (fu (fu f A1 t) ta A1) A2 tb) u A2) B3 a) na B3) C3 B3) na C3) A0 C3) na A0) B2 pb) b B2) b B3) C3 B2) g := by
  have e_A1_ta := d_A1_ta.symm
  have e_A1_A2 := d_A1_A2.symm
  have e_A1_u := d_A1_u.symm
  have e_A1_B3 := d_A1_B3.symm
  have e_A1_na := d_A1_na.symm
  have e_A1_C3 := d_A1_C3.symm
  have e_A1_A0 := d_A1_A0.symm
  have e_A1_B2 := d_A1_B2.symm
  have e_A1_b := d_A1_b.symm
  have e_ta_A2 := d_ta_A2.symm
  have e_ta_u := d_ta_u.symm
  have e_ta_B3 := d_ta_B3.symm
  have e_ta_na := d_ta_na.symm
  have e_ta_C3 := d_ta_C3.symm
  have e_ta_A0 := d_ta_A0.symm
  have e_ta_B2 := d_ta_B2.symm
  have e_ta_b := d_ta_b.symm
  have e_A2_u := d_A2_u.symm
  have e_A2_B3 := d_A2_B3.symm
  have e_A2_na := d_A2_na.symm
  have e_A2_C3 := d_A2_C3.symm
  have e_A2_A0 := d_A2_A0.symm
  have e_A2_B2 := d_A2_B2.symm
  have e_A2_b := d_A2_b.symm
  have e_u_B3 := d_u_B3.symm
  have e_u_na := d_u_na.symm
  have e_u_C3 := d_u_C3.symm
  have e_u_A0 := d_u_A0.symm
  have e_u_B2 := d_u_B2.symm
  have e_u_b := d_u_b.symm
  have e_B3_na := d_B3_na.symm
  have e_B3_C3 := d_B3_C3.symm
  have e_B3_A0 := d_B3_A0.symm
  have e_B3_B2 := d_B3_B2.symm
  have e_B3_b := d_B3_b.symm
  have e_na_C3 := d_na_C3.symm
  have e_na_A0 := d_na_A0.symm
  have e_na_B2 := d_na_B2.symm
  have e_na_b := d_na_b.symm
  have e_C3_A0 := d_C3_A0.symm
  have e_C3_B2 := d_C3_B2.symm
  have e_C3_b := d_C3_b.symm
  have e_A0_B2 := d_A0_B2.symm
  have e_A0_b := d_A0_b.symm
  have e_B2_b := d_B2_b.symm
  by_cases h_A1 : g = A1
  · subst h_A1
    simp [fu, d_A1_ta, e_A1_ta, d_A1_A2, e_A1_A2, d_A1_u, e_A1_u, d_A1_B3, e_A1_B3, d_A1_na, e_A1_na, d_A1_C3, e_A1_C3, d_A1_A0, e_A1_A0, d_A1_B2, e_A1_B2, d_A1_b, e_A1_b]
  by_cases h_ta : g = ta
  · subst h_ta
    simp [fu, d_A1_ta, e_A1_ta, d_ta_A2, e_ta_A2, d_ta_u, e_ta_u, d_ta_B3, e_ta_B3, d_ta_na, e_ta_na, d_ta_C3, e_ta_C3, d_ta_A0, e_ta_A0, d_ta_B2, e_ta_B2, d_ta_b, e_ta_b]
  by_cases h_A2 : g = A2
  · subst h_A2
    simp [fu, d_A1_A2, e_A1_A2, d_ta_A2, e_ta_A2, d_A2_u, e_A2_u, d_A2_B3, e_A2_B3, d_A2_na, e_A2_na, d_A2_C3, e_A2_C3, d_A2_A0, e_A2_A0, d_A2_B2, e_A2_B2, d_A2_b, e_A2_b]
  by_cases h_u : g = u
  · subst h_u
    simp [fu, d_A1_u, e_A1_u, d_ta_u, e_ta_u, d_A2_u, e_A2_u, d_u_B3, e_u_B3, d_u_na, e_u_na, d_u_C3, e_u_C3, d_u_A0, e_u_A0, d_u_B2, e_u_B2, d_u_b, e_u_b]
  by_cases h_B3 : g = B3
  · subst h_B3
    simp [fu, d_A1_B3, e_A1_B3, d_ta_B3, e_ta_B3, d_A2_B3, e_A2_B3, d_u_B3, e_u_B3, d_B3_na, e_B3_na, d_B3_C3, e_B3_C3, d_B3_A0, e_B3_A0, d_B3_B2, e_B3_B2, d_B3_b, e_B3_b]
  by_cases h_na : g = na
  · subst h_na
    simp [fu, d_A1_na, e_A1_na, d_ta_na, e_ta_na, d_A2_na, e_A2_na, d_u_na, e_u_na, d_B3_na, e_B3_na, d_na_C3, e_na_C3, d_na_A0, e_na_A0, d_na_B2, e_na_B2, d_na_b, e_na_b]
  by_cases h_C3 : g = C3
  · subst h_C3
    simp [fu, d_A1_C3, e_A1_C3, d_ta_C3, e_ta_C3, d_A2_C3, e_A2_C3, d_u_C3, e_u_C3, d_B3_C3, e_B3_C3, d_na_C3, e_na_C3, d_C3_A0, e_C3_A0, d_C3_B2, e_C3_B2, d_C3_b, e_C3_b]
  by_cases h_A0 : g = A0
  · subst h_A0
    simp [fu, d_A1_A0, e_A1_A0, d_ta_A0, e_ta_A0, d_A2_A0, e_A2_A0, d_u_A0, e_u_A0, d_B3_A0, e_B3_A0, d_na_A0, e_na_A0, d_C3_A0, e_C3_A0, d_A0_B2, e_A0_B2, d_A0_b, e_A0_b]
  by_cases h_B2 : g = B2
  · subst h_B2
    simp [fu, d_A1_B2, e_A1_B2, d_ta_B2, e_ta_B2, d_A2_B2, e_A2_B2, d_u_B2, e_u_B2, d_B3_B2, e_B3_B2, d_na_B2, e_na_B2, d_C3_B2, e_C3_B2, d_A0_B2, e_A0_B2, d_B2_b, e_B2_b]
  by_cases h_b : g = b
  · subst h_b
    simp [fu, d_A1_b, e_A1_b, d_ta_b, e_ta_b, d_A2_b, e_A2_b, d_u_b, e_u_b, d_B3_b, e_B3_b, d_na_b, e_na_b, d_C3_b, e_C3_b, d_A0_b, e_A0_b, d_B2_b, e_B2_b]
  simp [fu, h_A1, h_ta, h_A2, h_u, h_B3, h_na, h_C3, h_A0, h_B2, h_b]
theorem cutPv0 (f : Hf → Hf) {t A1 ta tb A2 u a B3 C3 A0 B2 b : Hf} (d_A1_ta : A1 ≠ ta) (d_A1_A2 : A1 ≠ A2) (d_A1_u : A1 ≠ u) (d_A1_B3 : A1 ≠ B3) (d_A1_C3 : A1 ≠ C3) (d_A1_A0 : A1 ≠ A0) (d_A1_B2 : A1 ≠ B2) (d_A1_b : A1 ≠ b) (d_ta_A2 : ta ≠ A2) (d_ta_u : ta ≠ u) (d_ta_B3 : ta ≠ B3) (d_ta_C3 : ta ≠ C3) (d_ta_A0 : ta ≠ A0) (d_ta_B2 : ta ≠ B2) (d_ta_b : ta ≠ b) (d_A2_u : A2 ≠ u) (d_A2_B3 : A2 ≠ B3) (d_A2_C3 : A2 ≠ C3) (d_A2_A0 : A2 ≠ A0) (d_A2_B2 : A2 ≠ B2) (d_A2_b : A2 ≠ b) (d_u_B3 : u ≠ B3) (d_u_C3 : u ≠ C3) (d_u_A0 : u ≠ A0) (d_u_B2 : u ≠ B2) (d_u_b : u ≠ b) (d_B3_C3 : B3 ≠ C3) (d_B3_A0 : B3 ≠ A0) (d_B3_B2 : B3 ≠ B2) (d_B3_b : B3 ≠ b) (d_C3_A0 : C3 ≠ A0) (d_C3_B2 : C3 ≠ B2) (d_C3_b : C3 ≠ b) (d_A0_B2 : A0 ≠ B2) (d_A0_b : A0 ≠ b) (d_B2_b : B2 ≠ b) (g : Hf) : (fu (fu (fu (fu (fu (fu (fu (fu (fu f A1 t) ta A1) u A2) A2 tb) B3 a) b B3) C3 B2) A0 C3) B2 A0) g = (fu (fu (fu (fu (fu (fu (fu (fu (fu (fu (fu (fu (fu (fu f A1 t) ta A1) A2 tb) u A2) B3 a) b B3) C3 B3) b C3) A0 C3) b A0) B2 A0) b B2) b B3) C3 B2) g := by
  have e_A1_ta := d_A1_ta.symm
  have e_A1_A2 := d_A1_A2.symm
  have e_A1_u := d_A1_u.symm
  have e_A1_B3 := d_A1_B3.symm
  have e_A1_C3 := d_A1_C3.symm
  have e_A1_A0 := d_A1_A0.symm
  have e_A1_B2 := d_A1_B2.symm
  have e_A1_b := d_A1_b.symm
  have e_ta_A2 := d_ta_A2.symm
  have e_ta_u := d_ta_u.symm
  have e_ta_B3 := d_ta_B3.symm
  have e_ta_C3 := d_ta_C3.symm
  have e_ta_A0 := d_ta_A0.symm
  have e_ta_B2 := d_ta_B2.symm
  have e_ta_b := d_ta_b.symm
  have e_A2_u := d_A2_u.symm
  have e_A2_B3 := d_A2_B3.symm
  have e_A2_C3 := d_A2_C3.symm
  have e_A2_A0 := d_A2_A0.symm
  have e_A2_B2 := d_A2_B2.symm
  have e_A2_b := d_A2_b.symm
  have e_u_B3 := d_u_B3.symm
  have e_u_C3 := d_u_C3.symm
  have e_u_A0 := d_u_A0.symm
  have e_u_B2 := d_u_B2.symm
  have e_u_b := d_u_b.symm
  have e_B3_C3 := d_B3_C3.symm
  have e_B3_A0 := d_B3_A0.symm
  have e_B3_B2 := d_B3_B2.symm
  have e_B3_b := d_B3_b.symm
  have e_C3_A0 := d_C3_A0.symm
  have e_C3_B2 := d_C3_B2.symm
  have e_C3_b := d_C3_b.symm
  have e_A0_B2 := d_A0_B2.symm
  have e_A0_b := d_A0_b.symm
  have e_B2_b := d_B2_b.symm
  by_cases h_A1 : g = A1
  · subst h_A1
    simp [fu, d_A1_ta, e_A1_ta, d_A1_A2, e_A1_A2, d_A1_u, e_A1_u, d_A1_B3, e_A1_B3, d_A1_C3, e_A1_C3, d_A1_A0, e_A1_A0, d_A1_B2, e_A1_B2, d_A1_b, e_A1_b]
  by_cases h_ta : g = ta
  · subst h_ta
    simp [fu, d_A1_ta, e_A1_ta, d_ta_A2, e_ta_A2, d_ta_u, e_ta_u, d_ta_B3, e_ta_B3, d_ta_C3, e_ta_C3, d_ta_A0, e_ta_A0, d_ta_B2, e_ta_B2, d_ta_b, e_ta_b]
  by_cases h_A2 : g = A2
  · subst h_A2
    simp [fu, d_A1_A2, e_A1_A2, d_ta_A2, e_ta_A2, d_A2_u, e_A2_u, d_A2_B3, e_A2_B3, d_A2_C3, e_A2_C3, d_A2_A0, e_A2_A0, d_A2_B2, e_A2_B2, d_A2_b, e_A2_b]
  by_cases h_u : g = u
  · subst h_u
    simp [fu, d_A1_u, e_A1_u, d_ta_u, e_ta_u, d_A2_u, e_A2_u, d_u_B3, e_u_B3, d_u_C3, e_u_C3, d_u_A0, e_u_A0, d_u_B2, e_u_B2, d_u_b, e_u_b]
  by_cases h_B3 : g = B3
  · subst h_B3
    simp [fu, d_A1_B3, e_A1_B3, d_ta_B3, e_ta_B3, d_A2_B3, e_A2_B3, d_u_B3, e_u_B3, d_B3_C3, e_B3_C3, d_B3_A0, e_B3_A0, d_B3_B2, e_B3_B2, d_B3_b, e_B3_b]
  by_cases h_C3 : g = C3
  · subst h_C3
    simp [fu, d_A1_C3, e_A1_C3, d_ta_C3, e_ta_C3, d_A2_C3, e_A2_C3, d_u_C3, e_u_C3, d_B3_C3, e_B3_C3, d_C3_A0, e_C3_A0, d_C3_B2, e_C3_B2, d_C3_b, e_C3_b]
  by_cases h_A0 : g = A0
  · subst h_A0
    simp [fu, d_A1_A0, e_A1_A0, d_ta_A0, e_ta_A0, d_A2_A0, e_A2_A0, d_u_A0, e_u_A0, d_B3_A0, e_B3_A0, d_C3_A0, e_C3_A0, d_A0_B2, e_A0_B2, d_A0_b, e_A0_b]
  by_cases h_B2 : g = B2
  · subst h_B2
    simp [fu, d_A1_B2, e_A1_B2, d_ta_B2, e_ta_B2, d_A2_B2, e_A2_B2, d_u_B2, e_u_B2, d_B3_B2, e_B3_B2, d_C3_B2, e_C3_B2, d_A0_B2, e_A0_B2, d_B2_b, e_B2_b]
  by_cases h_b : g = b
  · subst h_b
    simp [fu, d_A1_b, e_A1_b, d_ta_b, e_ta_b, d_A2_b, e_A2_b, d_u_b, e_u_b, d_B3_b, e_B3_b, d_C3_b, e_C3_b, d_A0_b, e_A0_b, d_B2_b, e_B2_b]
  simp [fu, h_A1, h_ta, h_A2, h_u, h_B3, h_C3, h_A0, h_B2, h_b]
