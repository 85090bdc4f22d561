/-! ===== the words behind the tables ===== -/
def mm_tb : List Cond := lw_tbl.filter goodWord
theorem mm_mem {i : Nat} {w : Cond} (h : lw_tbl[i]? = some w) (g : goodWord w = true) : w ∈ mm_tb := List.mem_filter.mpr ⟨List.mem_of_getElem? h, g⟩
def mm_has (i : Nat) (w : Cond) : Bool := decide (lw_tbl[i]? = some w) && goodWord w
theorem mm_of {i : Nat} {w : Cond} (h : mm_has i w = true) : w ∈ mm_tb := by
  unfold mm_has at h
  rw [Bool.and_eq_true, decide_eq_true_eq] at h
  exact mm_mem h.1 h.2
theorem mm_t1 {w : Cond} (h : w ∈ tables_1) (g : goodWord w = true) : w ∈ mm_tb := List.mem_filter.mpr ⟨List.mem_append_right _ h, g⟩
theorem mm_lk_mem {α : Type} : ∀ {l : List (Nat × α)} {i : Nat} {x : α}, mm_lk l i = some x → (i, x) ∈ l
  | [], _, _, h => by cases h
  | e :: r, i, x, h => by
    unfold mm_lk at h
    by_cases q : e.1 = i
    · rw [if_pos q] at h
      cases h
      subst q
      exact List.mem_cons_self
    · rw [if_neg q] at h
      exact List.mem_cons_of_mem _ (mm_lk_mem h)
/-- a method's own words -/
def mm_YK (z : mm_Y) : Prop := Cond.code (yy z) (yc z) (yl z) (yt z) ∈ mm_tb ∧ Cond.initialized (yy z).cls ∈ mm_tb ∧ ((yy z).cls = mm_cn (yo z) ∧ plainFor (yy z) = true ∧ (yy z).cls ≠ "java/lang/invoke/MethodHandle" ∧ (yy z).cls ≠ "java/lang/invoke/VarHandle" ∧ yl z ≤ 13 ∧ (yt z = none ∨ yt z = some .int ∨ yt z = some .boolean))
theorem mm_ykc {z : mm_Y} {C : String} (hi : Cond.initialized C ∈ mm_tb) (hp : C ≠ "java/lang/invoke/MethodHandle" ∧ C ≠ "java/lang/invoke/VarHandle") (hpl : plainFor (yy z) = true) (hc : Cond.code (yy z) (yc z) (yl z) (yt z) ∈ mm_tb) (h1 : (yy z).cls = C) (h2 : mm_cn (yo z) = C) (h3 : yl z ≤ 13) (h4 : yt z = none ∨ yt z = some .int ∨ yt z = some .boolean) : mm_YK z := ⟨hc, by rw [h1]; exact hi, by rw [h1, h2], hpl, by rw [h1]; exact hp.1, by rw [h1]; exact hp.2, h3, h4⟩
/-- a link's words -/
def mm_LK (o idx : Nat) (b : Bool) (z : mm_Y) : Prop := mm_YK z ∧ Cond.methodLink (mm_cn o) idx (yy z) ∈ mm_tb ∧ (if b = true then Cond.instanceMethod (yy z) ∈ mm_tb ∧ Cond.selects (yy z).cls (yy z) (yy z) ∈ mm_tb ∧ (∃ q, vwCl[yo z]? = some q ∧ q.1 = (yy z).cls) ∧ (parseMethodDescriptor (yy z).desc).map (fun d => d.parameters.length + 1) = some (yn z) else Cond.static (yy z) ∈ mm_tb ∧ (parseMethodDescriptor (yy z).desc).map (fun d => d.parameters.length) = some (yn z))
theorem mm_lkv {o idx : Nat} {z : mm_Y} (hz : mm_YK z) (h1 : Cond.methodLink (mm_cn o) idx (yy z) ∈ mm_tb) (h2 : Cond.instanceMethod (yy z) ∈ mm_tb) (h3 : Cond.selects (yy z).cls (yy z) (yy z) ∈ mm_tb) (h4 : ∃ q, vwCl[yo z]? = some q ∧ q.1 = (yy z).cls) (h5 : (parseMethodDescriptor (yy z).desc).map (fun d => d.parameters.length + 1) = some (yn z)) : mm_LK o idx true z := ⟨hz, h1, by rw [if_pos rfl]; exact ⟨h2, h3, h4, h5⟩⟩
theorem mm_lks {o idx : Nat} {z : mm_Y} (hz : mm_YK z) (h1 : Cond.methodLink (mm_cn o) idx (yy z) ∈ mm_tb) (h2 : Cond.static (yy z) ∈ mm_tb) (h5 : (parseMethodDescriptor (yy z).desc).map (fun d => d.parameters.length) = some (yn z)) : mm_LK o idx false z := ⟨hz, h1, by rw [if_neg (by decide)]; exact ⟨h2, h5⟩⟩
theorem mm_tq1 {w : Cond} (h : w ∈ tables_1_1) : w ∈ tables_1 := List.mem_append_left _ h
theorem mm_tq2 {w : Cond} (h : w ∈ tables_1_2) : w ∈ tables_1 := List.mem_append_right _ (List.mem_append_left _ h)
theorem mm_tq3 {w : Cond} (h : w ∈ tables_1_3) : w ∈ tables_1 := List.mem_append_right _ (List.mem_append_right _ (List.mem_append_left _ h))
theorem mm_tq4 {w : Cond} (h : w ∈ tables_1_4) : w ∈ tables_1 := List.mem_append_right _ (List.mem_append_right _ (List.mem_append_right _ (List.mem_append_left _ h)))
theorem mm_tq5 {w : Cond} (h : w ∈ tables_1_5) : w ∈ tables_1 := List.mem_append_right _ (List.mem_append_right _ (List.mem_append_right _ (List.mem_append_right _ (List.mem_append_left _ h))))
theorem mm_tq6 {w : Cond} (h : w ∈ tables_1_6) : w ∈ tables_1 := List.mem_append_right _ (List.mem_append_right _ (List.mem_append_right _ (List.mem_append_right _ (List.mem_append_right _ (List.mem_append_left _ h)))))
theorem mm_tq7 {w : Cond} (h : w ∈ tables_1_7) : w ∈ tables_1 := List.mem_append_right _ (List.mem_append_right _ (List.mem_append_right _ (List.mem_append_right _ (List.mem_append_right _ (List.mem_append_right _ (h))))))
theorem ic0 : Cond.initialized RX0 ∈ mm_tb := (mm_t1 (mm_tq1 (List.mem_of_getElem? (i := 4) rfl)) rfl)
theorem ne0 : RX0 ≠ "java/lang/invoke/MethodHandle" ∧ RX0 ≠ "java/lang/invoke/VarHandle" := by decide +kernel
theorem pl0 {y : MethodName} (h : y.cls = RX0) : plainFor y = true := plainFor_of_name (by rw [h]; decide +kernel)
theorem ic1 : Cond.initialized RX1 ∈ mm_tb := (mm_t1 (mm_tq1 (List.mem_of_getElem? (i := 2) rfl)) rfl)
theorem ne1 : RX1 ≠ "java/lang/invoke/MethodHandle" ∧ RX1 ≠ "java/lang/invoke/VarHandle" := by decide +kernel
theorem pl1 {y : MethodName} (h : y.cls = RX1) : plainFor y = true := plainFor_of_name (by rw [h]; decide +kernel)
theorem ic2 : Cond.initialized RX2 ∈ mm_tb := (mm_t1 (mm_tq1 (List.mem_of_getElem? (i := 3) rfl)) rfl)
theorem ne2 : RX2 ≠ "java/lang/invoke/MethodHandle" ∧ RX2 ≠ "java/lang/invoke/VarHandle" := by decide +kernel
theorem pl2 {y : MethodName} (h : y.cls = RX2) : plainFor y = true := plainFor_of_name (by rw [h]; decide +kernel)
theorem ic3 : Cond.initialized RX3 ∈ mm_tb := (mm_t1 (mm_tq1 (List.mem_of_getElem? (i := 5) rfl)) rfl)
theorem ne3 : RX3 ≠ "java/lang/invoke/MethodHandle" ∧ RX3 ≠ "java/lang/invoke/VarHandle" := by decide +kernel
theorem pl3 {y : MethodName} (h : y.cls = RX3) : plainFor y = true := plainFor_of_name (by rw [h]; decide +kernel)
theorem ic4 : Cond.initialized RX4 ∈ mm_tb := (mm_t1 (mm_tq1 (List.mem_of_getElem? (i := 6) rfl)) rfl)
theorem ne4 : RX4 ≠ "java/lang/invoke/MethodHandle" ∧ RX4 ≠ "java/lang/invoke/VarHandle" := by decide +kernel
theorem pl4 {y : MethodName} (h : y.cls = RX4) : plainFor y = true := plainFor_of_name (by rw [h]; decide +kernel)
theorem ic5 : Cond.initialized RX5 ∈ mm_tb := (mm_t1 (mm_tq1 (List.mem_of_getElem? (i := 1) rfl)) rfl)
theorem ne5 : RX5 ≠ "java/lang/invoke/MethodHandle" ∧ RX5 ≠ "java/lang/invoke/VarHandle" := by decide +kernel
theorem pl5 {y : MethodName} (h : y.cls = RX5) : plainFor y = true := plainFor_of_name (by rw [h]; decide +kernel)
theorem ic6 : Cond.initialized RX6 ∈ mm_tb := (mm_t1 (mm_tq1 (List.mem_of_getElem? (i := 8) rfl)) rfl)
theorem ne6 : RX6 ≠ "java/lang/invoke/MethodHandle" ∧ RX6 ≠ "java/lang/invoke/VarHandle" := by decide +kernel
theorem pl6 {y : MethodName} (h : y.cls = RX6) : plainFor y = true := plainFor_of_name (by rw [h]; decide +kernel)
theorem ic7 : Cond.initialized RJ9 ∈ mm_tb := (mm_t1 (mm_tq1 (List.mem_of_getElem? (i := 7) rfl)) rfl)
theorem ne7 : RJ9 ≠ "java/lang/invoke/MethodHandle" ∧ RJ9 ≠ "java/lang/invoke/VarHandle" := by decide +kernel
theorem pdm0 : (parseMethodDescriptor "()I").map (fun d => d.parameters.length + 1) = some 1 := by decide +kernel
theorem pdm1 : (parseMethodDescriptor "()V").map (fun d => d.parameters.length + 1) = some 1 := by decide +kernel
theorem pdm2 : (parseMethodDescriptor "()Z").map (fun d => d.parameters.length + 1) = some 1 := by decide +kernel
theorem pdm3 : (parseMethodDescriptor "(I)I").map (fun d => d.parameters.length) = some 1 := by decide +kernel
theorem pdm4 : (parseMethodDescriptor "(I)I").map (fun d => d.parameters.length + 1) = some 2 := by decide +kernel
theorem pdm5 : (parseMethodDescriptor "(I)V").map (fun d => d.parameters.length + 1) = some 2 := by decide +kernel
theorem pdm6 : (parseMethodDescriptor "(I)Z").map (fun d => d.parameters.length) = some 1 := by decide +kernel
theorem pdm7 : (parseMethodDescriptor "(I)Z").map (fun d => d.parameters.length + 1) = some 2 := by decide +kernel
theorem pdm8 : (parseMethodDescriptor "(II)I").map (fun d => d.parameters.length) = some 2 := by decide +kernel
theorem pdm9 : (parseMethodDescriptor "(II)I").map (fun d => d.parameters.length + 1) = some 3 := by decide +kernel
theorem pdm10 : (parseMethodDescriptor "(II)V").map (fun d => d.parameters.length + 1) = some 3 := by decide +kernel
theorem pdm11 : (parseMethodDescriptor "(II)Z").map (fun d => d.parameters.length + 1) = some 3 := by decide +kernel
theorem pdm12 : (parseMethodDescriptor "(III)I").map (fun d => d.parameters.length) = some 3 := by decide +kernel
theorem pdm13 : (parseMethodDescriptor "(III)I").map (fun d => d.parameters.length + 1) = some 4 := by decide +kernel
theorem pdm14 : (parseMethodDescriptor "(III)V").map (fun d => d.parameters.length + 1) = some 4 := by decide +kernel
theorem pdm15 : (parseMethodDescriptor "(III)Z").map (fun d => d.parameters.length) = some 3 := by decide +kernel
theorem pdm16 : (parseMethodDescriptor "(III)Z").map (fun d => d.parameters.length + 1) = some 4 := by decide +kernel
theorem pdm17 : (parseMethodDescriptor "(IIII)I").map (fun d => d.parameters.length + 1) = some 5 := by decide +kernel
theorem pdm18 : (parseMethodDescriptor "(IIII)V").map (fun d => d.parameters.length + 1) = some 5 := by decide +kernel
theorem pdm19 : (parseMethodDescriptor "(IIII)Z").map (fun d => d.parameters.length) = some 4 := by decide +kernel
theorem pdm20 : (parseMethodDescriptor "(IIIII)I").map (fun d => d.parameters.length) = some 5 := by decide +kernel
theorem pdm21 : (parseMethodDescriptor "(IIIIIII)I").map (fun d => d.parameters.length) = some 7 := by decide +kernel
theorem pdm22 : (parseMethodDescriptor "(LFoamCells$Diary;)V").map (fun d => d.parameters.length + 1) = some 2 := by decide +kernel
theorem pdm23 : (parseMethodDescriptor "(LFoamCells$Foam;)I").map (fun d => d.parameters.length + 1) = some 2 := by decide +kernel
theorem pdm24 : (parseMethodDescriptor "(LFoamCells$Foam;)V").map (fun d => d.parameters.length + 1) = some 2 := by decide +kernel
theorem pdm25 : (parseMethodDescriptor "(LFoamCells$Foam;I)I").map (fun d => d.parameters.length + 1) = some 3 := by decide +kernel
theorem pdm26 : (parseMethodDescriptor "(LFoamCells$Foam;I)V").map (fun d => d.parameters.length + 1) = some 3 := by decide +kernel
theorem pdm27 : (parseMethodDescriptor "(LFoamCells$Foam;II)I").map (fun d => d.parameters.length + 1) = some 4 := by decide +kernel
theorem pdm28 : (parseMethodDescriptor "(LFoamCells$Foam;IIII)I").map (fun d => d.parameters.length + 1) = some 6 := by decide +kernel
theorem pdm29 : (parseMethodDescriptor "(LFoamCells$Mesh;)I").map (fun d => d.parameters.length) = some 1 := by decide +kernel
theorem pdm30 : (parseMethodDescriptor "(LFoamCells$Mesh;)V").map (fun d => d.parameters.length + 1) = some 2 := by decide +kernel
theorem pdm31 : (parseMethodDescriptor "(LFoamCells$Mesh;)Z").map (fun d => d.parameters.length + 1) = some 2 := by decide +kernel
theorem pdm32 : (parseMethodDescriptor "(LFoamCells$Mesh;I)I").map (fun d => d.parameters.length + 1) = some 3 := by decide +kernel
theorem pdm33 : (parseMethodDescriptor "(LFoamCells$Mesh;I)V").map (fun d => d.parameters.length + 1) = some 3 := by decide +kernel
theorem pdm34 : (parseMethodDescriptor "(LFoamCells$Mesh;II)I").map (fun d => d.parameters.length) = some 3 := by decide +kernel
theorem pdm35 : (parseMethodDescriptor "(LFoamCells$Mesh;II)I").map (fun d => d.parameters.length + 1) = some 4 := by decide +kernel
theorem pdm36 : (parseMethodDescriptor "(LFoamCells$Mesh;II)V").map (fun d => d.parameters.length + 1) = some 4 := by decide +kernel
theorem pdm37 : (parseMethodDescriptor "(Z)I").map (fun d => d.parameters.length + 1) = some 2 := by decide +kernel
theorem pdm38 : (parseMethodDescriptor "([II[II)V").map (fun d => d.parameters.length) = some 4 := by decide +kernel
theorem okX0_clear : mm_YK zX0_clear := mm_ykc ic0 ne0 (pl0 rfl) (mm_t1 (mm_tq1 (List.mem_of_getElem? (i := 207) rfl)) rfl) rfl rfl (by decide) (Or.inl rfl)
theorem okX0_copyOf : mm_YK zX0_copyOf := mm_ykc ic0 ne0 (pl0 rfl) (mm_t1 (mm_tq3 (List.mem_of_getElem? (i := 25) rfl)) rfl) rfl rfl (by decide) (Or.inl rfl)
theorem okX0_write : mm_YK zX0_write := mm_ykc ic0 ne0 (pl0 rfl) (mm_t1 (mm_tq2 (List.mem_of_getElem? (i := 76) rfl)) rfl) rfl rfl (by decide) (Or.inl rfl)
theorem okX0_read : mm_YK zX0_read := mm_ykc ic0 ne0 (pl0 rfl) (mm_t1 (mm_tq4 (List.mem_of_getElem? (i := 99) rfl)) rfl) rfl rfl (by decide) (Or.inr (Or.inl rfl))
theorem okX1_begin : mm_YK zX1_begin := mm_ykc ic1 ne1 (pl1 rfl) (mm_t1 (mm_tq1 (List.mem_of_getElem? (i := 203) rfl)) rfl) rfl rfl (by decide) (Or.inl rfl)
theorem okX1_copyOf : mm_YK zX1_copyOf := mm_ykc ic1 ne1 (pl1 rfl) (mm_t1 (mm_tq3 (List.mem_of_getElem? (i := 14) rfl)) rfl) rfl rfl (by decide) (Or.inl rfl)
theorem okX1_refuse : mm_YK zX1_refuse := mm_ykc ic1 ne1 (pl1 rfl) (mm_t1 (mm_tq2 (List.mem_of_getElem? (i := 17) rfl)) rfl) rfl rfl (by decide) (Or.inr (Or.inl rfl))
theorem okX1_flipWall : mm_YK zX1_flipWall := mm_ykc ic1 ne1 (pl1 rfl) (mm_t1 (mm_tq2 (List.mem_of_getElem? (i := 60) rfl)) rfl) rfl rfl (by decide) (Or.inl rfl)
theorem okX1_shrinkCell : mm_YK zX1_shrinkCell := mm_ykc ic1 ne1 (pl1 rfl) (mm_t1 (mm_tq2 (List.mem_of_getElem? (i := 96) rfl)) rfl) rfl rfl (by decide) (Or.inr (Or.inl rfl))
theorem okX1_splitCell : mm_YK zX1_splitCell := mm_ykc ic1 ne1 (pl1 rfl) (mm_t1 (mm_tq2 (List.mem_of_getElem? (i := 128) rfl)) rfl) rfl rfl (by decide) (Or.inr (Or.inl rfl))
theorem okX1_joinAcross : mm_YK zX1_joinAcross := mm_ykc ic1 ne1 (pl1 rfl) (mm_t1 (mm_tq2 (List.mem_of_getElem? (i := 175) rfl)) rfl) rfl rfl (by decide) (Or.inr (Or.inl rfl))
theorem okX1_goOn : mm_YK zX1_goOn := mm_ykc ic1 ne1 (pl1 rfl) (mm_t1 (mm_tq2 (List.mem_of_getElem? (i := 208) rfl)) rfl) rfl rfl (by decide) (Or.inl rfl)
theorem okX1_giveWay : mm_YK zX1_giveWay := mm_ykc ic1 ne1 (pl1 rfl) (mm_t1 (mm_tq2 (List.mem_of_getElem? (i := 225) rfl)) rfl) rfl rfl (by decide) (Or.inl rfl)
theorem okX1_calm : mm_YK zX1_calm := mm_ykc ic1 ne1 (pl1 rfl) (mm_t1 (mm_tq3 (List.mem_of_getElem? (i := 0) rfl)) rfl) rfl rfl (by decide) (Or.inr (Or.inl rfl))
theorem okX1_jolt : mm_YK zX1_jolt := mm_ykc ic1 ne1 (pl1 rfl) (mm_t1 (mm_tq2 (List.mem_of_getElem? (i := 195) rfl)) rfl) rfl rfl (by decide) (Or.inr (Or.inl rfl))
theorem okX2_copyOf : mm_YK zX2_copyOf := mm_ykc ic2 ne2 (pl2 rfl) (mm_t1 (mm_tq3 (List.mem_of_getElem? (i := 18) rfl)) rfl) rfl rfl (by decide) (Or.inl rfl)
theorem okX2_layRing : mm_YK zX2_layRing := mm_ykc ic2 ne2 (pl2 rfl) (mm_t1 (mm_tq1 (List.mem_of_getElem? (i := 211) rfl)) rfl) rfl rfl (by decide) (Or.inl rfl)
theorem okX2_layCell : mm_YK zX2_layCell := mm_ykc ic2 ne2 (pl2 rfl) (mm_t1 (mm_tq1 (List.mem_of_getElem? (i := 215) rfl)) rfl) rfl rfl (by decide) (Or.inl rfl)
theorem okX2_halfOnRing : mm_YK zX2_halfOnRing := mm_ykc ic2 ne2 (pl2 rfl) (mm_t1 (mm_tq1 (List.mem_of_getElem? (i := 218) rfl)) rfl) rfl rfl (by decide) (Or.inr (Or.inl rfl))
theorem okX2_over : mm_YK zX2_over := mm_ykc ic2 ne2 (pl2 rfl) (mm_t1 (mm_tq1 (List.mem_of_getElem? (i := 232) rfl)) rfl) rfl rfl (by decide) (Or.inr (Or.inl rfl))
theorem okX2_link : mm_YK zX2_link := mm_ykc ic2 ne2 (pl2 rfl) (mm_t1 (mm_tq1 (List.mem_of_getElem? (i := 229) rfl)) rfl) rfl rfl (by decide) (Or.inl rfl)
theorem okX2_unlink : mm_YK zX2_unlink := mm_ykc ic2 ne2 (pl2 rfl) (mm_t1 (mm_tq2 (List.mem_of_getElem? (i := 68) rfl)) rfl) rfl rfl (by decide) (Or.inl rfl)
theorem okX2_setRound : mm_YK zX2_setRound := mm_ykc ic2 ne2 (pl2 rfl) (mm_t1 (mm_tq1 (List.mem_of_getElem? (i := 236) rfl)) rfl) rfl rfl (by decide) (Or.inl rfl)
theorem okX2_hasCell : mm_YK zX2_hasCell := mm_ykc ic2 ne2 (pl2 rfl) (mm_t1 (mm_tq2 (List.mem_of_getElem? (i := 29) rfl)) rfl) rfl rfl (by decide) (Or.inr (Or.inr rfl))
theorem okX2_hasWall : mm_YK zX2_hasWall := mm_ykc ic2 ne2 (pl2 rfl) (mm_t1 (mm_tq2 (List.mem_of_getElem? (i := 37) rfl)) rfl) rfl rfl (by decide) (Or.inr (Or.inr rfl))
theorem okX2_across : mm_YK zX2_across := mm_ykc ic2 ne2 (pl2 rfl) (mm_t1 (mm_tq2 (List.mem_of_getElem? (i := 92) rfl)) rfl) rfl rfl (by decide) (Or.inr (Or.inl rfl))
theorem okX2_endOf : mm_YK zX2_endOf := mm_ykc ic2 ne2 (pl2 rfl) (mm_t1 (mm_tq2 (List.mem_of_getElem? (i := 49) rfl)) rfl) rfl rfl (by decide) (Or.inr (Or.inl rfl))
theorem okX2_firstHalf : mm_YK zX2_firstHalf := mm_ykc ic2 ne2 (pl2 rfl) (mm_t1 (mm_tq2 (List.mem_of_getElem? (i := 88) rfl)) rfl) rfl rfl (by decide) (Or.inr (Or.inl rfl))
theorem okX2_halfAt : mm_YK zX2_halfAt := mm_ykc ic2 ne2 (pl2 rfl) (mm_t1 (mm_tq2 (List.mem_of_getElem? (i := 124) rfl)) rfl) rfl rfl (by decide) (Or.inr (Or.inl rfl))
theorem okX2_canFlip : mm_YK zX2_canFlip := mm_ykc ic2 ne2 (pl2 rfl) (mm_t1 (mm_tq2 (List.mem_of_getElem? (i := 45) rfl)) rfl) rfl rfl (by decide) (Or.inr (Or.inr rfl))
theorem okX2_areFour : mm_YK zX2_areFour := mm_ykc ic2 ne2 (pl2 rfl) (mm_t1 (mm_tq2 (List.mem_of_getElem? (i := 52) rfl)) rfl) rfl rfl (by decide) (Or.inr (Or.inr rfl))
theorem okX2_easing : mm_YK zX2_easing := mm_ykc ic2 ne2 (pl2 rfl) (mm_t1 (mm_tq2 (List.mem_of_getElem? (i := 56) rfl)) rfl) rfl rfl (by decide) (Or.inr (Or.inl rfl))
theorem okX2_flip : mm_YK zX2_flip := mm_ykc ic2 ne2 (pl2 rfl) (mm_t1 (mm_tq2 (List.mem_of_getElem? (i := 64) rfl)) rfl) rfl rfl (by decide) (Or.inl rfl)
theorem okX2_insert : mm_YK zX2_insert := mm_ykc ic2 ne2 (pl2 rfl) (mm_t1 (mm_tq2 (List.mem_of_getElem? (i := 72) rfl)) rfl) rfl rfl (by decide) (Or.inl rfl)
theorem okX2_easiestWall : mm_YK zX2_easiestWall := mm_ykc ic2 ne2 (pl2 rfl) (mm_t1 (mm_tq3 (List.mem_of_getElem? (i := 5) rfl)) rfl) rfl rfl (by decide) (Or.inr (Or.inl rfl))
theorem okX2_flippable : mm_YK zX2_flippable := mm_ykc ic2 ne2 (pl2 rfl) (mm_t1 (mm_tq3 (List.mem_of_getElem? (i := 212) rfl)) rfl) rfl rfl (by decide) (Or.inr (Or.inl rfl))
theorem okX2_shortestSide : mm_YK zX2_shortestSide := mm_ykc ic2 ne2 (pl2 rfl) (mm_t1 (mm_tq2 (List.mem_of_getElem? (i := 229) rfl)) rfl) rfl rfl (by decide) (Or.inr (Or.inl rfl))
theorem okX2_canShrink : mm_YK zX2_canShrink := mm_ykc ic2 ne2 (pl2 rfl) (mm_t1 (mm_tq2 (List.mem_of_getElem? (i := 84) rfl)) rfl) rfl rfl (by decide) (Or.inr (Or.inr rfl))
theorem okX2_shrink : mm_YK zX2_shrink := mm_ykc ic2 ne2 (pl2 rfl) (mm_t1 (mm_tq2 (List.mem_of_getElem? (i := 100) rfl)) rfl) rfl rfl (by decide) (Or.inr (Or.inl rfl))
theorem okX2_greater : mm_YK zX2_greater := mm_ykc ic2 ne2 (pl2 rfl) (mm_t1 (mm_tq2 (List.mem_of_getElem? (i := 105) rfl)) rfl) rfl rfl (by decide) (Or.inr (Or.inl rfl))
theorem okX2_dropWall : mm_YK zX2_dropWall := mm_ykc ic2 ne2 (pl2 rfl) (mm_t1 (mm_tq2 (List.mem_of_getElem? (i := 112) rfl)) rfl) rfl rfl (by decide) (Or.inl rfl)
theorem okX2_dropCell : mm_YK zX2_dropCell := mm_ykc ic2 ne2 (pl2 rfl) (mm_t1 (mm_tq2 (List.mem_of_getElem? (i := 116) rfl)) rfl) rfl rfl (by decide) (Or.inl rfl)
theorem okX2_split : mm_YK zX2_split := mm_ykc ic2 ne2 (pl2 rfl) (mm_t1 (mm_tq2 (List.mem_of_getElem? (i := 132) rfl)) rfl) rfl rfl (by decide) (Or.inr (Or.inl rfl))
theorem okX2_handOver : mm_YK zX2_handOver := mm_ykc ic2 ne2 (pl2 rfl) (mm_t1 (mm_tq2 (List.mem_of_getElem? (i := 144) rfl)) rfl) rfl rfl (by decide) (Or.inr (Or.inl rfl))
theorem okX2_halve : mm_YK zX2_halve := mm_ykc ic2 ne2 (pl2 rfl) (mm_t1 (mm_tq2 (List.mem_of_getElem? (i := 148) rfl)) rfl) rfl rfl (by decide) (Or.inr (Or.inl rfl))
theorem okX2_addWall : mm_YK zX2_addWall := mm_ykc ic2 ne2 (pl2 rfl) (mm_t1 (mm_tq2 (List.mem_of_getElem? (i := 152) rfl)) rfl) rfl rfl (by decide) (Or.inr (Or.inl rfl))
theorem okX2_freeCell : mm_YK zX2_freeCell := mm_ykc ic2 ne2 (pl2 rfl) (mm_t1 (mm_tq2 (List.mem_of_getElem? (i := 136) rfl)) rfl) rfl rfl (by decide) (Or.inr (Or.inl rfl))
theorem okX2_canJoin : mm_YK zX2_canJoin := mm_ykc ic2 ne2 (pl2 rfl) (mm_t1 (mm_tq2 (List.mem_of_getElem? (i := 163) rfl)) rfl) rfl rfl (by decide) (Or.inr (Or.inr rfl))
theorem okX2_join : mm_YK zX2_join := mm_ykc ic2 ne2 (pl2 rfl) (mm_t1 (mm_tq2 (List.mem_of_getElem? (i := 179) rfl)) rfl) rfl rfl (by decide) (Or.inr (Or.inl rfl))
theorem okX2_makeOne : mm_YK zX2_makeOne := mm_ykc ic2 ne2 (pl2 rfl) (mm_t1 (mm_tq2 (List.mem_of_getElem? (i := 183) rfl)) rfl) rfl rfl (by decide) (Or.inl rfl)
theorem okX2_wallsBetween : mm_YK zX2_wallsBetween := mm_ykc ic2 ne2 (pl2 rfl) (mm_t1 (mm_tq2 (List.mem_of_getElem? (i := 167) rfl)) rfl) rfl rfl (by decide) (Or.inr (Or.inl rfl))
theorem okX2_leastBetween : mm_YK zX2_leastBetween := mm_ykc ic2 ne2 (pl2 rfl) (mm_t1 (mm_tq3 (List.mem_of_getElem? (i := 51) rfl)) rfl) rfl rfl (by decide) (Or.inr (Or.inl rfl))
theorem okX2_liesBetween : mm_YK zX2_liesBetween := mm_ykc ic2 ne2 (pl2 rfl) (mm_t1 (mm_tq2 (List.mem_of_getElem? (i := 171) rfl)) rfl) rfl rfl (by decide) (Or.inr (Or.inr rfl))
theorem okX2_border : mm_YK zX2_border := mm_ykc ic2 ne2 (pl2 rfl) (mm_t1 (mm_tq4 (List.mem_of_getElem? (i := 183) rfl)) rfl) rfl rfl (by decide) (Or.inr (Or.inl rfl))
theorem okX2_sidesAbout : mm_YK zX2_sidesAbout := mm_ykc ic2 ne2 (pl2 rfl) (mm_t1 (mm_tq4 (List.mem_of_getElem? (i := 187) rfl)) rfl) rfl rfl (by decide) (Or.inr (Or.inl rfl))
theorem okX2_unlikeAbout : mm_YK zX2_unlikeAbout := mm_ykc ic2 ne2 (pl2 rfl) (mm_t1 (mm_tq4 (List.mem_of_getElem? (i := 191) rfl)) rfl) rfl rfl (by decide) (Or.inr (Or.inl rfl))
theorem okX2_howMany : mm_YK zX2_howMany := mm_ykc ic2 ne2 (pl2 rfl) (mm_t1 (mm_tq3 (List.mem_of_getElem? (i := 110) rfl)) rfl) rfl rfl (by decide) (Or.inr (Or.inl rfl))
theorem okX2_areaOfAll : mm_YK zX2_areaOfAll := mm_ykc ic2 ne2 (pl2 rfl) (mm_t1 (mm_tq3 (List.mem_of_getElem? (i := 125) rfl)) rfl) rfl rfl (by decide) (Or.inr (Or.inl rfl))
theorem okX2_sidesAboutAll : mm_YK zX2_sidesAboutAll := mm_ykc ic2 ne2 (pl2 rfl) (mm_t1 (mm_tq3 (List.mem_of_getElem? (i := 114) rfl)) rfl) rfl rfl (by decide) (Or.inr (Or.inl rfl))
theorem okX2_rankOf : mm_YK zX2_rankOf := mm_ykc ic2 ne2 (pl2 rfl) (mm_t1 (mm_tq3 (List.mem_of_getElem? (i := 138) rfl)) rfl) rfl rfl (by decide) (Or.inr (Or.inl rfl))
theorem okX2_howManyCells : mm_YK zX2_howManyCells := mm_ykc ic2 ne2 (pl2 rfl) (mm_t1 (mm_tq4 (List.mem_of_getElem? (i := 47) rfl)) rfl) rfl rfl (by decide) (Or.inr (Or.inl rfl))
theorem okX2_howManyWalls : mm_YK zX2_howManyWalls := mm_ykc ic2 ne2 (pl2 rfl) (mm_t1 (mm_tq2 (List.mem_of_getElem? (i := 140) rfl)) rfl) rfl rfl (by decide) (Or.inr (Or.inl rfl))
theorem okX2_strain : mm_YK zX2_strain := mm_ykc ic2 ne2 (pl2 rfl) (mm_t1 (mm_tq3 (List.mem_of_getElem? (i := 185) rfl)) rfl) rfl rfl (by decide) (Or.inr (Or.inl rfl))
theorem okX2_turns : mm_YK zX2_turns := mm_ykc ic2 ne2 (pl2 rfl) (mm_t1 (mm_tq3 (List.mem_of_getElem? (i := 189) rfl)) rfl) rfl rfl (by decide) (Or.inr (Or.inl rfl))
theorem okX2_sumOfAreas : mm_YK zX2_sumOfAreas := mm_ykc ic2 ne2 (pl2 rfl) (mm_t1 (mm_tq3 (List.mem_of_getElem? (i := 193) rfl)) rfl) rfl rfl (by decide) (Or.inr (Or.inl rfl))
theorem okX2_greatestArea : mm_YK zX2_greatestArea := mm_ykc ic2 ne2 (pl2 rfl) (mm_t1 (mm_tq3 (List.mem_of_getElem? (i := 197) rfl)) rfl) rfl rfl (by decide) (Or.inr (Or.inl rfl))
theorem okX2_leastArea : mm_YK zX2_leastArea := mm_ykc ic2 ne2 (pl2 rfl) (mm_t1 (mm_tq3 (List.mem_of_getElem? (i := 202) rfl)) rfl) rfl rfl (by decide) (Or.inr (Or.inl rfl))
theorem okX2_sumOfLengths : mm_YK zX2_sumOfLengths := mm_ykc ic2 ne2 (pl2 rfl) (mm_t1 (mm_tq3 (List.mem_of_getElem? (i := 207) rfl)) rfl) rfl rfl (by decide) (Or.inr (Or.inl rfl))
theorem okX2_mostSides : mm_YK zX2_mostSides := mm_ykc ic2 ne2 (pl2 rfl) (mm_t1 (mm_tq3 (List.mem_of_getElem? (i := 216) rfl)) rfl) rfl rfl (by decide) (Or.inr (Or.inl rfl))
theorem okX2_fewestSides : mm_YK zX2_fewestSides := mm_ykc ic2 ne2 (pl2 rfl) (mm_t1 (mm_tq3 (List.mem_of_getElem? (i := 220) rfl)) rfl) rfl rfl (by decide) (Or.inr (Or.inl rfl))
theorem okX2_hasSidesOf : mm_YK zX2_hasSidesOf := mm_ykc ic2 ne2 (pl2 rfl) (mm_t1 (mm_tq4 (List.mem_of_getElem? (i := 35) rfl)) rfl) rfl rfl (by decide) (Or.inr (Or.inr rfl))
theorem okX2_growAreas : mm_YK zX2_growAreas := mm_ykc ic2 ne2 (pl2 rfl) (mm_t1 (mm_tq2 (List.mem_of_getElem? (i := 212) rfl)) rfl) rfl rfl (by decide) (Or.inl rfl)
theorem okX2_stretchWalls : mm_YK zX2_stretchWalls := mm_ykc ic2 ne2 (pl2 rfl) (mm_t1 (mm_tq2 (List.mem_of_getElem? (i := 217) rfl)) rfl) rfl rfl (by decide) (Or.inl rfl)
theorem okX3_leastStrain : mm_YK zX3_leastStrain := mm_ykc ic3 ne3 (pl3 rfl) (mm_t1 (mm_tq3 (List.mem_of_getElem? (i := 232) rfl)) rfl) rfl rfl (by decide) (Or.inr (Or.inl rfl))
theorem okX3_mostEased : mm_YK zX3_mostEased := mm_ykc ic3 ne3 (pl3 rfl) (mm_t1 (mm_tq3 (List.mem_of_getElem? (i := 237) rfl)) rfl) rfl rfl (by decide) (Or.inr (Or.inl rfl))
theorem okX3_oneSwapTo : mm_YK zX3_oneSwapTo := mm_ykc ic3 ne3 (pl3 rfl) (mm_t1 (mm_tq4 (List.mem_of_getElem? (i := 11) rfl)) rfl) rfl rfl (by decide) (Or.inr (Or.inl rfl))
theorem okX3_twoSwapsTo : mm_YK zX3_twoSwapsTo := mm_ykc ic3 ne3 (pl3 rfl) (mm_t1 (mm_tq4 (List.mem_of_getElem? (i := 22) rfl)) rfl) rfl rfl (by decide) (Or.inr (Or.inl rfl))
theorem okX3_swapTo : mm_YK zX3_swapTo := mm_ykc ic3 ne3 (pl3 rfl) (mm_t1 (mm_tq4 (List.mem_of_getElem? (i := 14) rfl)) rfl) rfl rfl (by decide) (Or.inr (Or.inl rfl))
theorem okX3_gain : mm_YK zX3_gain := mm_ykc ic3 ne3 (pl3 rfl) (mm_t1 (mm_tq4 (List.mem_of_getElem? (i := 17) rfl)) rfl) rfl rfl (by decide) (Or.inr (Or.inl rfl))
theorem okX3_stepsToAlike : mm_YK zX3_stepsToAlike := mm_ykc ic3 ne3 (pl3 rfl) (mm_t1 (mm_tq4 (List.mem_of_getElem? (i := 30) rfl)) rfl) rfl rfl (by decide) (Or.inr (Or.inl rfl))
theorem okX3_stepsToFew : mm_YK zX3_stepsToFew := mm_ykc ic3 ne3 (pl3 rfl) (mm_t1 (mm_tq4 (List.mem_of_getElem? (i := 43) rfl)) rfl) rfl rfl (by decide) (Or.inr (Or.inl rfl))
theorem okX3_bestSeed : mm_YK zX3_bestSeed := mm_ykc ic3 ne3 (pl3 rfl) (mm_t1 (mm_tq4 (List.mem_of_getElem? (i := 55) rfl)) rfl) rfl rfl (by decide) (Or.inr (Or.inl rfl))
theorem okX3_swapsToRest : mm_YK zX3_swapsToRest := mm_ykc ic3 ne3 (pl3 rfl) (mm_t1 (mm_tq4 (List.mem_of_getElem? (i := 65) rfl)) rfl) rfl rfl (by decide) (Or.inr (Or.inl rfl))
theorem okX3_goOnFrom : mm_YK zX3_goOnFrom := mm_ykc ic3 ne3 (pl3 rfl) (mm_t1 (mm_tq4 (List.mem_of_getElem? (i := 73) rfl)) rfl) rfl rfl (by decide) (Or.inl rfl)
theorem okX3_stepsToGone : mm_YK zX3_stepsToGone := mm_ykc ic3 ne3 (pl3 rfl) (mm_t1 (mm_tq4 (List.mem_of_getElem? (i := 82) rfl)) rfl) rfl rfl (by decide) (Or.inr (Or.inl rfl))
theorem okX3_stepsToFirst : mm_YK zX3_stepsToFirst := mm_ykc ic3 ne3 (pl3 rfl) (mm_t1 (mm_tq4 (List.mem_of_getElem? (i := 91) rfl)) rfl) rfl rfl (by decide) (Or.inr (Or.inl rfl))
theorem okX4_spot : mm_YK zX4_spot := mm_ykc ic4 ne4 (pl4 rfl) (mm_t1 (mm_tq3 (List.mem_of_getElem? (i := 149) rfl)) rfl) rfl rfl (by decide) (Or.inr (Or.inl rfl))
theorem okX4_clearDistances : mm_YK zX4_clearDistances := mm_ykc ic4 ne4 (pl4 rfl) (mm_t1 (mm_tq3 (List.mem_of_getElem? (i := 63) rfl)) rfl) rfl rfl (by decide) (Or.inl rfl)
theorem okX4_spread : mm_YK zX4_spread := mm_ykc ic4 ne4 (pl4 rfl) (mm_t1 (mm_tq3 (List.mem_of_getElem? (i := 59) rfl)) rfl) rfl rfl (by decide) (Or.inl rfl)
theorem okX4_spreadWithin : mm_YK zX4_spreadWithin := mm_ykc ic4 ne4 (pl4 rfl) (mm_t1 (mm_tq3 (List.mem_of_getElem? (i := 69) rfl)) rfl) rfl rfl (by decide) (Or.inr (Or.inl rfl))
theorem okX4_howManyAt : mm_YK zX4_howManyAt := mm_ykc ic4 ne4 (pl4 rfl) (mm_t1 (mm_tq3 (List.mem_of_getElem? (i := 78) rfl)) rfl) rfl rfl (by decide) (Or.inr (Or.inl rfl))
theorem okX4_whichAt : mm_YK zX4_whichAt := mm_ykc ic4 ne4 (pl4 rfl) (mm_t1 (mm_tq3 (List.mem_of_getElem? (i := 86) rfl)) rfl) rfl rfl (by decide) (Or.inr (Or.inl rfl))
theorem okX4_comeNearer : mm_YK zX4_comeNearer := mm_ykc ic4 ne4 (pl4 rfl) (mm_t1 (mm_tq3 (List.mem_of_getElem? (i := 94) rfl)) rfl) rfl rfl (by decide) (Or.inr (Or.inl rfl))
theorem okX4_leastNearer : mm_YK zX4_leastNearer := mm_ykc ic4 ne4 (pl4 rfl) (mm_t1 (mm_tq3 (List.mem_of_getElem? (i := 98) rfl)) rfl) rfl rfl (by decide) (Or.inr (Or.inl rfl))
theorem okX4_gatherPieces : mm_YK zX4_gatherPieces := mm_ykc ic4 ne4 (pl4 rfl) (mm_t1 (mm_tq3 (List.mem_of_getElem? (i := 177) rfl)) rfl) rfl rfl (by decide) (Or.inl rfl)
theorem okX4_spreadRound : mm_YK zX4_spreadRound := mm_ykc ic4 ne4 (pl4 rfl) (mm_t1 (mm_tq3 (List.mem_of_getElem? (i := 146) rfl)) rfl) rfl rfl (by decide) (Or.inl rfl)
theorem okX4_goRound : mm_YK zX4_goRound := mm_ykc ic4 ne4 (pl4 rfl) (mm_t1 (mm_tq3 (List.mem_of_getElem? (i := 157) rfl)) rfl) rfl rfl (by decide) (Or.inl rfl)
theorem okX4_isNear : mm_YK zX4_isNear := mm_ykc ic4 ne4 (pl4 rfl) (mm_t1 (mm_tq3 (List.mem_of_getElem? (i := 160) rfl)) rfl) rfl rfl (by decide) (Or.inr (Or.inr rfl))
theorem okX4_put : mm_YK zX4_put := mm_ykc ic4 ne4 (pl4 rfl) (mm_t1 (mm_tq3 (List.mem_of_getElem? (i := 153) rfl)) rfl) rfl rfl (by decide) (Or.inl rfl)
theorem okX5_ring : mm_YK zX5_ring := mm_ykc ic5 ne5 (pl5 rfl) (mm_t1 (mm_tq2 (List.mem_of_getElem? (i := 13) rfl)) rfl) rfl rfl (by decide) (Or.inr (Or.inl rfl))
theorem okX5_rate : mm_YK zX5_rate := mm_ykc ic5 ne5 (pl5 rfl) (mm_t1 (mm_tq2 (List.mem_of_getElem? (i := 21) rfl)) rfl) rfl rfl (by decide) (Or.inr (Or.inl rfl))
theorem okX5_area : mm_YK zX5_area := mm_ykc ic5 ne5 (pl5 rfl) (mm_t1 (mm_tq2 (List.mem_of_getElem? (i := 25) rfl)) rfl) rfl rfl (by decide) (Or.inr (Or.inl rfl))
theorem okX5_length : mm_YK zX5_length := mm_ykc ic5 ne5 (pl5 rfl) (mm_t1 (mm_tq2 (List.mem_of_getElem? (i := 33) rfl)) rfl) rfl rfl (by decide) (Or.inr (Or.inl rfl))
theorem okX5_swap : mm_YK zX5_swap := mm_ykc ic5 ne5 (pl5 rfl) (mm_t1 (mm_tq2 (List.mem_of_getElem? (i := 41) rfl)) rfl) rfl rfl (by decide) (Or.inr (Or.inl rfl))
theorem okX5_vanish : mm_YK zX5_vanish := mm_ykc ic5 ne5 (pl5 rfl) (mm_t1 (mm_tq2 (List.mem_of_getElem? (i := 80) rfl)) rfl) rfl rfl (by decide) (Or.inr (Or.inl rfl))
theorem okX5_cut : mm_YK zX5_cut := mm_ykc ic5 ne5 (pl5 rfl) (mm_t1 (mm_tq2 (List.mem_of_getElem? (i := 120) rfl)) rfl) rfl rfl (by decide) (Or.inr (Or.inl rfl))
theorem okX5_burst : mm_YK zX5_burst := mm_ykc ic5 ne5 (pl5 rfl) (mm_t1 (mm_tq2 (List.mem_of_getElem? (i := 159) rfl)) rfl) rfl rfl (by decide) (Or.inr (Or.inl rfl))
theorem okX5_shake : mm_YK zX5_shake := mm_ykc ic5 ne5 (pl5 rfl) (mm_t1 (mm_tq2 (List.mem_of_getElem? (i := 187) rfl)) rfl) rfl rfl (by decide) (Or.inr (Or.inl rfl))
theorem okX5_steps : mm_YK zX5_steps := mm_ykc ic5 ne5 (pl5 rfl) (mm_t1 (mm_tq2 (List.mem_of_getElem? (i := 204) rfl)) rfl) rfl rfl (by decide) (Or.inr (Or.inl rfl))
theorem okX5_relax : mm_YK zX5_relax := mm_ykc ic5 ne5 (pl5 rfl) (mm_t1 (mm_tq2 (List.mem_of_getElem? (i := 236) rfl)) rfl) rfl rfl (by decide) (Or.inr (Or.inl rfl))
theorem okX5_wall : mm_YK zX5_wall := mm_ykc ic5 ne5 (pl5 rfl) (mm_t1 (mm_tq3 (List.mem_of_getElem? (i := 35) rfl)) rfl) rfl rfl (by decide) (Or.inr (Or.inl rfl))
theorem okX5_between : mm_YK zX5_between := mm_ykc ic5 ne5 (pl5 rfl) (mm_t1 (mm_tq3 (List.mem_of_getElem? (i := 42) rfl)) rfl) rfl rfl (by decide) (Or.inr (Or.inl rfl))
theorem okX5_far : mm_YK zX5_far := mm_ykc ic5 ne5 (pl5 rfl) (mm_t1 (mm_tq3 (List.mem_of_getElem? (i := 55) rfl)) rfl) rfl rfl (by decide) (Or.inr (Or.inl rfl))
theorem okX5_shell : mm_YK zX5_shell := mm_ykc ic5 ne5 (pl5 rfl) (mm_t1 (mm_tq3 (List.mem_of_getElem? (i := 74) rfl)) rfl) rfl rfl (by decide) (Or.inr (Or.inl rfl))
theorem okX5_shellOf : mm_YK zX5_shellOf := mm_ykc ic5 ne5 (pl5 rfl) (mm_t1 (mm_tq3 (List.mem_of_getElem? (i := 82) rfl)) rfl) rfl rfl (by decide) (Or.inr (Or.inl rfl))
theorem okX5_way : mm_YK zX5_way := mm_ykc ic5 ne5 (pl5 rfl) (mm_t1 (mm_tq3 (List.mem_of_getElem? (i := 90) rfl)) rfl) rfl rfl (by decide) (Or.inr (Or.inl rfl))
theorem okX5_mutual : mm_YK zX5_mutual := mm_ykc ic5 ne5 (pl5 rfl) (mm_t1 (mm_tq3 (List.mem_of_getElem? (i := 102) rfl)) rfl) rfl rfl (by decide) (Or.inr (Or.inl rfl))
theorem okX5_about : mm_YK zX5_about := mm_ykc ic5 ne5 (pl5 rfl) (mm_t1 (mm_tq3 (List.mem_of_getElem? (i := 106) rfl)) rfl) rfl rfl (by decide) (Or.inr (Or.inl rfl))
theorem okX5_kind : mm_YK zX5_kind := mm_ykc ic5 ne5 (pl5 rfl) (mm_t1 (mm_tq3 (List.mem_of_getElem? (i := 121) rfl)) rfl) rfl rfl (by decide) (Or.inr (Or.inl rfl))
theorem okX5_pairs : mm_YK zX5_pairs := mm_ykc ic5 ne5 (pl5 rfl) (mm_t1 (mm_tq3 (List.mem_of_getElem? (i := 130) rfl)) rfl) rfl rfl (by decide) (Or.inr (Or.inl rfl))
theorem okX5_ranked : mm_YK zX5_ranked := mm_ykc ic5 ne5 (pl5 rfl) (mm_t1 (mm_tq3 (List.mem_of_getElem? (i := 134) rfl)) rfl) rfl rfl (by decide) (Or.inr (Or.inl rfl))
theorem okX5_around : mm_YK zX5_around := mm_ykc ic5 ne5 (pl5 rfl) (mm_t1 (mm_tq3 (List.mem_of_getElem? (i := 142) rfl)) rfl) rfl rfl (by decide) (Or.inr (Or.inl rfl))
theorem okX5_rounds : mm_YK zX5_rounds := mm_ykc ic5 ne5 (pl5 rfl) (mm_t1 (mm_tq3 (List.mem_of_getElem? (i := 165) rfl)) rfl) rfl rfl (by decide) (Or.inr (Or.inl rfl))
theorem okX5_spans : mm_YK zX5_spans := mm_ykc ic5 ne5 (pl5 rfl) (mm_t1 (mm_tq3 (List.mem_of_getElem? (i := 169) rfl)) rfl) rfl rfl (by decide) (Or.inr (Or.inl rfl))
theorem okX5_pieces : mm_YK zX5_pieces := mm_ykc ic5 ne5 (pl5 rfl) (mm_t1 (mm_tq3 (List.mem_of_getElem? (i := 173) rfl)) rfl) rfl rfl (by decide) (Or.inr (Or.inl rfl))
theorem okX5_all : mm_YK zX5_all := mm_ykc ic5 ne5 (pl5 rfl) (mm_t1 (mm_tq3 (List.mem_of_getElem? (i := 181) rfl)) rfl) rfl rfl (by decide) (Or.inr (Or.inl rfl))
theorem okX5_easiest : mm_YK zX5_easiest := mm_ykc ic5 ne5 (pl5 rfl) (mm_t1 (mm_tq3 (List.mem_of_getElem? (i := 224) rfl)) rfl) rfl rfl (by decide) (Or.inr (Or.inl rfl))
theorem okX5_lowest : mm_YK zX5_lowest := mm_ykc ic5 ne5 (pl5 rfl) (mm_t1 (mm_tq3 (List.mem_of_getElem? (i := 228) rfl)) rfl) rfl rfl (by decide) (Or.inr (Or.inl rfl))
theorem okX5_reach : mm_YK zX5_reach := mm_ykc ic5 ne5 (pl5 rfl) (mm_t1 (mm_tq4 (List.mem_of_getElem? (i := 7) rfl)) rfl) rfl rfl (by decide) (Or.inr (Or.inl rfl))
theorem okX5_alike : mm_YK zX5_alike := mm_ykc ic5 ne5 (pl5 rfl) (mm_t1 (mm_tq4 (List.mem_of_getElem? (i := 26) rfl)) rfl) rfl rfl (by decide) (Or.inr (Or.inl rfl))
theorem okX5_until : mm_YK zX5_until := mm_ykc ic5 ne5 (pl5 rfl) (mm_t1 (mm_tq4 (List.mem_of_getElem? (i := 39) rfl)) rfl) rfl rfl (by decide) (Or.inr (Or.inl rfl))
theorem okX5_rested : mm_YK zX5_rested := mm_ykc ic5 ne5 (pl5 rfl) (mm_t1 (mm_tq4 (List.mem_of_getElem? (i := 51) rfl)) rfl) rfl rfl (by decide) (Or.inr (Or.inl rfl))
theorem okX5_resting : mm_YK zX5_resting := mm_ykc ic5 ne5 (pl5 rfl) (mm_t1 (mm_tq4 (List.mem_of_getElem? (i := 61) rfl)) rfl) rfl rfl (by decide) (Or.inr (Or.inl rfl))
theorem okX5_later : mm_YK zX5_later := mm_ykc ic5 ne5 (pl5 rfl) (mm_t1 (mm_tq4 (List.mem_of_getElem? (i := 69) rfl)) rfl) rfl rfl (by decide) (Or.inr (Or.inl rfl))
theorem okX5_gone : mm_YK zX5_gone := mm_ykc ic5 ne5 (pl5 rfl) (mm_t1 (mm_tq4 (List.mem_of_getElem? (i := 78) rfl)) rfl) rfl rfl (by decide) (Or.inr (Or.inl rfl))
theorem okX5_first : mm_YK zX5_first := mm_ykc ic5 ne5 (pl5 rfl) (mm_t1 (mm_tq4 (List.mem_of_getElem? (i := 87) rfl)) rfl) rfl rfl (by decide) (Or.inr (Or.inl rfl))
theorem okX5_log : mm_YK zX5_log := mm_ykc ic5 ne5 (pl5 rfl) (mm_t1 (mm_tq4 (List.mem_of_getElem? (i := 95) rfl)) rfl) rfl rfl (by decide) (Or.inr (Or.inl rfl))
theorem okX5_count : mm_YK zX5_count := mm_ykc ic5 ne5 (pl5 rfl) (mm_t1 (mm_tq4 (List.mem_of_getElem? (i := 104) rfl)) rfl) rfl rfl (by decide) (Or.inr (Or.inl rfl))
theorem okX5_areTwo : mm_YK zX5_areTwo := mm_ykc ic5 ne5 (pl5 rfl) (mm_t1 (mm_tq3 (List.mem_of_getElem? (i := 46) rfl)) rfl) rfl rfl (by decide) (Or.inr (Or.inr rfl))
theorem okX5_isShake : mm_YK zX5_isShake := mm_ykc ic5 ne5 (pl5 rfl) (mm_t1 (mm_tq2 (List.mem_of_getElem? (i := 190) rfl)) rfl) rfl rfl (by decide) (Or.inr (Or.inr rfl))
theorem okX5_commonDivisor : mm_YK zX5_commonDivisor := mm_ykc ic5 ne5 (pl5 rfl) (mm_t1 (mm_tq3 (List.mem_of_getElem? (i := 117) rfl)) rfl) rfl rfl (by decide) (Or.inr (Or.inl rfl))
theorem okX6_thrown : mm_YK zX6_thrown := mm_ykc ic6 ne6 (pl6 rfl) (mm_t1 (mm_tq5 (List.mem_of_getElem? (i := 23) rfl)) rfl) rfl rfl (by decide) (Or.inr (Or.inl rfl))
theorem okX6_copy : mm_YK zX6_copy := mm_ykc ic6 ne6 (pl6 rfl) (mm_t1 (mm_tq5 (List.mem_of_getElem? (i := 30) rfl)) rfl) rfl rfl (by decide) (Or.inl rfl)
theorem okX6_refuse : mm_YK zX6_refuse := mm_ykc ic6 ne6 (pl6 rfl) (mm_t1 (mm_tq5 (List.mem_of_getElem? (i := 44) rfl)) rfl) rfl rfl (by decide) (Or.inr (Or.inl rfl))
theorem okX6_keep : mm_YK zX6_keep := mm_ykc ic6 ne6 (pl6 rfl) (mm_t1 (mm_tq5 (List.mem_of_getElem? (i := 27) rfl)) rfl) rfl rfl (by decide) (Or.inr (Or.inr rfl))
theorem okX6_again : mm_YK zX6_again := mm_ykc ic6 ne6 (pl6 rfl) (mm_t1 (mm_tq5 (List.mem_of_getElem? (i := 34) rfl)) rfl) rfl rfl (by decide) (Or.inr (Or.inr rfl))
theorem okX6_think : mm_YK zX6_think := mm_ykc ic6 ne6 (pl6 rfl) (mm_t1 (mm_tq6 (List.mem_of_getElem? (i := 177) rfl)) rfl) rfl rfl (by decide) (Or.inl rfl)
theorem okX6_endThought : mm_YK zX6_endThought := mm_ykc ic6 ne6 (pl6 rfl) (mm_t1 (mm_tq6 (List.mem_of_getElem? (i := 201) rfl)) rfl) rfl rfl (by decide) (Or.inl rfl)
theorem okX6_sign : mm_YK zX6_sign := mm_ykc ic6 ne6 (pl6 rfl) (mm_t1 (mm_tq4 (List.mem_of_getElem? (i := 221) rfl)) rfl) rfl rfl (by decide) (Or.inr (Or.inl rfl))
theorem okX6_halfOf : mm_YK zX6_halfOf := mm_ykc ic6 ne6 (pl6 rfl) (mm_t1 (mm_tq4 (List.mem_of_getElem? (i := 218) rfl)) rfl) rfl rfl (by decide) (Or.inr (Or.inl rfl))
theorem okX6_lay : mm_YK zX6_lay := mm_ykc ic6 ne6 (pl6 rfl) (mm_t1 (mm_tq4 (List.mem_of_getElem? (i := 210) rfl)) rfl) rfl rfl (by decide) (Or.inl rfl)
theorem okX6_ring : mm_YK zX6_ring := mm_ykc ic6 ne6 (pl6 rfl) (mm_t1 (mm_tq5 (List.mem_of_getElem? (i := 38) rfl)) rfl) rfl rfl (by decide) (Or.inr (Or.inl rfl))
theorem okX6_next : mm_YK zX6_next := mm_ykc ic6 ne6 (pl6 rfl) (mm_t1 (mm_tq5 (List.mem_of_getElem? (i := 93) rfl)) rfl) rfl rfl (by decide) (Or.inr (Or.inl rfl))
theorem okX6_before : mm_YK zX6_before := mm_ykc ic6 ne6 (pl6 rfl) (mm_t1 (mm_tq5 (List.mem_of_getElem? (i := 97) rfl)) rfl) rfl rfl (by decide) (Or.inr (Or.inl rfl))
theorem okX6_cellOf : mm_YK zX6_cellOf := mm_ykc ic6 ne6 (pl6 rfl) (mm_t1 (mm_tq5 (List.mem_of_getElem? (i := 85) rfl)) rfl) rfl rfl (by decide) (Or.inr (Or.inl rfl))
theorem okX6_over : mm_YK zX6_over := mm_ykc ic6 ne6 (pl6 rfl) (mm_t1 (mm_tq5 (List.mem_of_getElem? (i := 89) rfl)) rfl) rfl rfl (by decide) (Or.inr (Or.inl rfl))
theorem okX6_isCell : mm_YK zX6_isCell := mm_ykc ic6 ne6 (pl6 rfl) (mm_t1 (mm_tq5 (List.mem_of_getElem? (i := 58) rfl)) rfl) rfl rfl (by decide) (Or.inr (Or.inr rfl))
theorem okX6_isWall : mm_YK zX6_isWall := mm_ykc ic6 ne6 (pl6 rfl) (mm_t1 (mm_tq5 (List.mem_of_getElem? (i := 68) rfl)) rfl) rfl rfl (by decide) (Or.inr (Or.inr rfl))
theorem okX6_sidesOf : mm_YK zX6_sidesOf := mm_ykc ic6 ne6 (pl6 rfl) (mm_t1 (mm_tq5 (List.mem_of_getElem? (i := 104) rfl)) rfl) rfl rfl (by decide) (Or.inr (Or.inl rfl))
theorem okX6_firstSide : mm_YK zX6_firstSide := mm_ykc ic6 ne6 (pl6 rfl) (mm_t1 (mm_tq5 (List.mem_of_getElem? (i := 155) rfl)) rfl) rfl rfl (by decide) (Or.inr (Or.inl rfl))
theorem okX6_sideAt : mm_YK zX6_sideAt := mm_ykc ic6 ne6 (pl6 rfl) (mm_t1 (mm_tq5 (List.mem_of_getElem? (i := 175) rfl)) rfl) rfl rfl (by decide) (Or.inr (Or.inl rfl))
theorem okX6_many : mm_YK zX6_many := mm_ykc ic6 ne6 (pl6 rfl) (mm_t1 (mm_tq6 (List.mem_of_getElem? (i := 209) rfl)) rfl) rfl rfl (by decide) (Or.inr (Or.inl rfl))
theorem okX6_join : mm_YK zX6_join := mm_ykc ic6 ne6 (pl6 rfl) (mm_t1 (mm_tq5 (List.mem_of_getElem? (i := 131) rfl)) rfl) rfl rfl (by decide) (Or.inl rfl)
theorem okX6_leave : mm_YK zX6_leave := mm_ykc ic6 ne6 (pl6 rfl) (mm_t1 (mm_tq5 (List.mem_of_getElem? (i := 127) rfl)) rfl) rfl rfl (by decide) (Or.inl rfl)
theorem okX6_enter : mm_YK zX6_enter := mm_ykc ic6 ne6 (pl6 rfl) (mm_t1 (mm_tq5 (List.mem_of_getElem? (i := 135) rfl)) rfl) rfl rfl (by decide) (Or.inl rfl)
theorem okX6_counts : mm_YK zX6_counts := mm_ykc ic6 ne6 (pl6 rfl) (mm_t1 (mm_tq5 (List.mem_of_getElem? (i := 139) rfl)) rfl) rfl rfl (by decide) (Or.inl rfl)
theorem okX6_notes : mm_YK zX6_notes := mm_ykc ic6 ne6 (pl6 rfl) (mm_t1 (mm_tq5 (List.mem_of_getElem? (i := 143) rfl)) rfl) rfl rfl (by decide) (Or.inl rfl)
theorem okX6_areFour : mm_YK zX6_areFour := mm_ykc ic6 ne6 (pl6 rfl) (mm_t1 (mm_tq5 (List.mem_of_getElem? (i := 100) rfl)) rfl) rfl rfl (by decide) (Or.inr (Or.inr rfl))
theorem okX6_hasFour : mm_YK zX6_hasFour := mm_ykc ic6 ne6 (pl6 rfl) (mm_t1 (mm_tq5 (List.mem_of_getElem? (i := 81) rfl)) rfl) rfl rfl (by decide) (Or.inr (Or.inr rfl))
theorem okX6_canSwap : mm_YK zX6_canSwap := mm_ykc ic6 ne6 (pl6 rfl) (mm_t1 (mm_tq5 (List.mem_of_getElem? (i := 77) rfl)) rfl) rfl rfl (by decide) (Or.inr (Or.inr rfl))
theorem okX6_square : mm_YK zX6_square := mm_ykc ic6 ne6 (pl6 rfl) (mm_t1 (mm_tq5 (List.mem_of_getElem? (i := 115) rfl)) rfl) rfl rfl (by decide) (Or.inr (Or.inl rfl))
theorem okX6_turn : mm_YK zX6_turn := mm_ykc ic6 ne6 (pl6 rfl) (mm_t1 (mm_tq5 (List.mem_of_getElem? (i := 112) rfl)) rfl) rfl rfl (by decide) (Or.inr (Or.inl rfl))
theorem okX6_easing : mm_YK zX6_easing := mm_ykc ic6 ne6 (pl6 rfl) (mm_t1 (mm_tq5 (List.mem_of_getElem? (i := 108) rfl)) rfl) rfl rfl (by decide) (Or.inr (Or.inl rfl))
theorem okX6_turnWall : mm_YK zX6_turnWall := mm_ykc ic6 ne6 (pl6 rfl) (mm_t1 (mm_tq5 (List.mem_of_getElem? (i := 123) rfl)) rfl) rfl rfl (by decide) (Or.inl rfl)
theorem okX6_swaps : mm_YK zX6_swaps := mm_ykc ic6 ne6 (pl6 rfl) (mm_t1 (mm_tq5 (List.mem_of_getElem? (i := 119) rfl)) rfl) rfl rfl (by decide) (Or.inl rfl)
theorem okX6_rate : mm_YK zX6_rate := mm_ykc ic6 ne6 (pl6 rfl) (mm_t1 (mm_tq5 (List.mem_of_getElem? (i := 48) rfl)) rfl) rfl rfl (by decide) (Or.inr (Or.inl rfl))
theorem okX6_area : mm_YK zX6_area := mm_ykc ic6 ne6 (pl6 rfl) (mm_t1 (mm_tq5 (List.mem_of_getElem? (i := 52) rfl)) rfl) rfl rfl (by decide) (Or.inr (Or.inl rfl))
theorem okX6_length : mm_YK zX6_length := mm_ykc ic6 ne6 (pl6 rfl) (mm_t1 (mm_tq5 (List.mem_of_getElem? (i := 63) rfl)) rfl) rfl rfl (by decide) (Or.inr (Or.inl rfl))
theorem okX6_swap : mm_YK zX6_swap := mm_ykc ic6 ne6 (pl6 rfl) (mm_t1 (mm_tq5 (List.mem_of_getElem? (i := 73) rfl)) rfl) rfl rfl (by decide) (Or.inr (Or.inl rfl))
theorem okX6_canVanish : mm_YK zX6_canVanish := mm_ykc ic6 ne6 (pl6 rfl) (mm_t1 (mm_tq5 (List.mem_of_getElem? (i := 151) rfl)) rfl) rfl rfl (by decide) (Or.inr (Or.inr rfl))
theorem okX6_isRicher : mm_YK zX6_isRicher := mm_ykc ic6 ne6 (pl6 rfl) (mm_t1 (mm_tq5 (List.mem_of_getElem? (i := 163) rfl)) rfl) rfl rfl (by decide) (Or.inr (Or.inr rfl))
theorem okX6_vanishes : mm_YK zX6_vanishes := mm_ykc ic6 ne6 (pl6 rfl) (mm_t1 (mm_tq5 (List.mem_of_getElem? (i := 159) rfl)) rfl) rfl rfl (by decide) (Or.inr (Or.inl rfl))
theorem okX6_vanish : mm_YK zX6_vanish := mm_ykc ic6 ne6 (pl6 rfl) (mm_t1 (mm_tq5 (List.mem_of_getElem? (i := 147) rfl)) rfl) rfl rfl (by decide) (Or.inr (Or.inl rfl))
theorem okX6_freeWall : mm_YK zX6_freeWall := mm_ykc ic6 ne6 (pl6 rfl) (mm_t1 (mm_tq5 (List.mem_of_getElem? (i := 191) rfl)) rfl) rfl rfl (by decide) (Or.inr (Or.inl rfl))
theorem okX6_freeCell : mm_YK zX6_freeCell := mm_ykc ic6 ne6 (pl6 rfl) (mm_t1 (mm_tq5 (List.mem_of_getElem? (i := 171) rfl)) rfl) rfl rfl (by decide) (Or.inr (Or.inl rfl))
theorem okX6_newWall : mm_YK zX6_newWall := mm_ykc ic6 ne6 (pl6 rfl) (mm_t1 (mm_tq5 (List.mem_of_getElem? (i := 187) rfl)) rfl) rfl rfl (by decide) (Or.inr (Or.inl rfl))
theorem okX6_halves : mm_YK zX6_halves := mm_ykc ic6 ne6 (pl6 rfl) (mm_t1 (mm_tq5 (List.mem_of_getElem? (i := 183) rfl)) rfl) rfl rfl (by decide) (Or.inr (Or.inl rfl))
theorem okX6_cut : mm_YK zX6_cut := mm_ykc ic6 ne6 (pl6 rfl) (mm_t1 (mm_tq5 (List.mem_of_getElem? (i := 167) rfl)) rfl) rfl rfl (by decide) (Or.inr (Or.inl rfl))
theorem okX6_cutBy : mm_YK zX6_cutBy := mm_ykc ic6 ne6 (pl6 rfl) (mm_t1 (mm_tq5 (List.mem_of_getElem? (i := 179) rfl)) rfl) rfl rfl (by decide) (Or.inl rfl)
theorem okX6_countRound : mm_YK zX6_countRound := mm_ykc ic6 ne6 (pl6 rfl) (mm_t1 (mm_tq5 (List.mem_of_getElem? (i := 195) rfl)) rfl) rfl rfl (by decide) (Or.inr (Or.inl rfl))
theorem okX6_wallsBetween : mm_YK zX6_wallsBetween := mm_ykc ic6 ne6 (pl6 rfl) (mm_t1 (mm_tq5 (List.mem_of_getElem? (i := 207) rfl)) rfl) rfl rfl (by decide) (Or.inr (Or.inl rfl))
theorem okX6_canBurst : mm_YK zX6_canBurst := mm_ykc ic6 ne6 (pl6 rfl) (mm_t1 (mm_tq5 (List.mem_of_getElem? (i := 203) rfl)) rfl) rfl rfl (by decide) (Or.inr (Or.inr rfl))
theorem okX6_melt : mm_YK zX6_melt := mm_ykc ic6 ne6 (pl6 rfl) (mm_t1 (mm_tq5 (List.mem_of_getElem? (i := 211) rfl)) rfl) rfl rfl (by decide) (Or.inl rfl)
theorem okX6_burst : mm_YK zX6_burst := mm_ykc ic6 ne6 (pl6 rfl) (mm_t1 (mm_tq5 (List.mem_of_getElem? (i := 199) rfl)) rfl) rfl rfl (by decide) (Or.inr (Or.inl rfl))
theorem okX6_draw : mm_YK zX6_draw := mm_ykc ic6 ne6 (pl6 rfl) (mm_t1 (mm_tq5 (List.mem_of_getElem? (i := 224) rfl)) rfl) rfl rfl (by decide) (Or.inr (Or.inl rfl))
theorem okX6_shakes : mm_YK zX6_shakes := mm_ykc ic6 ne6 (pl6 rfl) (mm_t1 (mm_tq5 (List.mem_of_getElem? (i := 220) rfl)) rfl) rfl rfl (by decide) (Or.inr (Or.inl rfl))
theorem okX6_shake : mm_YK zX6_shake := mm_ykc ic6 ne6 (pl6 rfl) (mm_t1 (mm_tq5 (List.mem_of_getElem? (i := 215) rfl)) rfl) rfl rfl (by decide) (Or.inr (Or.inl rfl))
theorem okX6_grows : mm_YK zX6_grows := mm_ykc ic6 ne6 (pl6 rfl) (mm_t1 (mm_tq6 (List.mem_of_getElem? (i := 0) rfl)) rfl) rfl rfl (by decide) (Or.inr (Or.inl rfl))
theorem okX6_shortest : mm_YK zX6_shortest := mm_ykc ic6 ne6 (pl6 rfl) (mm_t1 (mm_tq6 (List.mem_of_getElem? (i := 8) rfl)) rfl) rfl rfl (by decide) (Or.inr (Or.inl rfl))
theorem okX6_step : mm_YK zX6_step := mm_ykc ic6 ne6 (pl6 rfl) (mm_t1 (mm_tq5 (List.mem_of_getElem? (i := 236) rfl)) rfl) rfl rfl (by decide) (Or.inl rfl)
theorem okX6_shrinks : mm_YK zX6_shrinks := mm_ykc ic6 ne6 (pl6 rfl) (mm_t1 (mm_tq6 (List.mem_of_getElem? (i := 4) rfl)) rfl) rfl rfl (by decide) (Or.inl rfl)
theorem okX6_steps : mm_YK zX6_steps := mm_ykc ic6 ne6 (pl6 rfl) (mm_t1 (mm_tq5 (List.mem_of_getElem? (i := 231) rfl)) rfl) rfl rfl (by decide) (Or.inr (Or.inl rfl))
theorem okX6_easier : mm_YK zX6_easier := mm_ykc ic6 ne6 (pl6 rfl) (mm_t1 (mm_tq6 (List.mem_of_getElem? (i := 20) rfl)) rfl) rfl rfl (by decide) (Or.inr (Or.inl rfl))
theorem okX6_relaxes : mm_YK zX6_relaxes := mm_ykc ic6 ne6 (pl6 rfl) (mm_t1 (mm_tq6 (List.mem_of_getElem? (i := 16) rfl)) rfl) rfl rfl (by decide) (Or.inr (Or.inl rfl))
theorem okX6_relax : mm_YK zX6_relax := mm_ykc ic6 ne6 (pl6 rfl) (mm_t1 (mm_tq6 (List.mem_of_getElem? (i := 12) rfl)) rfl) rfl rfl (by decide) (Or.inr (Or.inl rfl))
theorem okX6_isThere : mm_YK zX6_isThere := mm_ykc ic6 ne6 (pl6 rfl) (mm_t1 (mm_tq6 (List.mem_of_getElem? (i := 28) rfl)) rfl) rfl rfl (by decide) (Or.inr (Or.inr rfl))
theorem okX6_aboutOf : mm_YK zX6_aboutOf := mm_ykc ic6 ne6 (pl6 rfl) (mm_t1 (mm_tq6 (List.mem_of_getElem? (i := 36) rfl)) rfl) rfl rfl (by decide) (Or.inr (Or.inl rfl))
theorem okX6_lengthsOf : mm_YK zX6_lengthsOf := mm_ykc ic6 ne6 (pl6 rfl) (mm_t1 (mm_tq6 (List.mem_of_getElem? (i := 32) rfl)) rfl) rfl rfl (by decide) (Or.inr (Or.inl rfl))
theorem okX6_areBeside : mm_YK zX6_areBeside := mm_ykc ic6 ne6 (pl6 rfl) (mm_t1 (mm_tq6 (List.mem_of_getElem? (i := 44) rfl)) rfl) rfl rfl (by decide) (Or.inr (Or.inr rfl))
theorem okX6_neighbours : mm_YK zX6_neighbours := mm_ykc ic6 ne6 (pl6 rfl) (mm_t1 (mm_tq6 (List.mem_of_getElem? (i := 40) rfl)) rfl) rfl rfl (by decide) (Or.inr (Or.inl rfl))
theorem okX6_cell : mm_YK zX6_cell := mm_ykc ic6 ne6 (pl6 rfl) (mm_t1 (mm_tq6 (List.mem_of_getElem? (i := 24) rfl)) rfl) rfl rfl (by decide) (Or.inr (Or.inl rfl))
theorem okX6_side : mm_YK zX6_side := mm_ykc ic6 ne6 (pl6 rfl) (mm_t1 (mm_tq6 (List.mem_of_getElem? (i := 49) rfl)) rfl) rfl rfl (by decide) (Or.inr (Or.inl rfl))
theorem okX6_lesser : mm_YK zX6_lesser := mm_ykc ic6 ne6 (pl6 rfl) (mm_t1 (mm_tq6 (List.mem_of_getElem? (i := 57) rfl)) rfl) rfl rfl (by decide) (Or.inr (Or.inl rfl))
theorem okX6_greater : mm_YK zX6_greater := mm_ykc ic6 ne6 (pl6 rfl) (mm_t1 (mm_tq6 (List.mem_of_getElem? (i := 60) rfl)) rfl) rfl rfl (by decide) (Or.inr (Or.inl rfl))
theorem okX6_wall : mm_YK zX6_wall := mm_ykc ic6 ne6 (pl6 rfl) (mm_t1 (mm_tq6 (List.mem_of_getElem? (i := 54) rfl)) rfl) rfl rfl (by decide) (Or.inr (Or.inl rfl))
theorem okX6_between : mm_YK zX6_between := mm_ykc ic6 ne6 (pl6 rfl) (mm_t1 (mm_tq6 (List.mem_of_getElem? (i := 64) rfl)) rfl) rfl rfl (by decide) (Or.inr (Or.inl rfl))
theorem okX6_layFar : mm_YK zX6_layFar := mm_ykc ic6 ne6 (pl6 rfl) (mm_t1 (mm_tq6 (List.mem_of_getElem? (i := 72) rfl)) rfl) rfl rfl (by decide) (Or.inl rfl)
theorem okX6_far : mm_YK zX6_far := mm_ykc ic6 ne6 (pl6 rfl) (mm_t1 (mm_tq6 (List.mem_of_getElem? (i := 68) rfl)) rfl) rfl rfl (by decide) (Or.inr (Or.inl rfl))
theorem okX6_shell : mm_YK zX6_shell := mm_ykc ic6 ne6 (pl6 rfl) (mm_t1 (mm_tq6 (List.mem_of_getElem? (i := 76) rfl)) rfl) rfl rfl (by decide) (Or.inr (Or.inl rfl))
theorem okX6_shellOf : mm_YK zX6_shellOf := mm_ykc ic6 ne6 (pl6 rfl) (mm_t1 (mm_tq6 (List.mem_of_getElem? (i := 80) rfl)) rfl) rfl rfl (by decide) (Or.inr (Or.inl rfl))
theorem okX6_way : mm_YK zX6_way := mm_ykc ic6 ne6 (pl6 rfl) (mm_t1 (mm_tq6 (List.mem_of_getElem? (i := 84) rfl)) rfl) rfl rfl (by decide) (Or.inr (Or.inl rfl))
theorem okX6_mutual : mm_YK zX6_mutual := mm_ykc ic6 ne6 (pl6 rfl) (mm_t1 (mm_tq6 (List.mem_of_getElem? (i := 88) rfl)) rfl) rfl rfl (by decide) (Or.inr (Or.inl rfl))
theorem okX6_ofKind : mm_YK zX6_ofKind := mm_ykc ic6 ne6 (pl6 rfl) (mm_t1 (mm_tq6 (List.mem_of_getElem? (i := 96) rfl)) rfl) rfl rfl (by decide) (Or.inr (Or.inl rfl))
theorem okX6_common : mm_YK zX6_common := mm_ykc ic6 ne6 (pl6 rfl) (mm_t1 (mm_tq6 (List.mem_of_getElem? (i := 99) rfl)) rfl) rfl rfl (by decide) (Or.inr (Or.inl rfl))
theorem okX6_about : mm_YK zX6_about := mm_ykc ic6 ne6 (pl6 rfl) (mm_t1 (mm_tq6 (List.mem_of_getElem? (i := 92) rfl)) rfl) rfl rfl (by decide) (Or.inr (Or.inl rfl))
theorem okX6_kind : mm_YK zX6_kind := mm_ykc ic6 ne6 (pl6 rfl) (mm_t1 (mm_tq6 (List.mem_of_getElem? (i := 103) rfl)) rfl) rfl rfl (by decide) (Or.inr (Or.inl rfl))
theorem okX6_pairs : mm_YK zX6_pairs := mm_ykc ic6 ne6 (pl6 rfl) (mm_t1 (mm_tq6 (List.mem_of_getElem? (i := 107) rfl)) rfl) rfl rfl (by decide) (Or.inr (Or.inl rfl))
theorem okX6_ranked : mm_YK zX6_ranked := mm_ykc ic6 ne6 (pl6 rfl) (mm_t1 (mm_tq6 (List.mem_of_getElem? (i := 111) rfl)) rfl) rfl rfl (by decide) (Or.inr (Or.inl rfl))
theorem okX6_stateOf : mm_YK zX6_stateOf := mm_ykc ic6 ne6 (pl6 rfl) (mm_t1 (mm_tq6 (List.mem_of_getElem? (i := 123) rfl)) rfl) rfl rfl (by decide) (Or.inr (Or.inl rfl))
theorem okX6_layWays : mm_YK zX6_layWays := mm_ykc ic6 ne6 (pl6 rfl) (mm_t1 (mm_tq6 (List.mem_of_getElem? (i := 120) rfl)) rfl) rfl rfl (by decide) (Or.inl rfl)
theorem okX6_spread : mm_YK zX6_spread := mm_ykc ic6 ne6 (pl6 rfl) (mm_t1 (mm_tq6 (List.mem_of_getElem? (i := 127) rfl)) rfl) rfl rfl (by decide) (Or.inr (Or.inr rfl))
theorem okX6_around : mm_YK zX6_around := mm_ykc ic6 ne6 (pl6 rfl) (mm_t1 (mm_tq6 (List.mem_of_getElem? (i := 115) rfl)) rfl) rfl rfl (by decide) (Or.inr (Or.inl rfl))
theorem okX6_rounds : mm_YK zX6_rounds := mm_ykc ic6 ne6 (pl6 rfl) (mm_t1 (mm_tq6 (List.mem_of_getElem? (i := 132) rfl)) rfl) rfl rfl (by decide) (Or.inr (Or.inl rfl))
theorem okX6_spans : mm_YK zX6_spans := mm_ykc ic6 ne6 (pl6 rfl) (mm_t1 (mm_tq6 (List.mem_of_getElem? (i := 136) rfl)) rfl) rfl rfl (by decide) (Or.inr (Or.inl rfl))
theorem okX6_layPieces : mm_YK zX6_layPieces := mm_ykc ic6 ne6 (pl6 rfl) (mm_t1 (mm_tq6 (List.mem_of_getElem? (i := 144) rfl)) rfl) rfl rfl (by decide) (Or.inl rfl)
theorem okX6_pieces : mm_YK zX6_pieces := mm_ykc ic6 ne6 (pl6 rfl) (mm_t1 (mm_tq6 (List.mem_of_getElem? (i := 140) rfl)) rfl) rfl rfl (by decide) (Or.inr (Or.inl rfl))
theorem okX6_strain : mm_YK zX6_strain := mm_ykc ic6 ne6 (pl6 rfl) (mm_t1 (mm_tq6 (List.mem_of_getElem? (i := 152) rfl)) rfl) rfl rfl (by decide) (Or.inr (Or.inl rfl))
theorem okX6_ofCells : mm_YK zX6_ofCells := mm_ykc ic6 ne6 (pl6 rfl) (mm_t1 (mm_tq6 (List.mem_of_getElem? (i := 160) rfl)) rfl) rfl rfl (by decide) (Or.inr (Or.inl rfl))
theorem okX6_ofWalls : mm_YK zX6_ofWalls := mm_ykc ic6 ne6 (pl6 rfl) (mm_t1 (mm_tq6 (List.mem_of_getElem? (i := 156) rfl)) rfl) rfl rfl (by decide) (Or.inr (Or.inl rfl))
theorem okX6_all : mm_YK zX6_all := mm_ykc ic6 ne6 (pl6 rfl) (mm_t1 (mm_tq6 (List.mem_of_getElem? (i := 148) rfl)) rfl) rfl rfl (by decide) (Or.inr (Or.inl rfl))
theorem okX6_easiest : mm_YK zX6_easiest := mm_ykc ic6 ne6 (pl6 rfl) (mm_t1 (mm_tq6 (List.mem_of_getElem? (i := 165) rfl)) rfl) rfl rfl (by decide) (Or.inr (Or.inl rfl))
theorem okX6_eased : mm_YK zX6_eased := mm_ykc ic6 ne6 (pl6 rfl) (mm_t1 (mm_tq6 (List.mem_of_getElem? (i := 173) rfl)) rfl) rfl rfl (by decide) (Or.inr (Or.inl rfl))
theorem okX6_lowest : mm_YK zX6_lowest := mm_ykc ic6 ne6 (pl6 rfl) (mm_t1 (mm_tq6 (List.mem_of_getElem? (i := 169) rfl)) rfl) rfl rfl (by decide) (Or.inr (Or.inl rfl))
theorem okX6_bringsTo : mm_YK zX6_bringsTo := mm_ykc ic6 ne6 (pl6 rfl) (mm_t1 (mm_tq6 (List.mem_of_getElem? (i := 185) rfl)) rfl) rfl rfl (by decide) (Or.inr (Or.inl rfl))
theorem okX6_changes : mm_YK zX6_changes := mm_ykc ic6 ne6 (pl6 rfl) (mm_t1 (mm_tq6 (List.mem_of_getElem? (i := 189) rfl)) rfl) rfl rfl (by decide) (Or.inr (Or.inl rfl))
theorem okX6_reach : mm_YK zX6_reach := mm_ykc ic6 ne6 (pl6 rfl) (mm_t1 (mm_tq6 (List.mem_of_getElem? (i := 181) rfl)) rfl) rfl rfl (by decide) (Or.inr (Or.inl rfl))
theorem okX6_areAlike : mm_YK zX6_areAlike := mm_ykc ic6 ne6 (pl6 rfl) (mm_t1 (mm_tq6 (List.mem_of_getElem? (i := 197) rfl)) rfl) rfl rfl (by decide) (Or.inr (Or.inr rfl))
theorem okX6_alike : mm_YK zX6_alike := mm_ykc ic6 ne6 (pl6 rfl) (mm_t1 (mm_tq6 (List.mem_of_getElem? (i := 193) rfl)) rfl) rfl rfl (by decide) (Or.inr (Or.inl rfl))
theorem okX6_until : mm_YK zX6_until := mm_ykc ic6 ne6 (pl6 rfl) (mm_t1 (mm_tq6 (List.mem_of_getElem? (i := 205) rfl)) rfl) rfl rfl (by decide) (Or.inr (Or.inl rfl))
theorem okX6_rested : mm_YK zX6_rested := mm_ykc ic6 ne6 (pl6 rfl) (mm_t1 (mm_tq6 (List.mem_of_getElem? (i := 213) rfl)) rfl) rfl rfl (by decide) (Or.inr (Or.inl rfl))
theorem okX6_resting : mm_YK zX6_resting := mm_ykc ic6 ne6 (pl6 rfl) (mm_t1 (mm_tq6 (List.mem_of_getElem? (i := 219) rfl)) rfl) rfl rfl (by decide) (Or.inr (Or.inl rfl))
theorem okX6_later : mm_YK zX6_later := mm_ykc ic6 ne6 (pl6 rfl) (mm_t1 (mm_tq6 (List.mem_of_getElem? (i := 223) rfl)) rfl) rfl rfl (by decide) (Or.inr (Or.inl rfl))
theorem okX6_gone : mm_YK zX6_gone := mm_ykc ic6 ne6 (pl6 rfl) (mm_t1 (mm_tq6 (List.mem_of_getElem? (i := 228) rfl)) rfl) rfl rfl (by decide) (Or.inr (Or.inl rfl))
theorem okX6_first : mm_YK zX6_first := mm_ykc ic6 ne6 (pl6 rfl) (mm_t1 (mm_tq6 (List.mem_of_getElem? (i := 232) rfl)) rfl) rfl rfl (by decide) (Or.inr (Or.inl rfl))
theorem okX6_log : mm_YK zX6_log := mm_ykc ic6 ne6 (pl6 rfl) (mm_t1 (mm_tq6 (List.mem_of_getElem? (i := 236) rfl)) rfl) rfl rfl (by decide) (Or.inr (Or.inl rfl))
theorem okX6_count : mm_YK zX6_count := mm_ykc ic6 ne6 (pl6 rfl) (mm_t1 (mm_tq7 (List.mem_of_getElem? (i := 0) rfl)) rfl) rfl rfl (by decide) (Or.inr (Or.inl rfl))
theorem okJ9_floorDiv_7cf53 : mm_YK zJ9_floorDiv_7cf53 := mm_ykc ic7 ne7 (by decide +kernel) (mm_t1 (mm_tq2 (List.mem_of_getElem? (i := 155) rfl)) rfl) rfl rfl (by decide) (Or.inr (Or.inl rfl))
theorem okJ9_floorMod_7cf53 : mm_YK zJ9_floorMod_7cf53 := mm_ykc ic7 ne7 (by decide +kernel) (mm_t1 (mm_tq1 (List.mem_of_getElem? (i := 223) rfl)) rfl) rfl rfl (by decide) (Or.inr (Or.inl rfl))
theorem okJ9_max_7cf53 : mm_YK zJ9_max_7cf53 := mm_ykc ic7 ne7 (by decide +kernel) (mm_t1 (mm_tq2 (List.mem_of_getElem? (i := 220) rfl)) rfl) rfl rfl (by decide) (Or.inr (Or.inl rfl))
theorem okJ9_min_7cf53 : mm_YK zJ9_min_7cf53 := mm_ykc ic7 ne7 (by decide +kernel) (mm_t1 (mm_tq2 (List.mem_of_getElem? (i := 108) rfl)) rfl) rfl rfl (by decide) (Or.inr (Or.inl rfl))
theorem lk0_34 : mm_LK 0 34 false zJ9_floorMod_7cf53 := mm_lks okJ9_floorMod_7cf53 (mm_t1 (mm_tq4 (List.mem_of_getElem? (i := 100) rfl)) rfl) (mm_t1 (mm_tq1 (List.mem_of_getElem? (i := 222) rfl)) rfl) pdm8
set_option maxRecDepth 100000 in
theorem mm_okM0 : ∀ e ∈ mm_M0, mm_LK 0 e.1 e.2.1 e.2.2 := List.forall_mem_cons.mpr ⟨lk0_34, fun _ h => absurd h List.not_mem_nil⟩
theorem lk1_54 : mm_LK 1 54 true zX0_clear := mm_lkv okX0_clear (mm_t1 (mm_tq1 (List.mem_of_getElem? (i := 204) rfl)) rfl) (mm_t1 (mm_tq1 (List.mem_of_getElem? (i := 205) rfl)) rfl) (mm_t1 (mm_tq1 (List.mem_of_getElem? (i := 206) rfl)) rfl) ⟨_, rfl, rfl⟩ pdm1
theorem lk1_57 : mm_LK 1 57 true zX2_layRing := mm_lkv okX2_layRing (mm_t1 (mm_tq1 (List.mem_of_getElem? (i := 208) rfl)) rfl) (mm_t1 (mm_tq1 (List.mem_of_getElem? (i := 209) rfl)) rfl) (mm_t1 (mm_tq1 (List.mem_of_getElem? (i := 210) rfl)) rfl) ⟨_, rfl, rfl⟩ pdm10
theorem lk1_61 : mm_LK 1 61 true zX2_copyOf := mm_lkv okX2_copyOf (mm_t1 (mm_tq3 (List.mem_of_getElem? (i := 15) rfl)) rfl) (mm_t1 (mm_tq3 (List.mem_of_getElem? (i := 16) rfl)) rfl) (mm_t1 (mm_tq3 (List.mem_of_getElem? (i := 17) rfl)) rfl) ⟨_, rfl, rfl⟩ pdm30
theorem lk1_65 : mm_LK 1 65 true zX0_copyOf := mm_lkv okX0_copyOf (mm_t1 (mm_tq3 (List.mem_of_getElem? (i := 22) rfl)) rfl) (mm_t1 (mm_tq3 (List.mem_of_getElem? (i := 23) rfl)) rfl) (mm_t1 (mm_tq3 (List.mem_of_getElem? (i := 24) rfl)) rfl) ⟨_, rfl, rfl⟩ pdm22
theorem lk1_74 : mm_LK 1 74 true zX2_flip := mm_lkv okX2_flip (mm_t1 (mm_tq2 (List.mem_of_getElem? (i := 61) rfl)) rfl) (mm_t1 (mm_tq2 (List.mem_of_getElem? (i := 62) rfl)) rfl) (mm_t1 (mm_tq2 (List.mem_of_getElem? (i := 63) rfl)) rfl) ⟨_, rfl, rfl⟩ pdm5
theorem lk1_78 : mm_LK 1 78 true zX0_write := mm_lkv okX0_write (mm_t1 (mm_tq2 (List.mem_of_getElem? (i := 73) rfl)) rfl) (mm_t1 (mm_tq2 (List.mem_of_getElem? (i := 74) rfl)) rfl) (mm_t1 (mm_tq2 (List.mem_of_getElem? (i := 75) rfl)) rfl) ⟨_, rfl, rfl⟩ pdm14
theorem lk1_82 : mm_LK 1 82 true zX2_shrink := mm_lkv okX2_shrink (mm_t1 (mm_tq2 (List.mem_of_getElem? (i := 97) rfl)) rfl) (mm_t1 (mm_tq2 (List.mem_of_getElem? (i := 98) rfl)) rfl) (mm_t1 (mm_tq2 (List.mem_of_getElem? (i := 99) rfl)) rfl) ⟨_, rfl, rfl⟩ pdm4
theorem lk1_86 : mm_LK 1 86 true zX2_split := mm_lkv okX2_split (mm_t1 (mm_tq2 (List.mem_of_getElem? (i := 129) rfl)) rfl) (mm_t1 (mm_tq2 (List.mem_of_getElem? (i := 130) rfl)) rfl) (mm_t1 (mm_tq2 (List.mem_of_getElem? (i := 131) rfl)) rfl) ⟨_, rfl, rfl⟩ pdm13
theorem lk1_90 : mm_LK 1 90 true zX2_join := mm_lkv okX2_join (mm_t1 (mm_tq2 (List.mem_of_getElem? (i := 176) rfl)) rfl) (mm_t1 (mm_tq2 (List.mem_of_getElem? (i := 177) rfl)) rfl) (mm_t1 (mm_tq2 (List.mem_of_getElem? (i := 178) rfl)) rfl) ⟨_, rfl, rfl⟩ pdm4
theorem lk1_93 : mm_LK 1 93 true zX2_growAreas := mm_lkv okX2_growAreas (mm_t1 (mm_tq2 (List.mem_of_getElem? (i := 209) rfl)) rfl) (mm_t1 (mm_tq2 (List.mem_of_getElem? (i := 210) rfl)) rfl) (mm_t1 (mm_tq2 (List.mem_of_getElem? (i := 211) rfl)) rfl) ⟨_, rfl, rfl⟩ pdm5
theorem lk1_96 : mm_LK 1 96 true zX2_stretchWalls := mm_lkv okX2_stretchWalls (mm_t1 (mm_tq2 (List.mem_of_getElem? (i := 214) rfl)) rfl) (mm_t1 (mm_tq2 (List.mem_of_getElem? (i := 215) rfl)) rfl) (mm_t1 (mm_tq2 (List.mem_of_getElem? (i := 216) rfl)) rfl) ⟨_, rfl, rfl⟩ pdm1
theorem lk1_99 : mm_LK 1 99 true zX2_hasWall := mm_lkv okX2_hasWall (mm_t1 (mm_tq2 (List.mem_of_getElem? (i := 197) rfl)) rfl) (mm_t1 (mm_tq2 (List.mem_of_getElem? (i := 35) rfl)) rfl) (mm_t1 (mm_tq2 (List.mem_of_getElem? (i := 36) rfl)) rfl) ⟨_, rfl, rfl⟩ pdm7
theorem lk1_106 : mm_LK 1 106 true zX2_canFlip := mm_lkv okX2_canFlip (mm_t1 (mm_tq2 (List.mem_of_getElem? (i := 198) rfl)) rfl) (mm_t1 (mm_tq2 (List.mem_of_getElem? (i := 43) rfl)) rfl) (mm_t1 (mm_tq2 (List.mem_of_getElem? (i := 44) rfl)) rfl) ⟨_, rfl, rfl⟩ pdm7
theorem lk1_109 : mm_LK 1 109 true zX1_flipWall := mm_lkv okX1_flipWall (mm_t1 (mm_tq2 (List.mem_of_getElem? (i := 200) rfl)) rfl) (mm_t1 (mm_tq2 (List.mem_of_getElem? (i := 58) rfl)) rfl) (mm_t1 (mm_tq2 (List.mem_of_getElem? (i := 59) rfl)) rfl) ⟨_, rfl, rfl⟩ pdm5
theorem lk1_112 : mm_LK 1 112 true zX2_hasCell := mm_lkv okX2_hasCell (mm_t1 (mm_tq2 (List.mem_of_getElem? (i := 221) rfl)) rfl) (mm_t1 (mm_tq2 (List.mem_of_getElem? (i := 27) rfl)) rfl) (mm_t1 (mm_tq2 (List.mem_of_getElem? (i := 28) rfl)) rfl) ⟨_, rfl, rfl⟩ pdm7
theorem lk1_118 : mm_LK 1 118 true zX1_giveWay := mm_lkv okX1_giveWay (mm_t1 (mm_tq2 (List.mem_of_getElem? (i := 222) rfl)) rfl) (mm_t1 (mm_tq2 (List.mem_of_getElem? (i := 224) rfl)) rfl) (mm_mem (i := 14) rfl rfl) ⟨_, rfl, rfl⟩ pdm5
theorem lk1_124 : mm_LK 1 124 true zX2_shortestSide := mm_lkv okX2_shortestSide (mm_t1 (mm_tq2 (List.mem_of_getElem? (i := 226) rfl)) rfl) (mm_t1 (mm_tq2 (List.mem_of_getElem? (i := 227) rfl)) rfl) (mm_t1 (mm_tq2 (List.mem_of_getElem? (i := 228) rfl)) rfl) ⟨_, rfl, rfl⟩ pdm4
theorem lk1_127 : mm_LK 1 127 true zX2_canShrink := mm_lkv okX2_canShrink (mm_t1 (mm_tq2 (List.mem_of_getElem? (i := 231) rfl)) rfl) (mm_t1 (mm_tq2 (List.mem_of_getElem? (i := 82) rfl)) rfl) (mm_t1 (mm_tq2 (List.mem_of_getElem? (i := 83) rfl)) rfl) ⟨_, rfl, rfl⟩ pdm7
theorem lk1_130 : mm_LK 1 130 true zX1_shrinkCell := mm_lkv okX1_shrinkCell (mm_t1 (mm_tq2 (List.mem_of_getElem? (i := 232) rfl)) rfl) (mm_t1 (mm_tq2 (List.mem_of_getElem? (i := 94) rfl)) rfl) (mm_t1 (mm_tq2 (List.mem_of_getElem? (i := 95) rfl)) rfl) ⟨_, rfl, rfl⟩ pdm4
theorem lk1_134 : mm_LK 1 134 true zX2_easiestWall := mm_lkv okX2_easiestWall (mm_t1 (mm_tq3 (List.mem_of_getElem? (i := 2) rfl)) rfl) (mm_t1 (mm_tq3 (List.mem_of_getElem? (i := 3) rfl)) rfl) (mm_t1 (mm_tq3 (List.mem_of_getElem? (i := 4) rfl)) rfl) ⟨_, rfl, rfl⟩ pdm0
theorem lk1_139 : mm_LK 1 139 true zX2_easing := mm_lkv okX2_easing (mm_t1 (mm_tq2 (List.mem_of_getElem? (i := 199) rfl)) rfl) (mm_t1 (mm_tq2 (List.mem_of_getElem? (i := 54) rfl)) rfl) (mm_t1 (mm_tq2 (List.mem_of_getElem? (i := 55) rfl)) rfl) ⟨_, rfl, rfl⟩ pdm4
set_option maxRecDepth 100000 in
theorem mm_okM1 : ∀ e ∈ mm_M1, mm_LK 1 e.1 e.2.1 e.2.2 := List.forall_mem_cons.mpr ⟨lk1_54, List.forall_mem_cons.mpr ⟨lk1_57, List.forall_mem_cons.mpr ⟨lk1_61, List.forall_mem_cons.mpr ⟨lk1_65, List.forall_mem_cons.mpr ⟨lk1_74, List.forall_mem_cons.mpr ⟨lk1_78, List.forall_mem_cons.mpr ⟨lk1_82, List.forall_mem_cons.mpr ⟨lk1_86, List.forall_mem_cons.mpr ⟨lk1_90, List.forall_mem_cons.mpr ⟨lk1_93, List.forall_mem_cons.mpr ⟨lk1_96, List.forall_mem_cons.mpr ⟨lk1_99, List.forall_mem_cons.mpr ⟨lk1_106, List.forall_mem_cons.mpr ⟨lk1_109, List.forall_mem_cons.mpr ⟨lk1_112, List.forall_mem_cons.mpr ⟨lk1_118, List.forall_mem_cons.mpr ⟨lk1_124, List.forall_mem_cons.mpr ⟨lk1_127, List.forall_mem_cons.mpr ⟨lk1_130, List.forall_mem_cons.mpr ⟨lk1_134, List.forall_mem_cons.mpr ⟨lk1_139, fun _ h => absurd h List.not_mem_nil⟩⟩⟩⟩⟩⟩⟩⟩⟩⟩⟩⟩⟩⟩⟩⟩⟩⟩⟩⟩⟩
theorem lk2_42 : mm_LK 2 42 true zX2_layCell := mm_lkv okX2_layCell (mm_t1 (mm_tq1 (List.mem_of_getElem? (i := 212) rfl)) rfl) (mm_t1 (mm_tq1 (List.mem_of_getElem? (i := 214) rfl)) rfl) (mm_mem (i := 0) rfl rfl) ⟨_, rfl, rfl⟩ pdm18
theorem lk2_46 : mm_LK 2 46 false zX2_halfOnRing := mm_lks okX2_halfOnRing (mm_t1 (mm_tq1 (List.mem_of_getElem? (i := 216) rfl)) rfl) (mm_t1 (mm_tq1 (List.mem_of_getElem? (i := 217) rfl)) rfl) pdm20
theorem lk2_50 : mm_LK 2 50 true zX2_link := mm_lkv okX2_link (mm_t1 (mm_tq1 (List.mem_of_getElem? (i := 226) rfl)) rfl) (mm_t1 (mm_tq1 (List.mem_of_getElem? (i := 228) rfl)) rfl) (mm_mem (i := 1) rfl rfl) ⟨_, rfl, rfl⟩ pdm10
theorem lk2_57 : mm_LK 2 57 false zX2_over := mm_lks okX2_over (mm_t1 (mm_tq1 (List.mem_of_getElem? (i := 230) rfl)) rfl) (mm_t1 (mm_tq1 (List.mem_of_getElem? (i := 231) rfl)) rfl) pdm8
theorem lk2_64 : mm_LK 2 64 true zX2_setRound := mm_lkv okX2_setRound (mm_t1 (mm_tq1 (List.mem_of_getElem? (i := 233) rfl)) rfl) (mm_t1 (mm_tq1 (List.mem_of_getElem? (i := 235) rfl)) rfl) (mm_mem (i := 2) rfl rfl) ⟨_, rfl, rfl⟩ pdm14
theorem lk2_68 : mm_LK 2 68 false zJ9_floorMod_7cf53 := mm_lks okJ9_floorMod_7cf53 (mm_t1 (mm_tq1 (List.mem_of_getElem? (i := 221) rfl)) rfl) (mm_t1 (mm_tq1 (List.mem_of_getElem? (i := 222) rfl)) rfl) pdm8
theorem lk2_73 : mm_LK 2 73 true zX2_firstHalf := mm_lkv okX2_firstHalf (mm_t1 (mm_tq2 (List.mem_of_getElem? (i := 85) rfl)) rfl) (mm_t1 (mm_tq2 (List.mem_of_getElem? (i := 86) rfl)) rfl) (mm_t1 (mm_tq2 (List.mem_of_getElem? (i := 87) rfl)) rfl) ⟨_, rfl, rfl⟩ pdm4
theorem lk2_77 : mm_LK 2 77 true zX2_endOf := mm_lkv okX2_endOf (mm_t1 (mm_tq2 (List.mem_of_getElem? (i := 46) rfl)) rfl) (mm_t1 (mm_tq2 (List.mem_of_getElem? (i := 47) rfl)) rfl) (mm_t1 (mm_tq2 (List.mem_of_getElem? (i := 48) rfl)) rfl) ⟨_, rfl, rfl⟩ pdm4
theorem lk2_80 : mm_LK 2 80 false zX2_areFour := mm_lks okX2_areFour (mm_t1 (mm_tq2 (List.mem_of_getElem? (i := 50) rfl)) rfl) (mm_t1 (mm_tq2 (List.mem_of_getElem? (i := 51) rfl)) rfl) pdm19
theorem lk2_84 : mm_LK 2 84 true zX2_unlink := mm_lkv okX2_unlink (mm_t1 (mm_tq2 (List.mem_of_getElem? (i := 65) rfl)) rfl) (mm_t1 (mm_tq2 (List.mem_of_getElem? (i := 67) rfl)) rfl) (mm_mem (i := 3) rfl rfl) ⟨_, rfl, rfl⟩ pdm5
theorem lk2_88 : mm_LK 2 88 true zX2_insert := mm_lkv okX2_insert (mm_t1 (mm_tq2 (List.mem_of_getElem? (i := 69) rfl)) rfl) (mm_t1 (mm_tq2 (List.mem_of_getElem? (i := 71) rfl)) rfl) (mm_mem (i := 4) rfl rfl) ⟨_, rfl, rfl⟩ pdm14
theorem lk2_91 : mm_LK 2 91 true zX2_hasWall := mm_lkv okX2_hasWall (mm_t1 (mm_tq2 (List.mem_of_getElem? (i := 101) rfl)) rfl) (mm_t1 (mm_tq2 (List.mem_of_getElem? (i := 35) rfl)) rfl) (mm_t1 (mm_tq2 (List.mem_of_getElem? (i := 36) rfl)) rfl) ⟨_, rfl, rfl⟩ pdm7
theorem lk2_95 : mm_LK 2 95 true zX2_easing := mm_lkv okX2_easing (mm_t1 (mm_tq3 (List.mem_of_getElem? (i := 6) rfl)) rfl) (mm_t1 (mm_tq2 (List.mem_of_getElem? (i := 54) rfl)) rfl) (mm_t1 (mm_tq2 (List.mem_of_getElem? (i := 55) rfl)) rfl) ⟨_, rfl, rfl⟩ pdm4
theorem lk2_98 : mm_LK 2 98 true zX2_canFlip := mm_lkv okX2_canFlip (mm_t1 (mm_tq2 (List.mem_of_getElem? (i := 230) rfl)) rfl) (mm_t1 (mm_tq2 (List.mem_of_getElem? (i := 43) rfl)) rfl) (mm_t1 (mm_tq2 (List.mem_of_getElem? (i := 44) rfl)) rfl) ⟨_, rfl, rfl⟩ pdm7
theorem lk2_101 : mm_LK 2 101 true zX2_across := mm_lkv okX2_across (mm_t1 (mm_tq2 (List.mem_of_getElem? (i := 89) rfl)) rfl) (mm_t1 (mm_tq2 (List.mem_of_getElem? (i := 90) rfl)) rfl) (mm_t1 (mm_tq2 (List.mem_of_getElem? (i := 91) rfl)) rfl) ⟨_, rfl, rfl⟩ pdm4
theorem lk2_104 : mm_LK 2 104 true zX2_greater := mm_lkv okX2_greater (mm_t1 (mm_tq2 (List.mem_of_getElem? (i := 102) rfl)) rfl) (mm_t1 (mm_tq2 (List.mem_of_getElem? (i := 104) rfl)) rfl) (mm_mem (i := 5) rfl rfl) ⟨_, rfl, rfl⟩ pdm9
theorem lk2_107 : mm_LK 2 107 true zX2_dropWall := mm_lkv okX2_dropWall (mm_t1 (mm_tq2 (List.mem_of_getElem? (i := 109) rfl)) rfl) (mm_t1 (mm_tq2 (List.mem_of_getElem? (i := 111) rfl)) rfl) (mm_mem (i := 6) rfl rfl) ⟨_, rfl, rfl⟩ pdm5
theorem lk2_110 : mm_LK 2 110 true zX2_dropCell := mm_lkv okX2_dropCell (mm_t1 (mm_tq2 (List.mem_of_getElem? (i := 113) rfl)) rfl) (mm_t1 (mm_tq2 (List.mem_of_getElem? (i := 115) rfl)) rfl) (mm_mem (i := 7) rfl rfl) ⟨_, rfl, rfl⟩ pdm5
theorem lk2_113 : mm_LK 2 113 false zJ9_min_7cf53 := mm_lks okJ9_min_7cf53 (mm_t1 (mm_tq2 (List.mem_of_getElem? (i := 106) rfl)) rfl) (mm_t1 (mm_tq2 (List.mem_of_getElem? (i := 107) rfl)) rfl) pdm8
theorem lk2_116 : mm_LK 2 116 true zX2_freeCell := mm_lkv okX2_freeCell (mm_t1 (mm_tq2 (List.mem_of_getElem? (i := 133) rfl)) rfl) (mm_t1 (mm_tq2 (List.mem_of_getElem? (i := 135) rfl)) rfl) (mm_mem (i := 8) rfl rfl) ⟨_, rfl, rfl⟩ pdm0
theorem lk2_120 : mm_LK 2 120 true zX2_howManyWalls := mm_lkv okX2_howManyWalls (mm_t1 (mm_tq2 (List.mem_of_getElem? (i := 137) rfl)) rfl) (mm_t1 (mm_tq2 (List.mem_of_getElem? (i := 138) rfl)) rfl) (mm_t1 (mm_tq2 (List.mem_of_getElem? (i := 139) rfl)) rfl) ⟨_, rfl, rfl⟩ pdm0
theorem lk2_123 : mm_LK 2 123 true zX2_handOver := mm_lkv okX2_handOver (mm_t1 (mm_tq2 (List.mem_of_getElem? (i := 141) rfl)) rfl) (mm_t1 (mm_tq2 (List.mem_of_getElem? (i := 143) rfl)) rfl) (mm_mem (i := 9) rfl rfl) ⟨_, rfl, rfl⟩ pdm17
theorem lk2_127 : mm_LK 2 127 true zX2_halve := mm_lkv okX2_halve (mm_t1 (mm_tq2 (List.mem_of_getElem? (i := 145) rfl)) rfl) (mm_t1 (mm_tq2 (List.mem_of_getElem? (i := 147) rfl)) rfl) (mm_mem (i := 10) rfl rfl) ⟨_, rfl, rfl⟩ pdm9
theorem lk2_130 : mm_LK 2 130 true zX2_addWall := mm_lkv okX2_addWall (mm_t1 (mm_tq2 (List.mem_of_getElem? (i := 149) rfl)) rfl) (mm_t1 (mm_tq2 (List.mem_of_getElem? (i := 151) rfl)) rfl) (mm_mem (i := 11) rfl rfl) ⟨_, rfl, rfl⟩ pdm13
theorem lk2_134 : mm_LK 2 134 false zJ9_floorDiv_7cf53 := mm_lks okJ9_floorDiv_7cf53 (mm_t1 (mm_tq2 (List.mem_of_getElem? (i := 153) rfl)) rfl) (mm_t1 (mm_tq2 (List.mem_of_getElem? (i := 154) rfl)) rfl) pdm8
theorem lk2_137 : mm_LK 2 137 true zX2_wallsBetween := mm_lkv okX2_wallsBetween (mm_t1 (mm_tq2 (List.mem_of_getElem? (i := 164) rfl)) rfl) (mm_t1 (mm_tq2 (List.mem_of_getElem? (i := 165) rfl)) rfl) (mm_t1 (mm_tq2 (List.mem_of_getElem? (i := 166) rfl)) rfl) ⟨_, rfl, rfl⟩ pdm9
theorem lk2_140 : mm_LK 2 140 true zX2_makeOne := mm_lkv okX2_makeOne (mm_t1 (mm_tq2 (List.mem_of_getElem? (i := 180) rfl)) rfl) (mm_t1 (mm_tq2 (List.mem_of_getElem? (i := 182) rfl)) rfl) (mm_mem (i := 13) rfl rfl) ⟨_, rfl, rfl⟩ pdm10
theorem lk2_143 : mm_LK 2 143 true zX2_liesBetween := mm_lkv okX2_liesBetween (mm_t1 (mm_tq2 (List.mem_of_getElem? (i := 168) rfl)) rfl) (mm_t1 (mm_tq2 (List.mem_of_getElem? (i := 170) rfl)) rfl) (mm_mem (i := 12) rfl rfl) ⟨_, rfl, rfl⟩ pdm16
theorem lk2_147 : mm_LK 2 147 true zX2_leastBetween := mm_lkv okX2_leastBetween (mm_t1 (mm_tq4 (List.mem_of_getElem? (i := 192) rfl)) rfl) (mm_t1 (mm_tq3 (List.mem_of_getElem? (i := 49) rfl)) rfl) (mm_t1 (mm_tq3 (List.mem_of_getElem? (i := 50) rfl)) rfl) ⟨_, rfl, rfl⟩ pdm9
theorem lk2_150 : mm_LK 2 150 true zX2_hasCell := mm_lkv okX2_hasCell (mm_t1 (mm_tq2 (List.mem_of_getElem? (i := 213) rfl)) rfl) (mm_t1 (mm_tq2 (List.mem_of_getElem? (i := 27) rfl)) rfl) (mm_t1 (mm_tq2 (List.mem_of_getElem? (i := 28) rfl)) rfl) ⟨_, rfl, rfl⟩ pdm7
theorem lk2_156 : mm_LK 2 156 false zJ9_max_7cf53 := mm_lks okJ9_max_7cf53 (mm_t1 (mm_tq2 (List.mem_of_getElem? (i := 218) rfl)) rfl) (mm_t1 (mm_tq2 (List.mem_of_getElem? (i := 219) rfl)) rfl) pdm8
set_option maxRecDepth 100000 in
theorem mm_okM2 : ∀ e ∈ mm_M2, mm_LK 2 e.1 e.2.1 e.2.2 := List.forall_mem_cons.mpr ⟨lk2_42, List.forall_mem_cons.mpr ⟨lk2_46, List.forall_mem_cons.mpr ⟨lk2_50, List.forall_mem_cons.mpr ⟨lk2_57, List.forall_mem_cons.mpr ⟨lk2_64, List.forall_mem_cons.mpr ⟨lk2_68, List.forall_mem_cons.mpr ⟨lk2_73, List.forall_mem_cons.mpr ⟨lk2_77, List.forall_mem_cons.mpr ⟨lk2_80, List.forall_mem_cons.mpr ⟨lk2_84, List.forall_mem_cons.mpr ⟨lk2_88, List.forall_mem_cons.mpr ⟨lk2_91, List.forall_mem_cons.mpr ⟨lk2_95, List.forall_mem_cons.mpr ⟨lk2_98, List.forall_mem_cons.mpr ⟨lk2_101, List.forall_mem_cons.mpr ⟨lk2_104, List.forall_mem_cons.mpr ⟨lk2_107, List.forall_mem_cons.mpr ⟨lk2_110, List.forall_mem_cons.mpr ⟨lk2_113, List.forall_mem_cons.mpr ⟨lk2_116, List.forall_mem_cons.mpr ⟨lk2_120, List.forall_mem_cons.mpr ⟨lk2_123, List.forall_mem_cons.mpr ⟨lk2_127, List.forall_mem_cons.mpr ⟨lk2_130, List.forall_mem_cons.mpr ⟨lk2_134, List.forall_mem_cons.mpr ⟨lk2_137, List.forall_mem_cons.mpr ⟨lk2_140, List.forall_mem_cons.mpr ⟨lk2_143, List.forall_mem_cons.mpr ⟨lk2_147, List.forall_mem_cons.mpr ⟨lk2_150, List.forall_mem_cons.mpr ⟨lk2_156, fun _ h => absurd h List.not_mem_nil⟩⟩⟩⟩⟩⟩⟩⟩⟩⟩⟩⟩⟩⟩⟩⟩⟩⟩⟩⟩⟩⟩⟩⟩⟩⟩⟩⟩⟩⟩⟩
theorem lk3_18 : mm_LK 3 18 true zX1_copyOf := mm_lkv okX1_copyOf (mm_t1 (mm_tq3 (List.mem_of_getElem? (i := 233) rfl)) rfl) (mm_t1 (mm_tq3 (List.mem_of_getElem? (i := 12) rfl)) rfl) (mm_t1 (mm_tq3 (List.mem_of_getElem? (i := 13) rfl)) rfl) ⟨_, rfl, rfl⟩ pdm24
theorem lk3_26 : mm_LK 3 26 true zX2_strain := mm_lkv okX2_strain (mm_t1 (mm_tq3 (List.mem_of_getElem? (i := 234) rfl)) rfl) (mm_t1 (mm_tq3 (List.mem_of_getElem? (i := 183) rfl)) rfl) (mm_t1 (mm_tq3 (List.mem_of_getElem? (i := 184) rfl)) rfl) ⟨_, rfl, rfl⟩ pdm0
theorem lk3_32 : mm_LK 3 32 false zX3_mostEased := mm_lks okX3_mostEased (mm_t1 (mm_tq3 (List.mem_of_getElem? (i := 235) rfl)) rfl) (mm_t1 (mm_tq3 (List.mem_of_getElem? (i := 236) rfl)) rfl) pdm29
theorem lk3_36 : mm_LK 3 36 true zX2_hasWall := mm_lkv okX2_hasWall (mm_t1 (mm_tq4 (List.mem_of_getElem? (i := 0) rfl)) rfl) (mm_t1 (mm_tq2 (List.mem_of_getElem? (i := 35) rfl)) rfl) (mm_t1 (mm_tq2 (List.mem_of_getElem? (i := 36) rfl)) rfl) ⟨_, rfl, rfl⟩ pdm7
theorem lk3_40 : mm_LK 3 40 true zX2_canFlip := mm_lkv okX2_canFlip (mm_t1 (mm_tq4 (List.mem_of_getElem? (i := 1) rfl)) rfl) (mm_t1 (mm_tq2 (List.mem_of_getElem? (i := 43) rfl)) rfl) (mm_t1 (mm_tq2 (List.mem_of_getElem? (i := 44) rfl)) rfl) ⟨_, rfl, rfl⟩ pdm7
theorem lk3_43 : mm_LK 3 43 true zX2_easing := mm_lkv okX2_easing (mm_t1 (mm_tq3 (List.mem_of_getElem? (i := 239) rfl)) rfl) (mm_t1 (mm_tq2 (List.mem_of_getElem? (i := 54) rfl)) rfl) (mm_t1 (mm_tq2 (List.mem_of_getElem? (i := 55) rfl)) rfl) ⟨_, rfl, rfl⟩ pdm4
theorem lk3_47 : mm_LK 3 47 true zX2_flip := mm_lkv okX2_flip (mm_t1 (mm_tq4 (List.mem_of_getElem? (i := 2) rfl)) rfl) (mm_t1 (mm_tq2 (List.mem_of_getElem? (i := 62) rfl)) rfl) (mm_t1 (mm_tq2 (List.mem_of_getElem? (i := 63) rfl)) rfl) ⟨_, rfl, rfl⟩ pdm5
theorem lk3_51 : mm_LK 3 51 false zJ9_max_7cf53 := mm_lks okJ9_max_7cf53 (mm_t1 (mm_tq4 (List.mem_of_getElem? (i := 3) rfl)) rfl) (mm_t1 (mm_tq2 (List.mem_of_getElem? (i := 219) rfl)) rfl) pdm8
theorem lk3_57 : mm_LK 3 57 true zX2_easiestWall := mm_lkv okX2_easiestWall (mm_t1 (mm_tq3 (List.mem_of_getElem? (i := 238) rfl)) rfl) (mm_t1 (mm_tq3 (List.mem_of_getElem? (i := 3) rfl)) rfl) (mm_t1 (mm_tq3 (List.mem_of_getElem? (i := 4) rfl)) rfl) ⟨_, rfl, rfl⟩ pdm0
theorem lk3_60 : mm_LK 3 60 false zX3_swapTo := mm_lks okX3_swapTo (mm_t1 (mm_tq4 (List.mem_of_getElem? (i := 12) rfl)) rfl) (mm_t1 (mm_tq4 (List.mem_of_getElem? (i := 13) rfl)) rfl) pdm34
theorem lk3_68 : mm_LK 3 68 false zX3_gain := mm_lks okX3_gain (mm_t1 (mm_tq4 (List.mem_of_getElem? (i := 15) rfl)) rfl) (mm_t1 (mm_tq4 (List.mem_of_getElem? (i := 16) rfl)) rfl) pdm34
theorem lk3_74 : mm_LK 3 74 true zX2_endOf := mm_lkv okX2_endOf (mm_t1 (mm_tq4 (List.mem_of_getElem? (i := 18) rfl)) rfl) (mm_t1 (mm_tq2 (List.mem_of_getElem? (i := 47) rfl)) rfl) (mm_t1 (mm_tq2 (List.mem_of_getElem? (i := 48) rfl)) rfl) ⟨_, rfl, rfl⟩ pdm4
theorem lk3_77 : mm_LK 3 77 true zX1_goOn := mm_lkv okX1_goOn (mm_t1 (mm_tq4 (List.mem_of_getElem? (i := 31) rfl)) rfl) (mm_t1 (mm_tq2 (List.mem_of_getElem? (i := 206) rfl)) rfl) (mm_t1 (mm_tq2 (List.mem_of_getElem? (i := 207) rfl)) rfl) ⟨_, rfl, rfl⟩ pdm1
theorem lk3_80 : mm_LK 3 80 true zX2_hasSidesOf := mm_lkv okX2_hasSidesOf (mm_t1 (mm_tq4 (List.mem_of_getElem? (i := 32) rfl)) rfl) (mm_t1 (mm_tq4 (List.mem_of_getElem? (i := 33) rfl)) rfl) (mm_t1 (mm_tq4 (List.mem_of_getElem? (i := 34) rfl)) rfl) ⟨_, rfl, rfl⟩ pdm31
theorem lk3_84 : mm_LK 3 84 true zX2_howManyCells := mm_lkv okX2_howManyCells (mm_t1 (mm_tq4 (List.mem_of_getElem? (i := 44) rfl)) rfl) (mm_t1 (mm_tq4 (List.mem_of_getElem? (i := 45) rfl)) rfl) (mm_t1 (mm_tq4 (List.mem_of_getElem? (i := 46) rfl)) rfl) ⟨_, rfl, rfl⟩ pdm0
theorem lk3_87 : mm_LK 3 87 true zX1_jolt := mm_lkv okX1_jolt (mm_t1 (mm_tq4 (List.mem_of_getElem? (i := 56) rfl)) rfl) (mm_t1 (mm_tq2 (List.mem_of_getElem? (i := 193) rfl)) rfl) (mm_t1 (mm_tq2 (List.mem_of_getElem? (i := 194) rfl)) rfl) ⟨_, rfl, rfl⟩ pdm13
theorem lk3_91 : mm_LK 3 91 true zX1_calm := mm_lkv okX1_calm (mm_t1 (mm_tq4 (List.mem_of_getElem? (i := 57) rfl)) rfl) (mm_t1 (mm_tq2 (List.mem_of_getElem? (i := 238) rfl)) rfl) (mm_t1 (mm_tq2 (List.mem_of_getElem? (i := 239) rfl)) rfl) ⟨_, rfl, rfl⟩ pdm0
theorem lk3_98 : mm_LK 3 98 true zX2_hasCell := mm_lkv okX2_hasCell (mm_t1 (mm_tq4 (List.mem_of_getElem? (i := 83) rfl)) rfl) (mm_t1 (mm_tq2 (List.mem_of_getElem? (i := 27) rfl)) rfl) (mm_t1 (mm_tq2 (List.mem_of_getElem? (i := 28) rfl)) rfl) ⟨_, rfl, rfl⟩ pdm7
set_option maxRecDepth 100000 in
theorem mm_okM3 : ∀ e ∈ mm_M3, mm_LK 3 e.1 e.2.1 e.2.2 := List.forall_mem_cons.mpr ⟨lk3_18, List.forall_mem_cons.mpr ⟨lk3_26, List.forall_mem_cons.mpr ⟨lk3_32, List.forall_mem_cons.mpr ⟨lk3_36, List.forall_mem_cons.mpr ⟨lk3_40, List.forall_mem_cons.mpr ⟨lk3_43, List.forall_mem_cons.mpr ⟨lk3_47, List.forall_mem_cons.mpr ⟨lk3_51, List.forall_mem_cons.mpr ⟨lk3_57, List.forall_mem_cons.mpr ⟨lk3_60, List.forall_mem_cons.mpr ⟨lk3_68, List.forall_mem_cons.mpr ⟨lk3_74, List.forall_mem_cons.mpr ⟨lk3_77, List.forall_mem_cons.mpr ⟨lk3_80, List.forall_mem_cons.mpr ⟨lk3_84, List.forall_mem_cons.mpr ⟨lk3_87, List.forall_mem_cons.mpr ⟨lk3_91, List.forall_mem_cons.mpr ⟨lk3_98, fun _ h => absurd h List.not_mem_nil⟩⟩⟩⟩⟩⟩⟩⟩⟩⟩⟩⟩⟩⟩⟩⟩⟩⟩
theorem lk4_24 : mm_LK 4 24 true zX2_hasCell := mm_lkv okX2_hasCell (mm_t1 (mm_tq3 (List.mem_of_getElem? (i := 64) rfl)) rfl) (mm_t1 (mm_tq2 (List.mem_of_getElem? (i := 27) rfl)) rfl) (mm_t1 (mm_tq2 (List.mem_of_getElem? (i := 28) rfl)) rfl) ⟨_, rfl, rfl⟩ pdm7
theorem lk4_30 : mm_LK 4 30 true zX2_firstHalf := mm_lkv okX2_firstHalf (mm_t1 (mm_tq3 (List.mem_of_getElem? (i := 65) rfl)) rfl) (mm_t1 (mm_tq2 (List.mem_of_getElem? (i := 86) rfl)) rfl) (mm_t1 (mm_tq2 (List.mem_of_getElem? (i := 87) rfl)) rfl) ⟨_, rfl, rfl⟩ pdm4
theorem lk4_34 : mm_LK 4 34 true zX4_clearDistances := mm_lkv okX4_clearDistances (mm_t1 (mm_tq3 (List.mem_of_getElem? (i := 60) rfl)) rfl) (mm_t1 (mm_tq3 (List.mem_of_getElem? (i := 62) rfl)) rfl) (mm_mem (i := 16) rfl rfl) ⟨_, rfl, rfl⟩ pdm30
theorem lk4_38 : mm_LK 4 38 true zX4_spreadWithin := mm_lkv okX4_spreadWithin (mm_t1 (mm_tq3 (List.mem_of_getElem? (i := 66) rfl)) rfl) (mm_t1 (mm_tq3 (List.mem_of_getElem? (i := 68) rfl)) rfl) (mm_mem (i := 17) rfl rfl) ⟨_, rfl, rfl⟩ pdm35
theorem lk4_49 : mm_LK 4 49 true zX2_across := mm_lkv okX2_across (mm_t1 (mm_tq3 (List.mem_of_getElem? (i := 70) rfl)) rfl) (mm_t1 (mm_tq2 (List.mem_of_getElem? (i := 90) rfl)) rfl) (mm_t1 (mm_tq2 (List.mem_of_getElem? (i := 91) rfl)) rfl) ⟨_, rfl, rfl⟩ pdm4
theorem lk4_55 : mm_LK 4 55 true zX4_leastNearer := mm_lkv okX4_leastNearer (mm_t1 (mm_tq3 (List.mem_of_getElem? (i := 95) rfl)) rfl) (mm_t1 (mm_tq3 (List.mem_of_getElem? (i := 97) rfl)) rfl) (mm_mem (i := 18) rfl rfl) ⟨_, rfl, rfl⟩ pdm32
theorem lk4_68 : mm_LK 4 68 false zX4_spot := mm_lks okX4_spot (mm_t1 (mm_tq3 (List.mem_of_getElem? (i := 147) rfl)) rfl) (mm_t1 (mm_tq3 (List.mem_of_getElem? (i := 148) rfl)) rfl) pdm12
theorem lk4_72 : mm_LK 4 72 true zX4_put := mm_lkv okX4_put (mm_t1 (mm_tq3 (List.mem_of_getElem? (i := 150) rfl)) rfl) (mm_t1 (mm_tq3 (List.mem_of_getElem? (i := 152) rfl)) rfl) (mm_mem (i := 19) rfl rfl) ⟨_, rfl, rfl⟩ pdm10
theorem lk4_76 : mm_LK 4 76 true zX4_goRound := mm_lkv okX4_goRound (mm_t1 (mm_tq3 (List.mem_of_getElem? (i := 154) rfl)) rfl) (mm_t1 (mm_tq3 (List.mem_of_getElem? (i := 156) rfl)) rfl) (mm_mem (i := 20) rfl rfl) ⟨_, rfl, rfl⟩ pdm36
theorem lk4_86 : mm_LK 4 86 false zX4_isNear := mm_lks okX4_isNear (mm_t1 (mm_tq3 (List.mem_of_getElem? (i := 158) rfl)) rfl) (mm_t1 (mm_tq3 (List.mem_of_getElem? (i := 159) rfl)) rfl) pdm6
set_option maxRecDepth 100000 in
theorem mm_okM4 : ∀ e ∈ mm_M4, mm_LK 4 e.1 e.2.1 e.2.2 := List.forall_mem_cons.mpr ⟨lk4_24, List.forall_mem_cons.mpr ⟨lk4_30, List.forall_mem_cons.mpr ⟨lk4_34, List.forall_mem_cons.mpr ⟨lk4_38, List.forall_mem_cons.mpr ⟨lk4_49, List.forall_mem_cons.mpr ⟨lk4_55, List.forall_mem_cons.mpr ⟨lk4_68, List.forall_mem_cons.mpr ⟨lk4_72, List.forall_mem_cons.mpr ⟨lk4_76, List.forall_mem_cons.mpr ⟨lk4_86, fun _ h => absurd h List.not_mem_nil⟩⟩⟩⟩⟩⟩⟩⟩⟩⟩
theorem lk5_34 : mm_LK 5 34 true zX1_begin := mm_lkv okX1_begin (mm_t1 (mm_tq1 (List.mem_of_getElem? (i := 200) rfl)) rfl) (mm_t1 (mm_tq1 (List.mem_of_getElem? (i := 201) rfl)) rfl) (mm_t1 (mm_tq1 (List.mem_of_getElem? (i := 202) rfl)) rfl) ⟨_, rfl, rfl⟩ pdm10
theorem lk5_38 : mm_LK 5 38 true zX1_refuse := mm_lkv okX1_refuse (mm_t1 (mm_tq2 (List.mem_of_getElem? (i := 14) rfl)) rfl) (mm_t1 (mm_tq2 (List.mem_of_getElem? (i := 15) rfl)) rfl) (mm_t1 (mm_tq2 (List.mem_of_getElem? (i := 16) rfl)) rfl) ⟨_, rfl, rfl⟩ pdm4
theorem lk5_50 : mm_LK 5 50 true zX2_hasCell := mm_lkv okX2_hasCell (mm_t1 (mm_tq2 (List.mem_of_getElem? (i := 26) rfl)) rfl) (mm_t1 (mm_tq2 (List.mem_of_getElem? (i := 27) rfl)) rfl) (mm_t1 (mm_tq2 (List.mem_of_getElem? (i := 28) rfl)) rfl) ⟨_, rfl, rfl⟩ pdm7
theorem lk5_60 : mm_LK 5 60 true zX2_hasWall := mm_lkv okX2_hasWall (mm_t1 (mm_tq2 (List.mem_of_getElem? (i := 34) rfl)) rfl) (mm_t1 (mm_tq2 (List.mem_of_getElem? (i := 35) rfl)) rfl) (mm_t1 (mm_tq2 (List.mem_of_getElem? (i := 36) rfl)) rfl) ⟨_, rfl, rfl⟩ pdm7
theorem lk5_66 : mm_LK 5 66 true zX2_canFlip := mm_lkv okX2_canFlip (mm_t1 (mm_tq2 (List.mem_of_getElem? (i := 42) rfl)) rfl) (mm_t1 (mm_tq2 (List.mem_of_getElem? (i := 43) rfl)) rfl) (mm_t1 (mm_tq2 (List.mem_of_getElem? (i := 44) rfl)) rfl) ⟨_, rfl, rfl⟩ pdm7
theorem lk5_69 : mm_LK 5 69 true zX2_easing := mm_lkv okX2_easing (mm_t1 (mm_tq2 (List.mem_of_getElem? (i := 53) rfl)) rfl) (mm_t1 (mm_tq2 (List.mem_of_getElem? (i := 54) rfl)) rfl) (mm_t1 (mm_tq2 (List.mem_of_getElem? (i := 55) rfl)) rfl) ⟨_, rfl, rfl⟩ pdm4
theorem lk5_72 : mm_LK 5 72 true zX1_flipWall := mm_lkv okX1_flipWall (mm_t1 (mm_tq2 (List.mem_of_getElem? (i := 57) rfl)) rfl) (mm_t1 (mm_tq2 (List.mem_of_getElem? (i := 58) rfl)) rfl) (mm_t1 (mm_tq2 (List.mem_of_getElem? (i := 59) rfl)) rfl) ⟨_, rfl, rfl⟩ pdm5
theorem lk5_76 : mm_LK 5 76 true zX2_canShrink := mm_lkv okX2_canShrink (mm_t1 (mm_tq2 (List.mem_of_getElem? (i := 81) rfl)) rfl) (mm_t1 (mm_tq2 (List.mem_of_getElem? (i := 82) rfl)) rfl) (mm_t1 (mm_tq2 (List.mem_of_getElem? (i := 83) rfl)) rfl) ⟨_, rfl, rfl⟩ pdm7
theorem lk5_79 : mm_LK 5 79 true zX1_shrinkCell := mm_lkv okX1_shrinkCell (mm_t1 (mm_tq2 (List.mem_of_getElem? (i := 93) rfl)) rfl) (mm_t1 (mm_tq2 (List.mem_of_getElem? (i := 94) rfl)) rfl) (mm_t1 (mm_tq2 (List.mem_of_getElem? (i := 95) rfl)) rfl) ⟨_, rfl, rfl⟩ pdm4
theorem lk5_82 : mm_LK 5 82 true zX2_halfAt := mm_lkv okX2_halfAt (mm_t1 (mm_tq2 (List.mem_of_getElem? (i := 121) rfl)) rfl) (mm_t1 (mm_tq2 (List.mem_of_getElem? (i := 122) rfl)) rfl) (mm_t1 (mm_tq2 (List.mem_of_getElem? (i := 123) rfl)) rfl) ⟨_, rfl, rfl⟩ pdm9
theorem lk5_86 : mm_LK 5 86 true zX1_splitCell := mm_lkv okX1_splitCell (mm_t1 (mm_tq2 (List.mem_of_getElem? (i := 125) rfl)) rfl) (mm_t1 (mm_tq2 (List.mem_of_getElem? (i := 126) rfl)) rfl) (mm_t1 (mm_tq2 (List.mem_of_getElem? (i := 127) rfl)) rfl) ⟨_, rfl, rfl⟩ pdm13
theorem lk5_90 : mm_LK 5 90 true zX2_canJoin := mm_lkv okX2_canJoin (mm_t1 (mm_tq2 (List.mem_of_getElem? (i := 160) rfl)) rfl) (mm_t1 (mm_tq2 (List.mem_of_getElem? (i := 161) rfl)) rfl) (mm_t1 (mm_tq2 (List.mem_of_getElem? (i := 162) rfl)) rfl) ⟨_, rfl, rfl⟩ pdm7
theorem lk5_93 : mm_LK 5 93 true zX1_joinAcross := mm_lkv okX1_joinAcross (mm_t1 (mm_tq2 (List.mem_of_getElem? (i := 172) rfl)) rfl) (mm_t1 (mm_tq2 (List.mem_of_getElem? (i := 173) rfl)) rfl) (mm_t1 (mm_tq2 (List.mem_of_getElem? (i := 174) rfl)) rfl) ⟨_, rfl, rfl⟩ pdm4
theorem lk5_96 : mm_LK 5 96 false zX5_isShake := mm_lks okX5_isShake (mm_t1 (mm_tq2 (List.mem_of_getElem? (i := 188) rfl)) rfl) (mm_t1 (mm_tq2 (List.mem_of_getElem? (i := 189) rfl)) rfl) pdm15
theorem lk5_100 : mm_LK 5 100 true zX1_jolt := mm_lkv okX1_jolt (mm_t1 (mm_tq2 (List.mem_of_getElem? (i := 192) rfl)) rfl) (mm_t1 (mm_tq2 (List.mem_of_getElem? (i := 193) rfl)) rfl) (mm_t1 (mm_tq2 (List.mem_of_getElem? (i := 194) rfl)) rfl) ⟨_, rfl, rfl⟩ pdm13
theorem lk5_109 : mm_LK 5 109 true zX1_goOn := mm_lkv okX1_goOn (mm_t1 (mm_tq2 (List.mem_of_getElem? (i := 205) rfl)) rfl) (mm_t1 (mm_tq2 (List.mem_of_getElem? (i := 206) rfl)) rfl) (mm_t1 (mm_tq2 (List.mem_of_getElem? (i := 207) rfl)) rfl) ⟨_, rfl, rfl⟩ pdm1
theorem lk5_112 : mm_LK 5 112 true zX1_calm := mm_lkv okX1_calm (mm_t1 (mm_tq2 (List.mem_of_getElem? (i := 237) rfl)) rfl) (mm_t1 (mm_tq2 (List.mem_of_getElem? (i := 238) rfl)) rfl) (mm_t1 (mm_tq2 (List.mem_of_getElem? (i := 239) rfl)) rfl) ⟨_, rfl, rfl⟩ pdm0
theorem lk5_145 : mm_LK 5 145 true zX2_endOf := mm_lkv okX2_endOf (mm_t1 (mm_tq3 (List.mem_of_getElem? (i := 36) rfl)) rfl) (mm_t1 (mm_tq2 (List.mem_of_getElem? (i := 47) rfl)) rfl) (mm_t1 (mm_tq2 (List.mem_of_getElem? (i := 48) rfl)) rfl) ⟨_, rfl, rfl⟩ pdm4
theorem lk5_151 : mm_LK 5 151 false zJ9_min_7cf53 := mm_lks okJ9_min_7cf53 (mm_t1 (mm_tq3 (List.mem_of_getElem? (i := 37) rfl)) rfl) (mm_t1 (mm_tq2 (List.mem_of_getElem? (i := 107) rfl)) rfl) pdm8
theorem lk5_156 : mm_LK 5 156 false zJ9_max_7cf53 := mm_lks okJ9_max_7cf53 (mm_t1 (mm_tq3 (List.mem_of_getElem? (i := 38) rfl)) rfl) (mm_t1 (mm_tq2 (List.mem_of_getElem? (i := 219) rfl)) rfl) pdm8
theorem lk5_159 : mm_LK 5 159 true zX5_areTwo := mm_lkv okX5_areTwo (mm_t1 (mm_tq3 (List.mem_of_getElem? (i := 43) rfl)) rfl) (mm_t1 (mm_tq3 (List.mem_of_getElem? (i := 45) rfl)) rfl) (mm_mem (i := 15) rfl rfl) ⟨_, rfl, rfl⟩ pdm11
theorem lk5_163 : mm_LK 5 163 true zX2_wallsBetween := mm_lkv okX2_wallsBetween (mm_t1 (mm_tq3 (List.mem_of_getElem? (i := 47) rfl)) rfl) (mm_t1 (mm_tq2 (List.mem_of_getElem? (i := 165) rfl)) rfl) (mm_t1 (mm_tq2 (List.mem_of_getElem? (i := 166) rfl)) rfl) ⟨_, rfl, rfl⟩ pdm9
theorem lk5_166 : mm_LK 5 166 true zX2_leastBetween := mm_lkv okX2_leastBetween (mm_t1 (mm_tq3 (List.mem_of_getElem? (i := 48) rfl)) rfl) (mm_t1 (mm_tq3 (List.mem_of_getElem? (i := 49) rfl)) rfl) (mm_t1 (mm_tq3 (List.mem_of_getElem? (i := 50) rfl)) rfl) ⟨_, rfl, rfl⟩ pdm9
theorem lk5_169 : mm_LK 5 169 true zX4_spread := mm_lkv okX4_spread (mm_t1 (mm_tq3 (List.mem_of_getElem? (i := 56) rfl)) rfl) (mm_t1 (mm_tq3 (List.mem_of_getElem? (i := 57) rfl)) rfl) (mm_t1 (mm_tq3 (List.mem_of_getElem? (i := 58) rfl)) rfl) ⟨_, rfl, rfl⟩ pdm33
theorem lk5_176 : mm_LK 5 176 true zX4_howManyAt := mm_lkv okX4_howManyAt (mm_t1 (mm_tq3 (List.mem_of_getElem? (i := 75) rfl)) rfl) (mm_t1 (mm_tq3 (List.mem_of_getElem? (i := 76) rfl)) rfl) (mm_t1 (mm_tq3 (List.mem_of_getElem? (i := 77) rfl)) rfl) ⟨_, rfl, rfl⟩ pdm4
theorem lk5_179 : mm_LK 5 179 true zX4_whichAt := mm_lkv okX4_whichAt (mm_t1 (mm_tq3 (List.mem_of_getElem? (i := 83) rfl)) rfl) (mm_t1 (mm_tq3 (List.mem_of_getElem? (i := 84) rfl)) rfl) (mm_t1 (mm_tq3 (List.mem_of_getElem? (i := 85) rfl)) rfl) ⟨_, rfl, rfl⟩ pdm9
theorem lk5_182 : mm_LK 5 182 true zX4_comeNearer := mm_lkv okX4_comeNearer (mm_t1 (mm_tq3 (List.mem_of_getElem? (i := 91) rfl)) rfl) (mm_t1 (mm_tq3 (List.mem_of_getElem? (i := 92) rfl)) rfl) (mm_t1 (mm_tq3 (List.mem_of_getElem? (i := 93) rfl)) rfl) ⟨_, rfl, rfl⟩ pdm35
theorem lk5_186 : mm_LK 5 186 true zX2_howMany := mm_lkv okX2_howMany (mm_t1 (mm_tq3 (List.mem_of_getElem? (i := 107) rfl)) rfl) (mm_t1 (mm_tq3 (List.mem_of_getElem? (i := 108) rfl)) rfl) (mm_t1 (mm_tq3 (List.mem_of_getElem? (i := 109) rfl)) rfl) ⟨_, rfl, rfl⟩ pdm4
theorem lk5_189 : mm_LK 5 189 true zX2_sidesAboutAll := mm_lkv okX2_sidesAboutAll (mm_t1 (mm_tq3 (List.mem_of_getElem? (i := 111) rfl)) rfl) (mm_t1 (mm_tq3 (List.mem_of_getElem? (i := 112) rfl)) rfl) (mm_t1 (mm_tq3 (List.mem_of_getElem? (i := 113) rfl)) rfl) ⟨_, rfl, rfl⟩ pdm4
theorem lk5_192 : mm_LK 5 192 false zX5_commonDivisor := mm_lks okX5_commonDivisor (mm_t1 (mm_tq3 (List.mem_of_getElem? (i := 115) rfl)) rfl) (mm_t1 (mm_tq3 (List.mem_of_getElem? (i := 116) rfl)) rfl) pdm8
theorem lk5_195 : mm_LK 5 195 true zX2_areaOfAll := mm_lkv okX2_areaOfAll (mm_t1 (mm_tq3 (List.mem_of_getElem? (i := 122) rfl)) rfl) (mm_t1 (mm_tq3 (List.mem_of_getElem? (i := 123) rfl)) rfl) (mm_t1 (mm_tq3 (List.mem_of_getElem? (i := 124) rfl)) rfl) ⟨_, rfl, rfl⟩ pdm4
theorem lk5_198 : mm_LK 5 198 true zX2_rankOf := mm_lkv okX2_rankOf (mm_t1 (mm_tq3 (List.mem_of_getElem? (i := 135) rfl)) rfl) (mm_t1 (mm_tq3 (List.mem_of_getElem? (i := 136) rfl)) rfl) (mm_t1 (mm_tq3 (List.mem_of_getElem? (i := 137) rfl)) rfl) ⟨_, rfl, rfl⟩ pdm4
theorem lk5_201 : mm_LK 5 201 true zX4_spreadRound := mm_lkv okX4_spreadRound (mm_t1 (mm_tq3 (List.mem_of_getElem? (i := 143) rfl)) rfl) (mm_t1 (mm_tq3 (List.mem_of_getElem? (i := 144) rfl)) rfl) (mm_t1 (mm_tq3 (List.mem_of_getElem? (i := 145) rfl)) rfl) ⟨_, rfl, rfl⟩ pdm36
theorem lk5_208 : mm_LK 5 208 false zX4_spot := mm_lks okX4_spot (mm_t1 (mm_tq3 (List.mem_of_getElem? (i := 161) rfl)) rfl) (mm_t1 (mm_tq3 (List.mem_of_getElem? (i := 148) rfl)) rfl) pdm12
theorem lk5_217 : mm_LK 5 217 true zX4_gatherPieces := mm_lkv okX4_gatherPieces (mm_t1 (mm_tq3 (List.mem_of_getElem? (i := 174) rfl)) rfl) (mm_t1 (mm_tq3 (List.mem_of_getElem? (i := 175) rfl)) rfl) (mm_t1 (mm_tq3 (List.mem_of_getElem? (i := 176) rfl)) rfl) ⟨_, rfl, rfl⟩ pdm33
theorem lk5_229 : mm_LK 5 229 true zX2_strain := mm_lkv okX2_strain (mm_t1 (mm_tq3 (List.mem_of_getElem? (i := 182) rfl)) rfl) (mm_t1 (mm_tq3 (List.mem_of_getElem? (i := 183) rfl)) rfl) (mm_t1 (mm_tq3 (List.mem_of_getElem? (i := 184) rfl)) rfl) ⟨_, rfl, rfl⟩ pdm0
theorem lk5_232 : mm_LK 5 232 true zX2_turns := mm_lkv okX2_turns (mm_t1 (mm_tq3 (List.mem_of_getElem? (i := 186) rfl)) rfl) (mm_t1 (mm_tq3 (List.mem_of_getElem? (i := 187) rfl)) rfl) (mm_t1 (mm_tq3 (List.mem_of_getElem? (i := 188) rfl)) rfl) ⟨_, rfl, rfl⟩ pdm0
theorem lk5_235 : mm_LK 5 235 true zX2_sumOfAreas := mm_lkv okX2_sumOfAreas (mm_t1 (mm_tq3 (List.mem_of_getElem? (i := 190) rfl)) rfl) (mm_t1 (mm_tq3 (List.mem_of_getElem? (i := 191) rfl)) rfl) (mm_t1 (mm_tq3 (List.mem_of_getElem? (i := 192) rfl)) rfl) ⟨_, rfl, rfl⟩ pdm0
theorem lk5_238 : mm_LK 5 238 true zX2_greatestArea := mm_lkv okX2_greatestArea (mm_t1 (mm_tq3 (List.mem_of_getElem? (i := 194) rfl)) rfl) (mm_t1 (mm_tq3 (List.mem_of_getElem? (i := 195) rfl)) rfl) (mm_t1 (mm_tq3 (List.mem_of_getElem? (i := 196) rfl)) rfl) ⟨_, rfl, rfl⟩ pdm0
theorem lk5_241 : mm_LK 5 241 true zX2_leastArea := mm_lkv okX2_leastArea (mm_t1 (mm_tq3 (List.mem_of_getElem? (i := 199) rfl)) rfl) (mm_t1 (mm_tq3 (List.mem_of_getElem? (i := 200) rfl)) rfl) (mm_t1 (mm_tq3 (List.mem_of_getElem? (i := 201) rfl)) rfl) ⟨_, rfl, rfl⟩ pdm0
theorem lk5_244 : mm_LK 5 244 true zX2_sumOfLengths := mm_lkv okX2_sumOfLengths (mm_t1 (mm_tq3 (List.mem_of_getElem? (i := 204) rfl)) rfl) (mm_t1 (mm_tq3 (List.mem_of_getElem? (i := 205) rfl)) rfl) (mm_t1 (mm_tq3 (List.mem_of_getElem? (i := 206) rfl)) rfl) ⟨_, rfl, rfl⟩ pdm0
theorem lk5_247 : mm_LK 5 247 true zX2_easiestWall := mm_lkv okX2_easiestWall (mm_t1 (mm_tq3 (List.mem_of_getElem? (i := 208) rfl)) rfl) (mm_t1 (mm_tq3 (List.mem_of_getElem? (i := 3) rfl)) rfl) (mm_t1 (mm_tq3 (List.mem_of_getElem? (i := 4) rfl)) rfl) ⟨_, rfl, rfl⟩ pdm0
theorem lk5_250 : mm_LK 5 250 true zX2_flippable := mm_lkv okX2_flippable (mm_t1 (mm_tq3 (List.mem_of_getElem? (i := 209) rfl)) rfl) (mm_t1 (mm_tq3 (List.mem_of_getElem? (i := 210) rfl)) rfl) (mm_t1 (mm_tq3 (List.mem_of_getElem? (i := 211) rfl)) rfl) ⟨_, rfl, rfl⟩ pdm0
theorem lk5_253 : mm_LK 5 253 true zX2_mostSides := mm_lkv okX2_mostSides (mm_t1 (mm_tq3 (List.mem_of_getElem? (i := 213) rfl)) rfl) (mm_t1 (mm_tq3 (List.mem_of_getElem? (i := 214) rfl)) rfl) (mm_t1 (mm_tq3 (List.mem_of_getElem? (i := 215) rfl)) rfl) ⟨_, rfl, rfl⟩ pdm0
theorem lk5_256 : mm_LK 5 256 true zX2_fewestSides := mm_lkv okX2_fewestSides (mm_t1 (mm_tq3 (List.mem_of_getElem? (i := 217) rfl)) rfl) (mm_t1 (mm_tq3 (List.mem_of_getElem? (i := 218) rfl)) rfl) (mm_t1 (mm_tq3 (List.mem_of_getElem? (i := 219) rfl)) rfl) ⟨_, rfl, rfl⟩ pdm0
theorem lk5_259 : mm_LK 5 259 true zX3_leastStrain := mm_lkv okX3_leastStrain (mm_t1 (mm_tq3 (List.mem_of_getElem? (i := 229) rfl)) rfl) (mm_t1 (mm_tq3 (List.mem_of_getElem? (i := 230) rfl)) rfl) (mm_t1 (mm_tq3 (List.mem_of_getElem? (i := 231) rfl)) rfl) ⟨_, rfl, rfl⟩ pdm25
theorem lk5_263 : mm_LK 5 263 true zX3_oneSwapTo := mm_lkv okX3_oneSwapTo (mm_t1 (mm_tq4 (List.mem_of_getElem? (i := 8) rfl)) rfl) (mm_t1 (mm_tq4 (List.mem_of_getElem? (i := 9) rfl)) rfl) (mm_t1 (mm_tq4 (List.mem_of_getElem? (i := 10) rfl)) rfl) ⟨_, rfl, rfl⟩ pdm27
theorem lk5_267 : mm_LK 5 267 true zX3_twoSwapsTo := mm_lkv okX3_twoSwapsTo (mm_t1 (mm_tq4 (List.mem_of_getElem? (i := 19) rfl)) rfl) (mm_t1 (mm_tq4 (List.mem_of_getElem? (i := 20) rfl)) rfl) (mm_t1 (mm_tq4 (List.mem_of_getElem? (i := 21) rfl)) rfl) ⟨_, rfl, rfl⟩ pdm27
theorem lk5_270 : mm_LK 5 270 true zX3_stepsToAlike := mm_lkv okX3_stepsToAlike (mm_t1 (mm_tq4 (List.mem_of_getElem? (i := 27) rfl)) rfl) (mm_t1 (mm_tq4 (List.mem_of_getElem? (i := 28) rfl)) rfl) (mm_t1 (mm_tq4 (List.mem_of_getElem? (i := 29) rfl)) rfl) ⟨_, rfl, rfl⟩ pdm23
theorem lk5_274 : mm_LK 5 274 true zX3_stepsToFew := mm_lkv okX3_stepsToFew (mm_t1 (mm_tq4 (List.mem_of_getElem? (i := 40) rfl)) rfl) (mm_t1 (mm_tq4 (List.mem_of_getElem? (i := 41) rfl)) rfl) (mm_t1 (mm_tq4 (List.mem_of_getElem? (i := 42) rfl)) rfl) ⟨_, rfl, rfl⟩ pdm25
theorem lk5_278 : mm_LK 5 278 true zX3_bestSeed := mm_lkv okX3_bestSeed (mm_t1 (mm_tq4 (List.mem_of_getElem? (i := 52) rfl)) rfl) (mm_t1 (mm_tq4 (List.mem_of_getElem? (i := 53) rfl)) rfl) (mm_t1 (mm_tq4 (List.mem_of_getElem? (i := 54) rfl)) rfl) ⟨_, rfl, rfl⟩ pdm28
theorem lk5_285 : mm_LK 5 285 true zX3_swapsToRest := mm_lkv okX3_swapsToRest (mm_t1 (mm_tq4 (List.mem_of_getElem? (i := 62) rfl)) rfl) (mm_t1 (mm_tq4 (List.mem_of_getElem? (i := 63) rfl)) rfl) (mm_t1 (mm_tq4 (List.mem_of_getElem? (i := 64) rfl)) rfl) ⟨_, rfl, rfl⟩ pdm23
theorem lk5_291 : mm_LK 5 291 true zX3_goOnFrom := mm_lkv okX3_goOnFrom (mm_t1 (mm_tq4 (List.mem_of_getElem? (i := 70) rfl)) rfl) (mm_t1 (mm_tq4 (List.mem_of_getElem? (i := 71) rfl)) rfl) (mm_t1 (mm_tq4 (List.mem_of_getElem? (i := 72) rfl)) rfl) ⟨_, rfl, rfl⟩ pdm26
theorem lk5_295 : mm_LK 5 295 true zX2_howManyCells := mm_lkv okX2_howManyCells (mm_t1 (mm_tq4 (List.mem_of_getElem? (i := 74) rfl)) rfl) (mm_t1 (mm_tq4 (List.mem_of_getElem? (i := 45) rfl)) rfl) (mm_t1 (mm_tq4 (List.mem_of_getElem? (i := 46) rfl)) rfl) ⟨_, rfl, rfl⟩ pdm0
theorem lk5_298 : mm_LK 5 298 true zX3_stepsToGone := mm_lkv okX3_stepsToGone (mm_t1 (mm_tq4 (List.mem_of_getElem? (i := 79) rfl)) rfl) (mm_t1 (mm_tq4 (List.mem_of_getElem? (i := 80) rfl)) rfl) (mm_t1 (mm_tq4 (List.mem_of_getElem? (i := 81) rfl)) rfl) ⟨_, rfl, rfl⟩ pdm25
theorem lk5_301 : mm_LK 5 301 true zX3_stepsToFirst := mm_lkv okX3_stepsToFirst (mm_t1 (mm_tq4 (List.mem_of_getElem? (i := 88) rfl)) rfl) (mm_t1 (mm_tq4 (List.mem_of_getElem? (i := 89) rfl)) rfl) (mm_t1 (mm_tq4 (List.mem_of_getElem? (i := 90) rfl)) rfl) ⟨_, rfl, rfl⟩ pdm25
theorem lk5_308 : mm_LK 5 308 true zX0_read := mm_lkv okX0_read (mm_t1 (mm_tq4 (List.mem_of_getElem? (i := 96) rfl)) rfl) (mm_t1 (mm_tq4 (List.mem_of_getElem? (i := 97) rfl)) rfl) (mm_t1 (mm_tq4 (List.mem_of_getElem? (i := 98) rfl)) rfl) ⟨_, rfl, rfl⟩ pdm9
theorem lk5_313 : mm_LK 5 313 true zX2_howManyWalls := mm_lkv okX2_howManyWalls (mm_t1 (mm_tq4 (List.mem_of_getElem? (i := 105) rfl)) rfl) (mm_t1 (mm_tq2 (List.mem_of_getElem? (i := 138) rfl)) rfl) (mm_t1 (mm_tq2 (List.mem_of_getElem? (i := 139) rfl)) rfl) ⟨_, rfl, rfl⟩ pdm0
set_option maxRecDepth 100000 in
theorem mm_okM5 : ∀ e ∈ mm_M5, mm_LK 5 e.1 e.2.1 e.2.2 := List.forall_mem_cons.mpr ⟨lk5_34, List.forall_mem_cons.mpr ⟨lk5_38, List.forall_mem_cons.mpr ⟨lk5_50, List.forall_mem_cons.mpr ⟨lk5_60, List.forall_mem_cons.mpr ⟨lk5_66, List.forall_mem_cons.mpr ⟨lk5_69, List.forall_mem_cons.mpr ⟨lk5_72, List.forall_mem_cons.mpr ⟨lk5_76, List.forall_mem_cons.mpr ⟨lk5_79, List.forall_mem_cons.mpr ⟨lk5_82, List.forall_mem_cons.mpr ⟨lk5_86, List.forall_mem_cons.mpr ⟨lk5_90, List.forall_mem_cons.mpr ⟨lk5_93, List.forall_mem_cons.mpr ⟨lk5_96, List.forall_mem_cons.mpr ⟨lk5_100, List.forall_mem_cons.mpr ⟨lk5_109, List.forall_mem_cons.mpr ⟨lk5_112, List.forall_mem_cons.mpr ⟨lk5_145, List.forall_mem_cons.mpr ⟨lk5_151, List.forall_mem_cons.mpr ⟨lk5_156, List.forall_mem_cons.mpr ⟨lk5_159, List.forall_mem_cons.mpr ⟨lk5_163, List.forall_mem_cons.mpr ⟨lk5_166, List.forall_mem_cons.mpr ⟨lk5_169, List.forall_mem_cons.mpr ⟨lk5_176, List.forall_mem_cons.mpr ⟨lk5_179, List.forall_mem_cons.mpr ⟨lk5_182, List.forall_mem_cons.mpr ⟨lk5_186, List.forall_mem_cons.mpr ⟨lk5_189, List.forall_mem_cons.mpr ⟨lk5_192, List.forall_mem_cons.mpr ⟨lk5_195, List.forall_mem_cons.mpr ⟨lk5_198, List.forall_mem_cons.mpr ⟨lk5_201, List.forall_mem_cons.mpr ⟨lk5_208, List.forall_mem_cons.mpr ⟨lk5_217, List.forall_mem_cons.mpr ⟨lk5_229, List.forall_mem_cons.mpr ⟨lk5_232, List.forall_mem_cons.mpr ⟨lk5_235, List.forall_mem_cons.mpr ⟨lk5_238, List.forall_mem_cons.mpr ⟨lk5_241, List.forall_mem_cons.mpr ⟨lk5_244, List.forall_mem_cons.mpr ⟨lk5_247, List.forall_mem_cons.mpr ⟨lk5_250, List.forall_mem_cons.mpr ⟨lk5_253, List.forall_mem_cons.mpr ⟨lk5_256, List.forall_mem_cons.mpr ⟨lk5_259, List.forall_mem_cons.mpr ⟨lk5_263, List.forall_mem_cons.mpr ⟨lk5_267, List.forall_mem_cons.mpr ⟨lk5_270, List.forall_mem_cons.mpr ⟨lk5_274, List.forall_mem_cons.mpr ⟨lk5_278, List.forall_mem_cons.mpr ⟨lk5_285, List.forall_mem_cons.mpr ⟨lk5_291, List.forall_mem_cons.mpr ⟨lk5_295, List.forall_mem_cons.mpr ⟨lk5_298, List.forall_mem_cons.mpr ⟨lk5_301, List.forall_mem_cons.mpr ⟨lk5_308, List.forall_mem_cons.mpr ⟨lk5_313, fun _ h => absurd h List.not_mem_nil⟩⟩⟩⟩⟩⟩⟩⟩⟩⟩⟩⟩⟩⟩⟩⟩⟩⟩⟩⟩⟩⟩⟩⟩⟩⟩⟩⟩⟩⟩⟩⟩⟩⟩⟩⟩⟩⟩⟩⟩⟩⟩⟩⟩⟩⟩⟩⟩⟩⟩⟩⟩⟩⟩⟩⟩⟩⟩
theorem lk6_40 : mm_LK 6 40 true zX6_lay := mm_lkv okX6_lay (mm_t1 (mm_tq4 (List.mem_of_getElem? (i := 207) rfl)) rfl) (mm_t1 (mm_tq4 (List.mem_of_getElem? (i := 209) rfl)) rfl) (mm_mem (i := 22) rfl rfl) ⟨_, rfl, rfl⟩ pdm10
theorem lk6_52 : mm_LK 6 52 false zX6_copy := mm_lks okX6_copy (mm_t1 (mm_tq5 (List.mem_of_getElem? (i := 28) rfl)) rfl) (mm_t1 (mm_tq5 (List.mem_of_getElem? (i := 29) rfl)) rfl) pdm38
theorem lk6_60 : mm_LK 6 60 false zX6_halfOf := mm_lks okX6_halfOf (mm_t1 (mm_tq4 (List.mem_of_getElem? (i := 216) rfl)) rfl) (mm_t1 (mm_tq4 (List.mem_of_getElem? (i := 217) rfl)) rfl) pdm21
theorem lk6_64 : mm_LK 6 64 false zX6_sign := mm_lks okX6_sign (mm_t1 (mm_tq4 (List.mem_of_getElem? (i := 219) rfl)) rfl) (mm_t1 (mm_tq4 (List.mem_of_getElem? (i := 220) rfl)) rfl) pdm12
theorem lk6_72 : mm_LK 6 72 true zX6_refuse := mm_lkv okX6_refuse (mm_t1 (mm_tq5 (List.mem_of_getElem? (i := 41) rfl)) rfl) (mm_t1 (mm_tq5 (List.mem_of_getElem? (i := 43) rfl)) rfl) (mm_mem (i := 23) rfl rfl) ⟨_, rfl, rfl⟩ pdm4
theorem lk6_80 : mm_LK 6 80 true zX6_isWall := mm_lkv okX6_isWall (mm_t1 (mm_tq5 (List.mem_of_getElem? (i := 65) rfl)) rfl) (mm_t1 (mm_tq5 (List.mem_of_getElem? (i := 67) rfl)) rfl) (mm_mem (i := 25) rfl rfl) ⟨_, rfl, rfl⟩ pdm7
theorem lk6_84 : mm_LK 6 84 true zX6_cellOf := mm_lkv okX6_cellOf (mm_t1 (mm_tq5 (List.mem_of_getElem? (i := 82) rfl)) rfl) (mm_t1 (mm_tq5 (List.mem_of_getElem? (i := 84) rfl)) rfl) (mm_mem (i := 28) rfl rfl) ⟨_, rfl, rfl⟩ pdm4
theorem lk6_87 : mm_LK 6 87 true zX6_firstSide := mm_lkv okX6_firstSide (mm_t1 (mm_tq5 (List.mem_of_getElem? (i := 152) rfl)) rfl) (mm_t1 (mm_tq5 (List.mem_of_getElem? (i := 154) rfl)) rfl) (mm_mem (i := 43) rfl rfl) ⟨_, rfl, rfl⟩ pdm4
theorem lk6_90 : mm_LK 6 90 true zX6_next := mm_lkv okX6_next (mm_t1 (mm_tq5 (List.mem_of_getElem? (i := 90) rfl)) rfl) (mm_t1 (mm_tq5 (List.mem_of_getElem? (i := 92) rfl)) rfl) (mm_mem (i := 30) rfl rfl) ⟨_, rfl, rfl⟩ pdm4
theorem lk6_93 : mm_LK 6 93 true zX6_isCell := mm_lkv okX6_isCell (mm_t1 (mm_tq5 (List.mem_of_getElem? (i := 55) rfl)) rfl) (mm_t1 (mm_tq5 (List.mem_of_getElem? (i := 57) rfl)) rfl) (mm_mem (i := 24) rfl rfl) ⟨_, rfl, rfl⟩ pdm7
theorem lk6_96 : mm_LK 6 96 true zX6_before := mm_lkv okX6_before (mm_t1 (mm_tq5 (List.mem_of_getElem? (i := 94) rfl)) rfl) (mm_t1 (mm_tq5 (List.mem_of_getElem? (i := 96) rfl)) rfl) (mm_mem (i := 31) rfl rfl) ⟨_, rfl, rfl⟩ pdm4
theorem lk6_99 : mm_LK 6 99 true zX6_join := mm_lkv okX6_join (mm_t1 (mm_tq5 (List.mem_of_getElem? (i := 128) rfl)) rfl) (mm_t1 (mm_tq5 (List.mem_of_getElem? (i := 130) rfl)) rfl) (mm_mem (i := 38) rfl rfl) ⟨_, rfl, rfl⟩ pdm10
theorem lk6_105 : mm_LK 6 105 true zX6_over := mm_lkv okX6_over (mm_t1 (mm_tq5 (List.mem_of_getElem? (i := 86) rfl)) rfl) (mm_t1 (mm_tq5 (List.mem_of_getElem? (i := 88) rfl)) rfl) (mm_mem (i := 29) rfl rfl) ⟨_, rfl, rfl⟩ pdm4
theorem lk6_108 : mm_LK 6 108 false zX6_areFour := mm_lks okX6_areFour (mm_t1 (mm_tq5 (List.mem_of_getElem? (i := 98) rfl)) rfl) (mm_t1 (mm_tq5 (List.mem_of_getElem? (i := 99) rfl)) rfl) pdm19
theorem lk6_112 : mm_LK 6 112 true zX6_hasFour := mm_lkv okX6_hasFour (mm_t1 (mm_tq5 (List.mem_of_getElem? (i := 78) rfl)) rfl) (mm_t1 (mm_tq5 (List.mem_of_getElem? (i := 80) rfl)) rfl) (mm_mem (i := 27) rfl rfl) ⟨_, rfl, rfl⟩ pdm7
theorem lk6_115 : mm_LK 6 115 true zX6_sidesOf := mm_lkv okX6_sidesOf (mm_t1 (mm_tq5 (List.mem_of_getElem? (i := 101) rfl)) rfl) (mm_t1 (mm_tq5 (List.mem_of_getElem? (i := 103) rfl)) rfl) (mm_mem (i := 32) rfl rfl) ⟨_, rfl, rfl⟩ pdm4
theorem lk6_118 : mm_LK 6 118 true zX6_turn := mm_lkv okX6_turn (mm_t1 (mm_tq5 (List.mem_of_getElem? (i := 109) rfl)) rfl) (mm_t1 (mm_tq5 (List.mem_of_getElem? (i := 111) rfl)) rfl) (mm_mem (i := 34) rfl rfl) ⟨_, rfl, rfl⟩ pdm4
theorem lk6_121 : mm_LK 6 121 false zX6_square := mm_lks okX6_square (mm_t1 (mm_tq5 (List.mem_of_getElem? (i := 113) rfl)) rfl) (mm_t1 (mm_tq5 (List.mem_of_getElem? (i := 114) rfl)) rfl) pdm3
theorem lk6_124 : mm_LK 6 124 true zX6_leave := mm_lkv okX6_leave (mm_t1 (mm_tq5 (List.mem_of_getElem? (i := 124) rfl)) rfl) (mm_t1 (mm_tq5 (List.mem_of_getElem? (i := 126) rfl)) rfl) (mm_mem (i := 37) rfl rfl) ⟨_, rfl, rfl⟩ pdm5
theorem lk6_128 : mm_LK 6 128 true zX6_enter := mm_lkv okX6_enter (mm_t1 (mm_tq5 (List.mem_of_getElem? (i := 132) rfl)) rfl) (mm_t1 (mm_tq5 (List.mem_of_getElem? (i := 134) rfl)) rfl) (mm_mem (i := 39) rfl rfl) ⟨_, rfl, rfl⟩ pdm10
theorem lk6_131 : mm_LK 6 131 true zX6_counts := mm_lkv okX6_counts (mm_t1 (mm_tq5 (List.mem_of_getElem? (i := 136) rfl)) rfl) (mm_t1 (mm_tq5 (List.mem_of_getElem? (i := 138) rfl)) rfl) (mm_mem (i := 40) rfl rfl) ⟨_, rfl, rfl⟩ pdm14
theorem lk6_135 : mm_LK 6 135 true zX6_turnWall := mm_lkv okX6_turnWall (mm_t1 (mm_tq5 (List.mem_of_getElem? (i := 120) rfl)) rfl) (mm_t1 (mm_tq5 (List.mem_of_getElem? (i := 122) rfl)) rfl) (mm_mem (i := 36) rfl rfl) ⟨_, rfl, rfl⟩ pdm5
theorem lk6_138 : mm_LK 6 138 true zX6_notes := mm_lkv okX6_notes (mm_t1 (mm_tq5 (List.mem_of_getElem? (i := 140) rfl)) rfl) (mm_t1 (mm_tq5 (List.mem_of_getElem? (i := 142) rfl)) rfl) (mm_mem (i := 41) rfl rfl) ⟨_, rfl, rfl⟩ pdm10
theorem lk6_147 : mm_LK 6 147 true zX6_canSwap := mm_lkv okX6_canSwap (mm_t1 (mm_tq5 (List.mem_of_getElem? (i := 74) rfl)) rfl) (mm_t1 (mm_tq5 (List.mem_of_getElem? (i := 76) rfl)) rfl) (mm_mem (i := 26) rfl rfl) ⟨_, rfl, rfl⟩ pdm7
theorem lk6_150 : mm_LK 6 150 true zX6_easing := mm_lkv okX6_easing (mm_t1 (mm_tq5 (List.mem_of_getElem? (i := 105) rfl)) rfl) (mm_t1 (mm_tq5 (List.mem_of_getElem? (i := 107) rfl)) rfl) (mm_mem (i := 33) rfl rfl) ⟨_, rfl, rfl⟩ pdm4
theorem lk6_153 : mm_LK 6 153 true zX6_swaps := mm_lkv okX6_swaps (mm_t1 (mm_tq5 (List.mem_of_getElem? (i := 116) rfl)) rfl) (mm_t1 (mm_tq5 (List.mem_of_getElem? (i := 118) rfl)) rfl) (mm_mem (i := 35) rfl rfl) ⟨_, rfl, rfl⟩ pdm5
theorem lk6_156 : mm_LK 6 156 true zX6_isRicher := mm_lkv okX6_isRicher (mm_t1 (mm_tq5 (List.mem_of_getElem? (i := 160) rfl)) rfl) (mm_t1 (mm_tq5 (List.mem_of_getElem? (i := 162) rfl)) rfl) (mm_mem (i := 45) rfl rfl) ⟨_, rfl, rfl⟩ pdm11
theorem lk6_160 : mm_LK 6 160 true zX6_canVanish := mm_lkv okX6_canVanish (mm_t1 (mm_tq5 (List.mem_of_getElem? (i := 148) rfl)) rfl) (mm_t1 (mm_tq5 (List.mem_of_getElem? (i := 150) rfl)) rfl) (mm_mem (i := 42) rfl rfl) ⟨_, rfl, rfl⟩ pdm7
theorem lk6_163 : mm_LK 6 163 true zX6_vanishes := mm_lkv okX6_vanishes (mm_t1 (mm_tq5 (List.mem_of_getElem? (i := 156) rfl)) rfl) (mm_t1 (mm_tq5 (List.mem_of_getElem? (i := 158) rfl)) rfl) (mm_mem (i := 44) rfl rfl) ⟨_, rfl, rfl⟩ pdm4
theorem lk6_166 : mm_LK 6 166 true zX6_freeWall := mm_lkv okX6_freeWall (mm_t1 (mm_tq5 (List.mem_of_getElem? (i := 188) rfl)) rfl) (mm_t1 (mm_tq5 (List.mem_of_getElem? (i := 190) rfl)) rfl) (mm_mem (i := 51) rfl rfl) ⟨_, rfl, rfl⟩ pdm0
theorem lk6_170 : mm_LK 6 170 true zX6_freeCell := mm_lkv okX6_freeCell (mm_t1 (mm_tq5 (List.mem_of_getElem? (i := 168) rfl)) rfl) (mm_t1 (mm_tq5 (List.mem_of_getElem? (i := 170) rfl)) rfl) (mm_mem (i := 46) rfl rfl) ⟨_, rfl, rfl⟩ pdm0
theorem lk6_173 : mm_LK 6 173 true zX6_sideAt := mm_lkv okX6_sideAt (mm_t1 (mm_tq5 (List.mem_of_getElem? (i := 172) rfl)) rfl) (mm_t1 (mm_tq5 (List.mem_of_getElem? (i := 174) rfl)) rfl) (mm_mem (i := 47) rfl rfl) ⟨_, rfl, rfl⟩ pdm9
theorem lk6_177 : mm_LK 6 177 true zX6_cutBy := mm_lkv okX6_cutBy (mm_t1 (mm_tq5 (List.mem_of_getElem? (i := 176) rfl)) rfl) (mm_t1 (mm_tq5 (List.mem_of_getElem? (i := 178) rfl)) rfl) (mm_mem (i := 48) rfl rfl) ⟨_, rfl, rfl⟩ pdm18
theorem lk6_181 : mm_LK 6 181 true zX6_halves := mm_lkv okX6_halves (mm_t1 (mm_tq5 (List.mem_of_getElem? (i := 180) rfl)) rfl) (mm_t1 (mm_tq5 (List.mem_of_getElem? (i := 182) rfl)) rfl) (mm_mem (i := 49) rfl rfl) ⟨_, rfl, rfl⟩ pdm4
theorem lk6_184 : mm_LK 6 184 true zX6_newWall := mm_lkv okX6_newWall (mm_t1 (mm_tq5 (List.mem_of_getElem? (i := 184) rfl)) rfl) (mm_t1 (mm_tq5 (List.mem_of_getElem? (i := 186) rfl)) rfl) (mm_mem (i := 50) rfl rfl) ⟨_, rfl, rfl⟩ pdm4
theorem lk6_187 : mm_LK 6 187 true zX6_countRound := mm_lkv okX6_countRound (mm_t1 (mm_tq5 (List.mem_of_getElem? (i := 192) rfl)) rfl) (mm_t1 (mm_tq5 (List.mem_of_getElem? (i := 194) rfl)) rfl) (mm_mem (i := 52) rfl rfl) ⟨_, rfl, rfl⟩ pdm9
theorem lk6_190 : mm_LK 6 190 true zX6_wallsBetween := mm_lkv okX6_wallsBetween (mm_t1 (mm_tq5 (List.mem_of_getElem? (i := 204) rfl)) rfl) (mm_t1 (mm_tq5 (List.mem_of_getElem? (i := 206) rfl)) rfl) (mm_mem (i := 54) rfl rfl) ⟨_, rfl, rfl⟩ pdm9
theorem lk6_193 : mm_LK 6 193 true zX6_canBurst := mm_lkv okX6_canBurst (mm_t1 (mm_tq5 (List.mem_of_getElem? (i := 200) rfl)) rfl) (mm_t1 (mm_tq5 (List.mem_of_getElem? (i := 202) rfl)) rfl) (mm_mem (i := 53) rfl rfl) ⟨_, rfl, rfl⟩ pdm7
theorem lk6_196 : mm_LK 6 196 true zX6_melt := mm_lkv okX6_melt (mm_t1 (mm_tq5 (List.mem_of_getElem? (i := 208) rfl)) rfl) (mm_t1 (mm_tq5 (List.mem_of_getElem? (i := 210) rfl)) rfl) (mm_mem (i := 55) rfl rfl) ⟨_, rfl, rfl⟩ pdm10
theorem lk6_209 : mm_LK 6 209 true zX6_draw := mm_lkv okX6_draw (mm_t1 (mm_tq5 (List.mem_of_getElem? (i := 221) rfl)) rfl) (mm_t1 (mm_tq5 (List.mem_of_getElem? (i := 223) rfl)) rfl) (mm_mem (i := 57) rfl rfl) ⟨_, rfl, rfl⟩ pdm4
theorem lk6_214 : mm_LK 6 214 true zX6_shakes := mm_lkv okX6_shakes (mm_t1 (mm_tq5 (List.mem_of_getElem? (i := 217) rfl)) rfl) (mm_t1 (mm_tq5 (List.mem_of_getElem? (i := 219) rfl)) rfl) (mm_mem (i := 56) rfl rfl) ⟨_, rfl, rfl⟩ pdm13
theorem lk6_217 : mm_LK 6 217 true zX6_grows := mm_lkv okX6_grows (mm_t1 (mm_tq5 (List.mem_of_getElem? (i := 237) rfl)) rfl) (mm_t1 (mm_tq5 (List.mem_of_getElem? (i := 239) rfl)) rfl) (mm_mem (i := 59) rfl rfl) ⟨_, rfl, rfl⟩ pdm4
theorem lk6_220 : mm_LK 6 220 true zX6_shrinks := mm_lkv okX6_shrinks (mm_t1 (mm_tq6 (List.mem_of_getElem? (i := 1) rfl)) rfl) (mm_t1 (mm_tq6 (List.mem_of_getElem? (i := 3) rfl)) rfl) (mm_mem (i := 60) rfl rfl) ⟨_, rfl, rfl⟩ pdm5
theorem lk6_223 : mm_LK 6 223 true zX6_shortest := mm_lkv okX6_shortest (mm_t1 (mm_tq6 (List.mem_of_getElem? (i := 5) rfl)) rfl) (mm_t1 (mm_tq6 (List.mem_of_getElem? (i := 7) rfl)) rfl) (mm_mem (i := 61) rfl rfl) ⟨_, rfl, rfl⟩ pdm4
theorem lk6_228 : mm_LK 6 228 true zX6_step := mm_lkv okX6_step (mm_t1 (mm_tq5 (List.mem_of_getElem? (i := 233) rfl)) rfl) (mm_t1 (mm_tq5 (List.mem_of_getElem? (i := 235) rfl)) rfl) (mm_mem (i := 58) rfl rfl) ⟨_, rfl, rfl⟩ pdm1
theorem lk6_231 : mm_LK 6 231 true zX6_easier := mm_lkv okX6_easier (mm_t1 (mm_tq6 (List.mem_of_getElem? (i := 17) rfl)) rfl) (mm_t1 (mm_tq6 (List.mem_of_getElem? (i := 19) rfl)) rfl) (mm_mem (i := 63) rfl rfl) ⟨_, rfl, rfl⟩ pdm0
theorem lk6_234 : mm_LK 6 234 true zX6_relaxes := mm_lkv okX6_relaxes (mm_t1 (mm_tq6 (List.mem_of_getElem? (i := 13) rfl)) rfl) (mm_t1 (mm_tq6 (List.mem_of_getElem? (i := 15) rfl)) rfl) (mm_mem (i := 62) rfl rfl) ⟨_, rfl, rfl⟩ pdm0
theorem lk6_237 : mm_LK 6 237 true zX6_areBeside := mm_lkv okX6_areBeside (mm_t1 (mm_tq6 (List.mem_of_getElem? (i := 41) rfl)) rfl) (mm_t1 (mm_tq6 (List.mem_of_getElem? (i := 43) rfl)) rfl) (mm_mem (i := 68) rfl rfl) ⟨_, rfl, rfl⟩ pdm11
theorem lk6_240 : mm_LK 6 240 true zX6_isThere := mm_lkv okX6_isThere (mm_t1 (mm_tq6 (List.mem_of_getElem? (i := 25) rfl)) rfl) (mm_t1 (mm_tq6 (List.mem_of_getElem? (i := 27) rfl)) rfl) (mm_mem (i := 64) rfl rfl) ⟨_, rfl, rfl⟩ pdm7
theorem lk6_243 : mm_LK 6 243 true zX6_lengthsOf := mm_lkv okX6_lengthsOf (mm_t1 (mm_tq6 (List.mem_of_getElem? (i := 29) rfl)) rfl) (mm_t1 (mm_tq6 (List.mem_of_getElem? (i := 31) rfl)) rfl) (mm_mem (i := 65) rfl rfl) ⟨_, rfl, rfl⟩ pdm4
theorem lk6_246 : mm_LK 6 246 true zX6_aboutOf := mm_lkv okX6_aboutOf (mm_t1 (mm_tq6 (List.mem_of_getElem? (i := 33) rfl)) rfl) (mm_t1 (mm_tq6 (List.mem_of_getElem? (i := 35) rfl)) rfl) (mm_mem (i := 66) rfl rfl) ⟨_, rfl, rfl⟩ pdm4
theorem lk6_249 : mm_LK 6 249 true zX6_neighbours := mm_lkv okX6_neighbours (mm_t1 (mm_tq6 (List.mem_of_getElem? (i := 37) rfl)) rfl) (mm_t1 (mm_tq6 (List.mem_of_getElem? (i := 39) rfl)) rfl) (mm_mem (i := 67) rfl rfl) ⟨_, rfl, rfl⟩ pdm4
theorem lk6_255 : mm_LK 6 255 false zX6_lesser := mm_lks okX6_lesser (mm_t1 (mm_tq6 (List.mem_of_getElem? (i := 55) rfl)) rfl) (mm_t1 (mm_tq6 (List.mem_of_getElem? (i := 56) rfl)) rfl) pdm8
theorem lk6_258 : mm_LK 6 258 false zX6_greater := mm_lks okX6_greater (mm_t1 (mm_tq6 (List.mem_of_getElem? (i := 58) rfl)) rfl) (mm_t1 (mm_tq6 (List.mem_of_getElem? (i := 59) rfl)) rfl) pdm8
theorem lk6_261 : mm_LK 6 261 true zX6_layFar := mm_lkv okX6_layFar (mm_t1 (mm_tq6 (List.mem_of_getElem? (i := 69) rfl)) rfl) (mm_t1 (mm_tq6 (List.mem_of_getElem? (i := 71) rfl)) rfl) (mm_mem (i := 69) rfl rfl) ⟨_, rfl, rfl⟩ pdm5
theorem lk6_264 : mm_LK 6 264 true zX6_ofKind := mm_lkv okX6_ofKind (mm_t1 (mm_tq6 (List.mem_of_getElem? (i := 93) rfl)) rfl) (mm_t1 (mm_tq6 (List.mem_of_getElem? (i := 95) rfl)) rfl) (mm_mem (i := 70) rfl rfl) ⟨_, rfl, rfl⟩ pdm9
theorem lk6_267 : mm_LK 6 267 false zX6_common := mm_lks okX6_common (mm_t1 (mm_tq6 (List.mem_of_getElem? (i := 97) rfl)) rfl) (mm_t1 (mm_tq6 (List.mem_of_getElem? (i := 98) rfl)) rfl) pdm8
theorem lk6_270 : mm_LK 6 270 false zX6_stateOf := mm_lks okX6_stateOf (mm_t1 (mm_tq6 (List.mem_of_getElem? (i := 121) rfl)) rfl) (mm_t1 (mm_tq6 (List.mem_of_getElem? (i := 122) rfl)) rfl) pdm12
theorem lk6_273 : mm_LK 6 273 true zX6_spread := mm_lkv okX6_spread (mm_t1 (mm_tq6 (List.mem_of_getElem? (i := 124) rfl)) rfl) (mm_t1 (mm_tq6 (List.mem_of_getElem? (i := 126) rfl)) rfl) (mm_mem (i := 72) rfl rfl) ⟨_, rfl, rfl⟩ pdm16
theorem lk6_281 : mm_LK 6 281 true zX6_layWays := mm_lkv okX6_layWays (mm_t1 (mm_tq6 (List.mem_of_getElem? (i := 117) rfl)) rfl) (mm_t1 (mm_tq6 (List.mem_of_getElem? (i := 119) rfl)) rfl) (mm_mem (i := 71) rfl rfl) ⟨_, rfl, rfl⟩ pdm10
theorem lk6_284 : mm_LK 6 284 true zX6_layPieces := mm_lkv okX6_layPieces (mm_t1 (mm_tq6 (List.mem_of_getElem? (i := 141) rfl)) rfl) (mm_t1 (mm_tq6 (List.mem_of_getElem? (i := 143) rfl)) rfl) (mm_mem (i := 73) rfl rfl) ⟨_, rfl, rfl⟩ pdm5
theorem lk6_288 : mm_LK 6 288 true zX6_strain := mm_lkv okX6_strain (mm_t1 (mm_tq6 (List.mem_of_getElem? (i := 149) rfl)) rfl) (mm_t1 (mm_tq6 (List.mem_of_getElem? (i := 151) rfl)) rfl) (mm_mem (i := 74) rfl rfl) ⟨_, rfl, rfl⟩ pdm0
theorem lk6_291 : mm_LK 6 291 true zX6_ofWalls := mm_lkv okX6_ofWalls (mm_t1 (mm_tq6 (List.mem_of_getElem? (i := 153) rfl)) rfl) (mm_t1 (mm_tq6 (List.mem_of_getElem? (i := 155) rfl)) rfl) (mm_mem (i := 75) rfl rfl) ⟨_, rfl, rfl⟩ pdm37
theorem lk6_295 : mm_LK 6 295 true zX6_ofCells := mm_lkv okX6_ofCells (mm_t1 (mm_tq6 (List.mem_of_getElem? (i := 157) rfl)) rfl) (mm_t1 (mm_tq6 (List.mem_of_getElem? (i := 159) rfl)) rfl) (mm_mem (i := 76) rfl rfl) ⟨_, rfl, rfl⟩ pdm4
theorem lk6_298 : mm_LK 6 298 true zX6_eased := mm_lkv okX6_eased (mm_t1 (mm_tq6 (List.mem_of_getElem? (i := 170) rfl)) rfl) (mm_t1 (mm_tq6 (List.mem_of_getElem? (i := 172) rfl)) rfl) (mm_mem (i := 77) rfl rfl) ⟨_, rfl, rfl⟩ pdm0
theorem lk6_301 : mm_LK 6 301 true zX6_think := mm_lkv okX6_think (mm_t1 (mm_tq6 (List.mem_of_getElem? (i := 174) rfl)) rfl) (mm_t1 (mm_tq6 (List.mem_of_getElem? (i := 176) rfl)) rfl) (mm_mem (i := 78) rfl rfl) ⟨_, rfl, rfl⟩ pdm1
theorem lk6_304 : mm_LK 6 304 true zX6_changes := mm_lkv okX6_changes (mm_t1 (mm_tq6 (List.mem_of_getElem? (i := 186) rfl)) rfl) (mm_t1 (mm_tq6 (List.mem_of_getElem? (i := 188) rfl)) rfl) (mm_mem (i := 80) rfl rfl) ⟨_, rfl, rfl⟩ pdm9
theorem lk6_307 : mm_LK 6 307 true zX6_bringsTo := mm_lkv okX6_bringsTo (mm_t1 (mm_tq6 (List.mem_of_getElem? (i := 182) rfl)) rfl) (mm_t1 (mm_tq6 (List.mem_of_getElem? (i := 184) rfl)) rfl) (mm_mem (i := 79) rfl rfl) ⟨_, rfl, rfl⟩ pdm9
theorem lk6_310 : mm_LK 6 310 true zX6_areAlike := mm_lkv okX6_areAlike (mm_t1 (mm_tq6 (List.mem_of_getElem? (i := 194) rfl)) rfl) (mm_t1 (mm_tq6 (List.mem_of_getElem? (i := 196) rfl)) rfl) (mm_mem (i := 81) rfl rfl) ⟨_, rfl, rfl⟩ pdm2
theorem lk6_314 : mm_LK 6 314 true zX6_endThought := mm_lkv okX6_endThought (mm_t1 (mm_tq6 (List.mem_of_getElem? (i := 198) rfl)) rfl) (mm_t1 (mm_tq6 (List.mem_of_getElem? (i := 200) rfl)) rfl) (mm_mem (i := 82) rfl rfl) ⟨_, rfl, rfl⟩ pdm1
theorem lk6_317 : mm_LK 6 317 true zX6_many := mm_lkv okX6_many (mm_t1 (mm_tq6 (List.mem_of_getElem? (i := 206) rfl)) rfl) (mm_t1 (mm_tq6 (List.mem_of_getElem? (i := 208) rfl)) rfl) (mm_mem (i := 83) rfl rfl) ⟨_, rfl, rfl⟩ pdm37
set_option maxRecDepth 100000 in
theorem mm_okM6 : ∀ e ∈ mm_M6, mm_LK 6 e.1 e.2.1 e.2.2 := List.forall_mem_cons.mpr ⟨lk6_40, List.forall_mem_cons.mpr ⟨lk6_52, List.forall_mem_cons.mpr ⟨lk6_60, List.forall_mem_cons.mpr ⟨lk6_64, List.forall_mem_cons.mpr ⟨lk6_72, List.forall_mem_cons.mpr ⟨lk6_80, List.forall_mem_cons.mpr ⟨lk6_84, List.forall_mem_cons.mpr ⟨lk6_87, List.forall_mem_cons.mpr ⟨lk6_90, List.forall_mem_cons.mpr ⟨lk6_93, List.forall_mem_cons.mpr ⟨lk6_96, List.forall_mem_cons.mpr ⟨lk6_99, List.forall_mem_cons.mpr ⟨lk6_105, List.forall_mem_cons.mpr ⟨lk6_108, List.forall_mem_cons.mpr ⟨lk6_112, List.forall_mem_cons.mpr ⟨lk6_115, List.forall_mem_cons.mpr ⟨lk6_118, List.forall_mem_cons.mpr ⟨lk6_121, List.forall_mem_cons.mpr ⟨lk6_124, List.forall_mem_cons.mpr ⟨lk6_128, List.forall_mem_cons.mpr ⟨lk6_131, List.forall_mem_cons.mpr ⟨lk6_135, List.forall_mem_cons.mpr ⟨lk6_138, List.forall_mem_cons.mpr ⟨lk6_147, List.forall_mem_cons.mpr ⟨lk6_150, List.forall_mem_cons.mpr ⟨lk6_153, List.forall_mem_cons.mpr ⟨lk6_156, List.forall_mem_cons.mpr ⟨lk6_160, List.forall_mem_cons.mpr ⟨lk6_163, List.forall_mem_cons.mpr ⟨lk6_166, List.forall_mem_cons.mpr ⟨lk6_170, List.forall_mem_cons.mpr ⟨lk6_173, List.forall_mem_cons.mpr ⟨lk6_177, List.forall_mem_cons.mpr ⟨lk6_181, List.forall_mem_cons.mpr ⟨lk6_184, List.forall_mem_cons.mpr ⟨lk6_187, List.forall_mem_cons.mpr ⟨lk6_190, List.forall_mem_cons.mpr ⟨lk6_193, List.forall_mem_cons.mpr ⟨lk6_196, List.forall_mem_cons.mpr ⟨lk6_209, List.forall_mem_cons.mpr ⟨lk6_214, List.forall_mem_cons.mpr ⟨lk6_217, List.forall_mem_cons.mpr ⟨lk6_220, List.forall_mem_cons.mpr ⟨lk6_223, List.forall_mem_cons.mpr ⟨lk6_228, List.forall_mem_cons.mpr ⟨lk6_231, List.forall_mem_cons.mpr ⟨lk6_234, List.forall_mem_cons.mpr ⟨lk6_237, List.forall_mem_cons.mpr ⟨lk6_240, List.forall_mem_cons.mpr ⟨lk6_243, List.forall_mem_cons.mpr ⟨lk6_246, List.forall_mem_cons.mpr ⟨lk6_249, List.forall_mem_cons.mpr ⟨lk6_255, List.forall_mem_cons.mpr ⟨lk6_258, List.forall_mem_cons.mpr ⟨lk6_261, List.forall_mem_cons.mpr ⟨lk6_264, List.forall_mem_cons.mpr ⟨lk6_267, List.forall_mem_cons.mpr ⟨lk6_270, List.forall_mem_cons.mpr ⟨lk6_273, List.forall_mem_cons.mpr ⟨lk6_281, List.forall_mem_cons.mpr ⟨lk6_284, List.forall_mem_cons.mpr ⟨lk6_288, List.forall_mem_cons.mpr ⟨lk6_291, List.forall_mem_cons.mpr ⟨lk6_295, List.forall_mem_cons.mpr ⟨lk6_298, List.forall_mem_cons.mpr ⟨lk6_301, List.forall_mem_cons.mpr ⟨lk6_304, List.forall_mem_cons.mpr ⟨lk6_307, List.forall_mem_cons.mpr ⟨lk6_310, List.forall_mem_cons.mpr ⟨lk6_314, List.forall_mem_cons.mpr ⟨lk6_317, fun _ h => absurd h List.not_mem_nil⟩⟩⟩⟩⟩⟩⟩⟩⟩⟩⟩⟩⟩⟩⟩⟩⟩⟩⟩⟩⟩⟩⟩⟩⟩⟩⟩⟩⟩⟩⟩⟩⟩⟩⟩⟩⟩⟩⟩⟩⟩⟩⟩⟩⟩⟩⟩⟩⟩⟩⟩⟩⟩⟩⟩⟩⟩⟩⟩⟩⟩⟩⟩⟩⟩⟩⟩⟩⟩⟩⟩
set_option maxRecDepth 100000 in
theorem mm_okM7 : ∀ e ∈ mm_M7, mm_LK 7 e.1 e.2.1 e.2.2 := fun _ h => absurd h List.not_mem_nil
theorem mm_zip {α β : Type} {P : α → Prop} {f : α → β → Bool} (hf : ∀ a b, f a b = true → P a) : ∀ {l : List α} {h : List β}, l.length = h.length → (l.zip h).all (fun q => f q.1 q.2) = true → ∀ a ∈ l, P a
  | [], _, _, _, _, hm => absurd hm List.not_mem_nil
  | a :: l, [], hl, _, _, _ => absurd hl (by simp)
  | a :: l, b :: h, hl, hq, x, hm => by
    rw [List.zip_cons_cons, List.all_cons, Bool.and_eq_true] at hq
    rcases List.mem_cons.mp hm with rfl | hm
    · exact hf _ _ hq.1
    · exact mm_zip hf (by simpa using hl) hq.2 x hm
theorem mm_okM {o idx : Nat} {b : Bool} {z : mm_Y} (h : mm_lk (mm_M o) idx = some (b, z)) : mm_LK o idx b z := by
  have hm := mm_lk_mem h
  match o, hm with
  | 0, hm => exact mm_okM0 _ hm
  | 1, hm => exact mm_okM1 _ hm
  | 2, hm => exact mm_okM2 _ hm
  | 3, hm => exact mm_okM3 _ hm
  | 4, hm => exact mm_okM4 _ hm
  | 5, hm => exact mm_okM5 _ hm
  | 6, hm => exact mm_okM6 _ hm
  | 7, hm => exact mm_okM7 _ hm
  | n + 8, hm => exact absurd hm List.not_mem_nil
/-- a field's link -/
def mm_FK (o idx ci k : Nat) : Prop := ∃ q, vwCl[ci]? = some q ∧ k < q.2.2 ∧ Cond.fieldLink (mm_cn o) idx (q.2.1 k).1 (q.2.1 k).2.1 (q.2.1 k).2.2.1 ∈ mm_tb
theorem mm_fk {o idx ci k : Nat} {q : vw_C} (h1 : vwCl[ci]? = some q) (h2 : k < q.2.2) (h3 : Cond.fieldLink (mm_cn o) idx (q.2.1 k).1 (q.2.1 k).2.1 (q.2.1 k).2.2.1 ∈ mm_tb) : mm_FK o idx ci k := ⟨q, h1, h2, h3⟩
theorem fk0_9 : mm_FK 0 9 0 0 := mm_fk (q := (RX0, TX0, 5)) rfl (by decide) (mm_t1 (mm_tq1 (List.mem_of_getElem? (i := 81) rfl)) rfl)
theorem fk0_15 : mm_FK 0 15 0 1 := mm_fk (q := (RX0, TX0, 5)) rfl (by decide) (mm_t1 (mm_tq1 (List.mem_of_getElem? (i := 82) rfl)) rfl)
theorem fk0_18 : mm_FK 0 18 0 2 := mm_fk (q := (RX0, TX0, 5)) rfl (by decide) (mm_t1 (mm_tq1 (List.mem_of_getElem? (i := 83) rfl)) rfl)
theorem fk0_21 : mm_FK 0 21 0 3 := mm_fk (q := (RX0, TX0, 5)) rfl (by decide) (mm_t1 (mm_tq1 (List.mem_of_getElem? (i := 84) rfl)) rfl)
theorem fk0_25 : mm_FK 0 25 0 4 := mm_fk (q := (RX0, TX0, 5)) rfl (by decide) (mm_t1 (mm_tq1 (List.mem_of_getElem? (i := 86) rfl)) rfl)
theorem mm_okF0 : ∀ e ∈ mm_F0, mm_FK 0 e.1 e.2.1 e.2.2 := List.forall_mem_cons.mpr ⟨fk0_9, List.forall_mem_cons.mpr ⟨fk0_15, List.forall_mem_cons.mpr ⟨fk0_18, List.forall_mem_cons.mpr ⟨fk0_21, List.forall_mem_cons.mpr ⟨fk0_25, fun _ h => absurd h List.not_mem_nil⟩⟩⟩⟩⟩
theorem mm_okC0 : ∀ e ∈ mm_C0, Cond.constant (mm_cn 0) e.1 e.2 ∈ mm_tb := fun _ h => absurd h List.not_mem_nil
theorem mm_okL0 : ∀ e ∈ mm_L0, Cond.constantLong (mm_cn 0) e.1 e.2 ∈ mm_tb := fun _ h => absurd h List.not_mem_nil
theorem fk1_103 : mm_FK 1 103 2 5 := mm_fk (q := (RX2, TX2, 8)) rfl (by decide) (mm_t1 (mm_tq1 (List.mem_of_getElem? (i := 48) rfl)) rfl)
theorem fk1_121 : mm_FK 1 121 2 6 := mm_fk (q := (RX2, TX2, 8)) rfl (by decide) (mm_t1 (mm_tq1 (List.mem_of_getElem? (i := 52) rfl)) rfl)
theorem fk1_115 : mm_FK 1 115 2 7 := mm_fk (q := (RX2, TX2, 8)) rfl (by decide) (mm_t1 (mm_tq1 (List.mem_of_getElem? (i := 56) rfl)) rfl)
theorem fk1_12 : mm_FK 1 12 1 0 := mm_fk (q := (RX1, TX1, 11)) rfl (by decide) (mm_t1 (mm_tq1 (List.mem_of_getElem? (i := 98) rfl)) rfl)
theorem fk1_21 : mm_FK 1 21 1 1 := mm_fk (q := (RX1, TX1, 11)) rfl (by decide) (mm_t1 (mm_tq1 (List.mem_of_getElem? (i := 101) rfl)) rfl)
theorem fk1_25 : mm_FK 1 25 1 2 := mm_fk (q := (RX1, TX1, 11)) rfl (by decide) (mm_t1 (mm_tq1 (List.mem_of_getElem? (i := 103) rfl)) rfl)
theorem fk1_33 : mm_FK 1 33 1 3 := mm_fk (q := (RX1, TX1, 11)) rfl (by decide) (mm_t1 (mm_tq1 (List.mem_of_getElem? (i := 105) rfl)) rfl)
theorem fk1_36 : mm_FK 1 36 1 4 := mm_fk (q := (RX1, TX1, 11)) rfl (by decide) (mm_t1 (mm_tq1 (List.mem_of_getElem? (i := 107) rfl)) rfl)
theorem fk1_29 : mm_FK 1 29 1 5 := mm_fk (q := (RX1, TX1, 11)) rfl (by decide) (mm_t1 (mm_tq1 (List.mem_of_getElem? (i := 109) rfl)) rfl)
theorem fk1_39 : mm_FK 1 39 1 6 := mm_fk (q := (RX1, TX1, 11)) rfl (by decide) (mm_t1 (mm_tq1 (List.mem_of_getElem? (i := 111) rfl)) rfl)
theorem fk1_42 : mm_FK 1 42 1 7 := mm_fk (q := (RX1, TX1, 11)) rfl (by decide) (mm_t1 (mm_tq1 (List.mem_of_getElem? (i := 113) rfl)) rfl)
theorem fk1_45 : mm_FK 1 45 1 8 := mm_fk (q := (RX1, TX1, 11)) rfl (by decide) (mm_t1 (mm_tq1 (List.mem_of_getElem? (i := 116) rfl)) rfl)
theorem fk1_48 : mm_FK 1 48 1 9 := mm_fk (q := (RX1, TX1, 11)) rfl (by decide) (mm_t1 (mm_tq1 (List.mem_of_getElem? (i := 119) rfl)) rfl)
theorem fk1_51 : mm_FK 1 51 1 10 := mm_fk (q := (RX1, TX1, 11)) rfl (by decide) (mm_t1 (mm_tq1 (List.mem_of_getElem? (i := 121) rfl)) rfl)
theorem mm_okF1 : ∀ e ∈ mm_F1, mm_FK 1 e.1 e.2.1 e.2.2 := List.forall_mem_cons.mpr ⟨fk1_103, List.forall_mem_cons.mpr ⟨fk1_121, List.forall_mem_cons.mpr ⟨fk1_115, List.forall_mem_cons.mpr ⟨fk1_12, List.forall_mem_cons.mpr ⟨fk1_21, List.forall_mem_cons.mpr ⟨fk1_25, List.forall_mem_cons.mpr ⟨fk1_33, List.forall_mem_cons.mpr ⟨fk1_36, List.forall_mem_cons.mpr ⟨fk1_29, List.forall_mem_cons.mpr ⟨fk1_39, List.forall_mem_cons.mpr ⟨fk1_42, List.forall_mem_cons.mpr ⟨fk1_45, List.forall_mem_cons.mpr ⟨fk1_48, List.forall_mem_cons.mpr ⟨fk1_51, fun _ h => absurd h List.not_mem_nil⟩⟩⟩⟩⟩⟩⟩⟩⟩⟩⟩⟩⟩⟩
theorem mm_okC1 : ∀ e ∈ mm_C1, Cond.constant (mm_cn 1) e.1 e.2 ∈ mm_tb := List.forall_mem_cons.mpr ⟨(mm_t1 (mm_tq2 (List.mem_of_getElem? (i := 196) rfl)) rfl), List.forall_mem_cons.mpr ⟨(mm_t1 (mm_tq3 (List.mem_of_getElem? (i := 1) rfl)) rfl), fun _ h => absurd h List.not_mem_nil⟩⟩
theorem mm_okL1 : ∀ e ∈ mm_L1, Cond.constantLong (mm_cn 1) e.1 e.2 ∈ mm_tb := fun _ h => absurd h List.not_mem_nil
theorem fk2_9 : mm_FK 2 9 2 0 := mm_fk (q := (RX2, TX2, 8)) rfl (by decide) (mm_t1 (mm_tq1 (List.mem_of_getElem? (i := 34) rfl)) rfl)
theorem fk2_15 : mm_FK 2 15 2 1 := mm_fk (q := (RX2, TX2, 8)) rfl (by decide) (mm_t1 (mm_tq1 (List.mem_of_getElem? (i := 37) rfl)) rfl)
theorem fk2_18 : mm_FK 2 18 2 2 := mm_fk (q := (RX2, TX2, 8)) rfl (by decide) (mm_t1 (mm_tq1 (List.mem_of_getElem? (i := 39) rfl)) rfl)
theorem fk2_21 : mm_FK 2 21 2 3 := mm_fk (q := (RX2, TX2, 8)) rfl (by decide) (mm_t1 (mm_tq1 (List.mem_of_getElem? (i := 40) rfl)) rfl)
theorem fk2_24 : mm_FK 2 24 2 4 := mm_fk (q := (RX2, TX2, 8)) rfl (by decide) (mm_t1 (mm_tq1 (List.mem_of_getElem? (i := 43) rfl)) rfl)
theorem fk2_27 : mm_FK 2 27 2 5 := mm_fk (q := (RX2, TX2, 8)) rfl (by decide) (mm_t1 (mm_tq1 (List.mem_of_getElem? (i := 46) rfl)) rfl)
theorem fk2_30 : mm_FK 2 30 2 6 := mm_fk (q := (RX2, TX2, 8)) rfl (by decide) (mm_t1 (mm_tq1 (List.mem_of_getElem? (i := 49) rfl)) rfl)
theorem fk2_33 : mm_FK 2 33 2 7 := mm_fk (q := (RX2, TX2, 8)) rfl (by decide) (mm_t1 (mm_tq1 (List.mem_of_getElem? (i := 54) rfl)) rfl)
theorem mm_okF2 : ∀ e ∈ mm_F2, mm_FK 2 e.1 e.2.1 e.2.2 := List.forall_mem_cons.mpr ⟨fk2_9, List.forall_mem_cons.mpr ⟨fk2_15, List.forall_mem_cons.mpr ⟨fk2_18, List.forall_mem_cons.mpr ⟨fk2_21, List.forall_mem_cons.mpr ⟨fk2_24, List.forall_mem_cons.mpr ⟨fk2_27, List.forall_mem_cons.mpr ⟨fk2_30, List.forall_mem_cons.mpr ⟨fk2_33, fun _ h => absurd h List.not_mem_nil⟩⟩⟩⟩⟩⟩⟩⟩
theorem mm_okC2 : ∀ e ∈ mm_C2, Cond.constant (mm_cn 2) e.1 e.2 ∈ mm_tb := List.forall_mem_cons.mpr ⟨(mm_t1 (mm_tq3 (List.mem_of_getElem? (i := 198) rfl)) rfl), List.forall_mem_cons.mpr ⟨(mm_t1 (mm_tq3 (List.mem_of_getElem? (i := 203) rfl)) rfl), fun _ h => absurd h List.not_mem_nil⟩⟩
theorem mm_okL2 : ∀ e ∈ mm_L2, Cond.constantLong (mm_cn 2) e.1 e.2 ∈ mm_tb := fun _ h => absurd h List.not_mem_nil
theorem fk3_71 : mm_FK 3 71 2 0 := mm_fk (q := (RX2, TX2, 8)) rfl (by decide) (mm_t1 (mm_tq1 (List.mem_of_getElem? (i := 35) rfl)) rfl)
theorem fk3_64 : mm_FK 3 64 2 6 := mm_fk (q := (RX2, TX2, 8)) rfl (by decide) (mm_t1 (mm_tq1 (List.mem_of_getElem? (i := 51) rfl)) rfl)
theorem fk3_22 : mm_FK 3 22 1 0 := mm_fk (q := (RX1, TX1, 11)) rfl (by decide) (mm_t1 (mm_tq1 (List.mem_of_getElem? (i := 99) rfl)) rfl)
theorem fk3_101 : mm_FK 3 101 1 7 := mm_fk (q := (RX1, TX1, 11)) rfl (by decide) (mm_t1 (mm_tq1 (List.mem_of_getElem? (i := 115) rfl)) rfl)
theorem fk3_104 : mm_FK 3 104 1 8 := mm_fk (q := (RX1, TX1, 11)) rfl (by decide) (mm_t1 (mm_tq1 (List.mem_of_getElem? (i := 118) rfl)) rfl)
theorem fk3_12 : mm_FK 3 12 3 0 := mm_fk (q := (RX3, TX3, 2)) rfl (by decide) (mm_t1 (mm_tq1 (List.mem_of_getElem? (i := 154) rfl)) rfl)
theorem fk3_94 : mm_FK 3 94 3 1 := mm_fk (q := (RX3, TX3, 2)) rfl (by decide) (mm_t1 (mm_tq1 (List.mem_of_getElem? (i := 156) rfl)) rfl)
theorem mm_okF3 : ∀ e ∈ mm_F3, mm_FK 3 e.1 e.2.1 e.2.2 := List.forall_mem_cons.mpr ⟨fk3_71, List.forall_mem_cons.mpr ⟨fk3_64, List.forall_mem_cons.mpr ⟨fk3_22, List.forall_mem_cons.mpr ⟨fk3_101, List.forall_mem_cons.mpr ⟨fk3_104, List.forall_mem_cons.mpr ⟨fk3_12, List.forall_mem_cons.mpr ⟨fk3_94, fun _ h => absurd h List.not_mem_nil⟩⟩⟩⟩⟩⟩⟩
theorem mm_okC3 : ∀ e ∈ mm_C3, Cond.constant (mm_cn 3) e.1 e.2 ∈ mm_tb := fun _ h => absurd h List.not_mem_nil
theorem mm_okL3 : ∀ e ∈ mm_L3, Cond.constantLong (mm_cn 3) e.1 e.2 ∈ mm_tb := fun _ h => absurd h List.not_mem_nil
theorem fk4_52 : mm_FK 4 52 2 1 := mm_fk (q := (RX2, TX2, 8)) rfl (by decide) (mm_t1 (mm_tq1 (List.mem_of_getElem? (i := 38) rfl)) rfl)
theorem fk4_80 : mm_FK 4 80 2 3 := mm_fk (q := (RX2, TX2, 8)) rfl (by decide) (mm_t1 (mm_tq1 (List.mem_of_getElem? (i := 41) rfl)) rfl)
theorem fk4_83 : mm_FK 4 83 2 4 := mm_fk (q := (RX2, TX2, 8)) rfl (by decide) (mm_t1 (mm_tq1 (List.mem_of_getElem? (i := 44) rfl)) rfl)
theorem fk4_46 : mm_FK 4 46 2 6 := mm_fk (q := (RX2, TX2, 8)) rfl (by decide) (mm_t1 (mm_tq1 (List.mem_of_getElem? (i := 50) rfl)) rfl)
theorem fk4_9 : mm_FK 4 9 4 0 := mm_fk (q := (RX4, TX4, 8)) rfl (by decide) (mm_t1 (mm_tq1 (List.mem_of_getElem? (i := 169) rfl)) rfl)
theorem fk4_15 : mm_FK 4 15 4 1 := mm_fk (q := (RX4, TX4, 8)) rfl (by decide) (mm_t1 (mm_tq1 (List.mem_of_getElem? (i := 171) rfl)) rfl)
theorem fk4_18 : mm_FK 4 18 4 2 := mm_fk (q := (RX4, TX4, 8)) rfl (by decide) (mm_t1 (mm_tq1 (List.mem_of_getElem? (i := 173) rfl)) rfl)
theorem fk4_21 : mm_FK 4 21 4 3 := mm_fk (q := (RX4, TX4, 8)) rfl (by decide) (mm_t1 (mm_tq1 (List.mem_of_getElem? (i := 174) rfl)) rfl)
theorem fk4_42 : mm_FK 4 42 4 4 := mm_fk (q := (RX4, TX4, 8)) rfl (by decide) (mm_t1 (mm_tq1 (List.mem_of_getElem? (i := 175) rfl)) rfl)
theorem fk4_59 : mm_FK 4 59 4 5 := mm_fk (q := (RX4, TX4, 8)) rfl (by decide) (mm_t1 (mm_tq1 (List.mem_of_getElem? (i := 176) rfl)) rfl)
theorem fk4_62 : mm_FK 4 62 4 6 := mm_fk (q := (RX4, TX4, 8)) rfl (by decide) (mm_t1 (mm_tq1 (List.mem_of_getElem? (i := 178) rfl)) rfl)
theorem fk4_65 : mm_FK 4 65 4 7 := mm_fk (q := (RX4, TX4, 8)) rfl (by decide) (mm_t1 (mm_tq1 (List.mem_of_getElem? (i := 180) rfl)) rfl)
theorem mm_okF4 : ∀ e ∈ mm_F4, mm_FK 4 e.1 e.2.1 e.2.2 := List.forall_mem_cons.mpr ⟨fk4_52, List.forall_mem_cons.mpr ⟨fk4_80, List.forall_mem_cons.mpr ⟨fk4_83, List.forall_mem_cons.mpr ⟨fk4_46, List.forall_mem_cons.mpr ⟨fk4_9, List.forall_mem_cons.mpr ⟨fk4_15, List.forall_mem_cons.mpr ⟨fk4_18, List.forall_mem_cons.mpr ⟨fk4_21, List.forall_mem_cons.mpr ⟨fk4_42, List.forall_mem_cons.mpr ⟨fk4_59, List.forall_mem_cons.mpr ⟨fk4_62, List.forall_mem_cons.mpr ⟨fk4_65, fun _ h => absurd h List.not_mem_nil⟩⟩⟩⟩⟩⟩⟩⟩⟩⟩⟩⟩
theorem mm_okC4 : ∀ e ∈ mm_C4, Cond.constant (mm_cn 4) e.1 e.2 ∈ mm_tb := fun _ h => absurd h List.not_mem_nil
theorem mm_okL4 : ∀ e ∈ mm_L4, Cond.constantLong (mm_cn 4) e.1 e.2 ∈ mm_tb := fun _ h => absurd h List.not_mem_nil
theorem fk5_148 : mm_FK 5 148 2 0 := mm_fk (q := (RX2, TX2, 8)) rfl (by decide) (mm_t1 (mm_tq1 (List.mem_of_getElem? (i := 36) rfl)) rfl)
theorem fk5_211 : mm_FK 5 211 2 3 := mm_fk (q := (RX2, TX2, 8)) rfl (by decide) (mm_t1 (mm_tq1 (List.mem_of_getElem? (i := 42) rfl)) rfl)
theorem fk5_214 : mm_FK 5 214 2 4 := mm_fk (q := (RX2, TX2, 8)) rfl (by decide) (mm_t1 (mm_tq1 (List.mem_of_getElem? (i := 45) rfl)) rfl)
theorem fk5_63 : mm_FK 5 63 2 5 := mm_fk (q := (RX2, TX2, 8)) rfl (by decide) (mm_t1 (mm_tq1 (List.mem_of_getElem? (i := 47) rfl)) rfl)
theorem fk5_127 : mm_FK 5 127 2 6 := mm_fk (q := (RX2, TX2, 8)) rfl (by decide) (mm_t1 (mm_tq1 (List.mem_of_getElem? (i := 53) rfl)) rfl)
theorem fk5_56 : mm_FK 5 56 2 7 := mm_fk (q := (RX2, TX2, 8)) rfl (by decide) (mm_t1 (mm_tq1 (List.mem_of_getElem? (i := 55) rfl)) rfl)
theorem fk5_328 : mm_FK 5 328 0 3 := mm_fk (q := (RX0, TX0, 5)) rfl (by decide) (mm_t1 (mm_tq1 (List.mem_of_getElem? (i := 85) rfl)) rfl)
theorem fk5_46 : mm_FK 5 46 1 0 := mm_fk (q := (RX1, TX1, 11)) rfl (by decide) (mm_t1 (mm_tq1 (List.mem_of_getElem? (i := 100) rfl)) rfl)
theorem fk5_304 : mm_FK 5 304 1 1 := mm_fk (q := (RX1, TX1, 11)) rfl (by decide) (mm_t1 (mm_tq1 (List.mem_of_getElem? (i := 102) rfl)) rfl)
theorem fk5_331 : mm_FK 5 331 1 2 := mm_fk (q := (RX1, TX1, 11)) rfl (by decide) (mm_t1 (mm_tq1 (List.mem_of_getElem? (i := 104) rfl)) rfl)
theorem fk5_322 : mm_FK 5 322 1 3 := mm_fk (q := (RX1, TX1, 11)) rfl (by decide) (mm_t1 (mm_tq1 (List.mem_of_getElem? (i := 106) rfl)) rfl)
theorem fk5_325 : mm_FK 5 325 1 4 := mm_fk (q := (RX1, TX1, 11)) rfl (by decide) (mm_t1 (mm_tq1 (List.mem_of_getElem? (i := 108) rfl)) rfl)
theorem fk5_42 : mm_FK 5 42 1 5 := mm_fk (q := (RX1, TX1, 11)) rfl (by decide) (mm_t1 (mm_tq1 (List.mem_of_getElem? (i := 110) rfl)) rfl)
theorem fk5_316 : mm_FK 5 316 1 6 := mm_fk (q := (RX1, TX1, 11)) rfl (by decide) (mm_t1 (mm_tq1 (List.mem_of_getElem? (i := 112) rfl)) rfl)
theorem fk5_103 : mm_FK 5 103 1 7 := mm_fk (q := (RX1, TX1, 11)) rfl (by decide) (mm_t1 (mm_tq1 (List.mem_of_getElem? (i := 114) rfl)) rfl)
theorem fk5_106 : mm_FK 5 106 1 8 := mm_fk (q := (RX1, TX1, 11)) rfl (by decide) (mm_t1 (mm_tq1 (List.mem_of_getElem? (i := 117) rfl)) rfl)
theorem fk5_319 : mm_FK 5 319 1 9 := mm_fk (q := (RX1, TX1, 11)) rfl (by decide) (mm_t1 (mm_tq1 (List.mem_of_getElem? (i := 120) rfl)) rfl)
theorem fk5_334 : mm_FK 5 334 1 10 := mm_fk (q := (RX1, TX1, 11)) rfl (by decide) (mm_t1 (mm_tq1 (List.mem_of_getElem? (i := 122) rfl)) rfl)
theorem fk5_288 : mm_FK 5 288 3 0 := mm_fk (q := (RX3, TX3, 2)) rfl (by decide) (mm_t1 (mm_tq1 (List.mem_of_getElem? (i := 155) rfl)) rfl)
theorem fk5_282 : mm_FK 5 282 3 1 := mm_fk (q := (RX3, TX3, 2)) rfl (by decide) (mm_t1 (mm_tq1 (List.mem_of_getElem? (i := 157) rfl)) rfl)
theorem fk5_173 : mm_FK 5 173 4 0 := mm_fk (q := (RX4, TX4, 8)) rfl (by decide) (mm_t1 (mm_tq1 (List.mem_of_getElem? (i := 170) rfl)) rfl)
theorem fk5_205 : mm_FK 5 205 4 1 := mm_fk (q := (RX4, TX4, 8)) rfl (by decide) (mm_t1 (mm_tq1 (List.mem_of_getElem? (i := 172) rfl)) rfl)
theorem fk5_220 : mm_FK 5 220 4 5 := mm_fk (q := (RX4, TX4, 8)) rfl (by decide) (mm_t1 (mm_tq1 (List.mem_of_getElem? (i := 177) rfl)) rfl)
theorem fk5_223 : mm_FK 5 223 4 6 := mm_fk (q := (RX4, TX4, 8)) rfl (by decide) (mm_t1 (mm_tq1 (List.mem_of_getElem? (i := 179) rfl)) rfl)
theorem fk5_226 : mm_FK 5 226 4 7 := mm_fk (q := (RX4, TX4, 8)) rfl (by decide) (mm_t1 (mm_tq1 (List.mem_of_getElem? (i := 181) rfl)) rfl)
theorem fk5_10 : mm_FK 5 10 5 0 := mm_fk (q := (RX5, TX5, 4)) rfl (by decide) (mm_t1 (mm_tq1 (List.mem_of_getElem? (i := 237) rfl)) rfl)
theorem fk5_19 : mm_FK 5 19 5 1 := mm_fk (q := (RX5, TX5, 4)) rfl (by decide) (mm_t1 (mm_tq1 (List.mem_of_getElem? (i := 238) rfl)) rfl)
theorem fk5_26 : mm_FK 5 26 5 2 := mm_fk (q := (RX5, TX5, 4)) rfl (by decide) (mm_t1 (mm_tq1 (List.mem_of_getElem? (i := 239) rfl)) rfl)
theorem fk5_30 : mm_FK 5 30 5 3 := mm_fk (q := (RX5, TX5, 4)) rfl (by decide) (mm_t1 (mm_tq2 (List.mem_of_getElem? (i := 0) rfl)) rfl)
theorem mm_okF5 : ∀ e ∈ mm_F5, mm_FK 5 e.1 e.2.1 e.2.2 := List.forall_mem_cons.mpr ⟨fk5_148, List.forall_mem_cons.mpr ⟨fk5_211, List.forall_mem_cons.mpr ⟨fk5_214, List.forall_mem_cons.mpr ⟨fk5_63, List.forall_mem_cons.mpr ⟨fk5_127, List.forall_mem_cons.mpr ⟨fk5_56, List.forall_mem_cons.mpr ⟨fk5_328, List.forall_mem_cons.mpr ⟨fk5_46, List.forall_mem_cons.mpr ⟨fk5_304, List.forall_mem_cons.mpr ⟨fk5_331, List.forall_mem_cons.mpr ⟨fk5_322, List.forall_mem_cons.mpr ⟨fk5_325, List.forall_mem_cons.mpr ⟨fk5_42, List.forall_mem_cons.mpr ⟨fk5_316, List.forall_mem_cons.mpr ⟨fk5_103, List.forall_mem_cons.mpr ⟨fk5_106, List.forall_mem_cons.mpr ⟨fk5_319, List.forall_mem_cons.mpr ⟨fk5_334, List.forall_mem_cons.mpr ⟨fk5_288, List.forall_mem_cons.mpr ⟨fk5_282, List.forall_mem_cons.mpr ⟨fk5_173, List.forall_mem_cons.mpr ⟨fk5_205, List.forall_mem_cons.mpr ⟨fk5_220, List.forall_mem_cons.mpr ⟨fk5_223, List.forall_mem_cons.mpr ⟨fk5_226, List.forall_mem_cons.mpr ⟨fk5_10, List.forall_mem_cons.mpr ⟨fk5_19, List.forall_mem_cons.mpr ⟨fk5_26, List.forall_mem_cons.mpr ⟨fk5_30, fun _ h => absurd h List.not_mem_nil⟩⟩⟩⟩⟩⟩⟩⟩⟩⟩⟩⟩⟩⟩⟩⟩⟩⟩⟩⟩⟩⟩⟩⟩⟩⟩⟩⟩⟩
theorem mm_okC5 : ∀ e ∈ mm_C5, Cond.constant (mm_cn 5) e.1 e.2 ∈ mm_tb := List.forall_mem_cons.mpr ⟨(mm_t1 (mm_tq2 (List.mem_of_getElem? (i := 191) rfl)) rfl), List.forall_mem_cons.mpr ⟨(mm_t1 (mm_tq3 (List.mem_of_getElem? (i := 126) rfl)) rfl), fun _ h => absurd h List.not_mem_nil⟩⟩
theorem mm_okL5 : ∀ e ∈ mm_L5, Cond.constantLong (mm_cn 5) e.1 e.2 ∈ mm_tb := fun _ h => absurd h List.not_mem_nil
theorem fk6_44 : mm_FK 6 44 6 0 := mm_fk (q := (RX6, TX6, 12)) rfl (by decide) (mm_t1 (mm_tq4 (List.mem_of_getElem? (i := 222) rfl)) rfl)
theorem fk6_9 : mm_FK 6 9 6 1 := mm_fk (q := (RX6, TX6, 12)) rfl (by decide) (mm_t1 (mm_tq4 (List.mem_of_getElem? (i := 223) rfl)) rfl)
theorem fk6_15 : mm_FK 6 15 6 2 := mm_fk (q := (RX6, TX6, 12)) rfl (by decide) (mm_t1 (mm_tq4 (List.mem_of_getElem? (i := 224) rfl)) rfl)
theorem fk6_18 : mm_FK 6 18 6 3 := mm_fk (q := (RX6, TX6, 12)) rfl (by decide) (mm_t1 (mm_tq4 (List.mem_of_getElem? (i := 225) rfl)) rfl)
theorem fk6_21 : mm_FK 6 21 6 4 := mm_fk (q := (RX6, TX6, 12)) rfl (by decide) (mm_t1 (mm_tq4 (List.mem_of_getElem? (i := 226) rfl)) rfl)
theorem fk6_25 : mm_FK 6 25 6 5 := mm_fk (q := (RX6, TX6, 12)) rfl (by decide) (mm_t1 (mm_tq4 (List.mem_of_getElem? (i := 227) rfl)) rfl)
theorem fk6_28 : mm_FK 6 28 6 6 := mm_fk (q := (RX6, TX6, 12)) rfl (by decide) (mm_t1 (mm_tq4 (List.mem_of_getElem? (i := 228) rfl)) rfl)
theorem fk6_102 : mm_FK 6 102 6 7 := mm_fk (q := (RX6, TX6, 12)) rfl (by decide) (mm_t1 (mm_tq4 (List.mem_of_getElem? (i := 229) rfl)) rfl)
theorem fk6_199 : mm_FK 6 199 6 8 := mm_fk (q := (RX6, TX6, 12)) rfl (by decide) (mm_t1 (mm_tq4 (List.mem_of_getElem? (i := 230) rfl)) rfl)
theorem fk6_31 : mm_FK 6 31 6 9 := mm_fk (q := (RX6, TX6, 12)) rfl (by decide) (mm_t1 (mm_tq4 (List.mem_of_getElem? (i := 231) rfl)) rfl)
theorem fk6_34 : mm_FK 6 34 6 10 := mm_fk (q := (RX6, TX6, 12)) rfl (by decide) (mm_t1 (mm_tq4 (List.mem_of_getElem? (i := 232) rfl)) rfl)
theorem fk6_37 : mm_FK 6 37 6 11 := mm_fk (q := (RX6, TX6, 12)) rfl (by decide) (mm_t1 (mm_tq4 (List.mem_of_getElem? (i := 233) rfl)) rfl)
theorem mm_okF6 : ∀ e ∈ mm_F6, mm_FK 6 e.1 e.2.1 e.2.2 := List.forall_mem_cons.mpr ⟨fk6_44, List.forall_mem_cons.mpr ⟨fk6_9, List.forall_mem_cons.mpr ⟨fk6_15, List.forall_mem_cons.mpr ⟨fk6_18, List.forall_mem_cons.mpr ⟨fk6_21, List.forall_mem_cons.mpr ⟨fk6_25, List.forall_mem_cons.mpr ⟨fk6_28, List.forall_mem_cons.mpr ⟨fk6_102, List.forall_mem_cons.mpr ⟨fk6_199, List.forall_mem_cons.mpr ⟨fk6_31, List.forall_mem_cons.mpr ⟨fk6_34, List.forall_mem_cons.mpr ⟨fk6_37, fun _ h => absurd h List.not_mem_nil⟩⟩⟩⟩⟩⟩⟩⟩⟩⟩⟩⟩
theorem mm_okC6 : ∀ e ∈ mm_C6, Cond.constant (mm_cn 6) e.1 e.2 ∈ mm_tb := List.forall_mem_cons.mpr ⟨(mm_t1 (mm_tq6 (List.mem_of_getElem? (i := 45) rfl)) rfl), List.forall_mem_cons.mpr ⟨(mm_t1 (mm_tq6 (List.mem_of_getElem? (i := 161) rfl)) rfl), fun _ h => absurd h List.not_mem_nil⟩⟩
theorem mm_okL6 : ∀ e ∈ mm_L6, Cond.constantLong (mm_cn 6) e.1 e.2 ∈ mm_tb := List.forall_mem_cons.mpr ⟨(mm_t1 (mm_tq4 (List.mem_of_getElem? (i := 211) rfl)) rfl), List.forall_mem_cons.mpr ⟨(mm_t1 (mm_tq4 (List.mem_of_getElem? (i := 212) rfl)) rfl), List.forall_mem_cons.mpr ⟨(mm_t1 (mm_tq5 (List.mem_of_getElem? (i := 39) rfl)) rfl), List.forall_mem_cons.mpr ⟨(mm_t1 (mm_tq5 (List.mem_of_getElem? (i := 40) rfl)) rfl), List.forall_mem_cons.mpr ⟨(mm_t1 (mm_tq5 (List.mem_of_getElem? (i := 53) rfl)) rfl), List.forall_mem_cons.mpr ⟨(mm_t1 (mm_tq5 (List.mem_of_getElem? (i := 54) rfl)) rfl), List.forall_mem_cons.mpr ⟨(mm_t1 (mm_tq5 (List.mem_of_getElem? (i := 59) rfl)) rfl), List.forall_mem_cons.mpr ⟨(mm_t1 (mm_tq5 (List.mem_of_getElem? (i := 64) rfl)) rfl), List.forall_mem_cons.mpr ⟨(mm_t1 (mm_tq5 (List.mem_of_getElem? (i := 69) rfl)) rfl), List.forall_mem_cons.mpr ⟨(mm_t1 (mm_tq5 (List.mem_of_getElem? (i := 216) rfl)) rfl), List.forall_mem_cons.mpr ⟨(mm_t1 (mm_tq5 (List.mem_of_getElem? (i := 225) rfl)) rfl), List.forall_mem_cons.mpr ⟨(mm_t1 (mm_tq5 (List.mem_of_getElem? (i := 226) rfl)) rfl), List.forall_mem_cons.mpr ⟨(mm_t1 (mm_tq5 (List.mem_of_getElem? (i := 227) rfl)) rfl), List.forall_mem_cons.mpr ⟨(mm_t1 (mm_tq5 (List.mem_of_getElem? (i := 232) rfl)) rfl), List.forall_mem_cons.mpr ⟨(mm_t1 (mm_tq6 (List.mem_of_getElem? (i := 50) rfl)) rfl), List.forall_mem_cons.mpr ⟨(mm_t1 (mm_tq6 (List.mem_of_getElem? (i := 116) rfl)) rfl), List.forall_mem_cons.mpr ⟨(mm_t1 (mm_tq6 (List.mem_of_getElem? (i := 128) rfl)) rfl), List.forall_mem_cons.mpr ⟨(mm_t1 (mm_tq6 (List.mem_of_getElem? (i := 214) rfl)) rfl), List.forall_mem_cons.mpr ⟨(mm_t1 (mm_tq6 (List.mem_of_getElem? (i := 215) rfl)) rfl), List.forall_mem_cons.mpr ⟨(mm_t1 (mm_tq6 (List.mem_of_getElem? (i := 224) rfl)) rfl), List.forall_mem_cons.mpr ⟨(mm_t1 (mm_tq7 (List.mem_of_getElem? (i := 1) rfl)) rfl), List.forall_mem_cons.mpr ⟨(mm_t1 (mm_tq7 (List.mem_of_getElem? (i := 2) rfl)) rfl), fun _ h => absurd h List.not_mem_nil⟩⟩⟩⟩⟩⟩⟩⟩⟩⟩⟩⟩⟩⟩⟩⟩⟩⟩⟩⟩⟩⟩
theorem mm_okF7 : ∀ e ∈ mm_F7, mm_FK 7 e.1 e.2.1 e.2.2 := fun _ h => absurd h List.not_mem_nil
theorem mm_okC7 : ∀ e ∈ mm_C7, Cond.constant (mm_cn 7) e.1 e.2 ∈ mm_tb := fun _ h => absurd h List.not_mem_nil
theorem mm_okL7 : ∀ e ∈ mm_L7, Cond.constantLong (mm_cn 7) e.1 e.2 ∈ mm_tb := fun _ h => absurd h List.not_mem_nil
theorem mm_okF {o idx : Nat} {x : Nat × Nat} (h : mm_lk (mm_F o) idx = some x) : mm_FK o idx x.1 x.2 := by
  have hm := mm_lk_mem h
  match o, hm with
  | 0, hm => exact mm_okF0 _ hm
  | 1, hm => exact mm_okF1 _ hm
  | 2, hm => exact mm_okF2 _ hm
  | 3, hm => exact mm_okF3 _ hm
  | 4, hm => exact mm_okF4 _ hm
  | 5, hm => exact mm_okF5 _ hm
  | 6, hm => exact mm_okF6 _ hm
  | 7, hm => exact mm_okF7 _ hm
  | n + 8, hm => exact absurd hm List.not_mem_nil
theorem mm_okC {o idx : Nat} {x : Int32} (h : mm_lk (mm_C o) idx = some x) : Cond.constant (mm_cn o) idx x ∈ mm_tb := by
  have hm := mm_lk_mem h
  match o, hm with
  | 0, hm => exact mm_okC0 _ hm
  | 1, hm => exact mm_okC1 _ hm
  | 2, hm => exact mm_okC2 _ hm
  | 3, hm => exact mm_okC3 _ hm
  | 4, hm => exact mm_okC4 _ hm
  | 5, hm => exact mm_okC5 _ hm
  | 6, hm => exact mm_okC6 _ hm
  | 7, hm => exact mm_okC7 _ hm
  | n + 8, hm => exact absurd hm List.not_mem_nil
theorem mm_okL {o idx : Nat} {x : Int64} (h : mm_lk (mm_L o) idx = some x) : Cond.constantLong (mm_cn o) idx x ∈ mm_tb := by
  have hm := mm_lk_mem h
  match o, hm with
  | 0, hm => exact mm_okL0 _ hm
  | 1, hm => exact mm_okL1 _ hm
  | 2, hm => exact mm_okL2 _ hm
  | 3, hm => exact mm_okL3 _ hm
  | 4, hm => exact mm_okL4 _ hm
  | 5, hm => exact mm_okL5 _ hm
  | 6, hm => exact mm_okL6 _ hm
  | 7, hm => exact mm_okL7 _ hm
  | n + 8, hm => exact absurd hm List.not_mem_nil
def mm_sn (t : Nat) : String := if t = 0 then "TO_X" else "TO_Y"
theorem mm_uw0 : ∀ w ∈ u_ws RX0 TX0 5, w ∈ mm_tb := List.forall_mem_cons.mpr ⟨(mm_t1 (mm_tq1 (List.mem_of_getElem? (i := 87) rfl)) rfl), List.forall_mem_cons.mpr ⟨(mm_t1 (mm_tq1 (List.mem_of_getElem? (i := 89) rfl)) rfl), List.forall_mem_cons.mpr ⟨(mm_t1 (mm_tq1 (List.mem_of_getElem? (i := 91) rfl)) rfl), List.forall_mem_cons.mpr ⟨(mm_t1 (mm_tq1 (List.mem_of_getElem? (i := 93) rfl)) rfl), List.forall_mem_cons.mpr ⟨(mm_t1 (mm_tq1 (List.mem_of_getElem? (i := 95) rfl)) rfl), fun _ h => absurd h List.not_mem_nil⟩⟩⟩⟩⟩
theorem mm_uw1 : ∀ w ∈ u_ws RX1 TX1 11, w ∈ mm_tb := List.forall_mem_cons.mpr ⟨(mm_t1 (mm_tq1 (List.mem_of_getElem? (i := 123) rfl)) rfl), List.forall_mem_cons.mpr ⟨(mm_t1 (mm_tq1 (List.mem_of_getElem? (i := 125) rfl)) rfl), List.forall_mem_cons.mpr ⟨(mm_t1 (mm_tq1 (List.mem_of_getElem? (i := 127) rfl)) rfl), List.forall_mem_cons.mpr ⟨(mm_t1 (mm_tq1 (List.mem_of_getElem? (i := 129) rfl)) rfl), List.forall_mem_cons.mpr ⟨(mm_t1 (mm_tq1 (List.mem_of_getElem? (i := 131) rfl)) rfl), List.forall_mem_cons.mpr ⟨(mm_t1 (mm_tq1 (List.mem_of_getElem? (i := 133) rfl)) rfl), List.forall_mem_cons.mpr ⟨(mm_t1 (mm_tq1 (List.mem_of_getElem? (i := 135) rfl)) rfl), List.forall_mem_cons.mpr ⟨(mm_t1 (mm_tq1 (List.mem_of_getElem? (i := 137) rfl)) rfl), List.forall_mem_cons.mpr ⟨(mm_t1 (mm_tq1 (List.mem_of_getElem? (i := 139) rfl)) rfl), List.forall_mem_cons.mpr ⟨(mm_t1 (mm_tq1 (List.mem_of_getElem? (i := 141) rfl)) rfl), List.forall_mem_cons.mpr ⟨(mm_t1 (mm_tq1 (List.mem_of_getElem? (i := 143) rfl)) rfl), fun _ h => absurd h List.not_mem_nil⟩⟩⟩⟩⟩⟩⟩⟩⟩⟩⟩
theorem mm_uw2 : ∀ w ∈ u_ws RX2 TX2 8, w ∈ mm_tb := List.forall_mem_cons.mpr ⟨(mm_t1 (mm_tq1 (List.mem_of_getElem? (i := 57) rfl)) rfl), List.forall_mem_cons.mpr ⟨(mm_t1 (mm_tq1 (List.mem_of_getElem? (i := 59) rfl)) rfl), List.forall_mem_cons.mpr ⟨(mm_t1 (mm_tq1 (List.mem_of_getElem? (i := 61) rfl)) rfl), List.forall_mem_cons.mpr ⟨(mm_t1 (mm_tq1 (List.mem_of_getElem? (i := 63) rfl)) rfl), List.forall_mem_cons.mpr ⟨(mm_t1 (mm_tq1 (List.mem_of_getElem? (i := 65) rfl)) rfl), List.forall_mem_cons.mpr ⟨(mm_t1 (mm_tq1 (List.mem_of_getElem? (i := 67) rfl)) rfl), List.forall_mem_cons.mpr ⟨(mm_t1 (mm_tq1 (List.mem_of_getElem? (i := 69) rfl)) rfl), List.forall_mem_cons.mpr ⟨(mm_t1 (mm_tq1 (List.mem_of_getElem? (i := 71) rfl)) rfl), fun _ h => absurd h List.not_mem_nil⟩⟩⟩⟩⟩⟩⟩⟩
theorem mm_uw3 : ∀ w ∈ u_ws RX3 TX3 2, w ∈ mm_tb := List.forall_mem_cons.mpr ⟨(mm_t1 (mm_tq1 (List.mem_of_getElem? (i := 158) rfl)) rfl), List.forall_mem_cons.mpr ⟨(mm_t1 (mm_tq1 (List.mem_of_getElem? (i := 160) rfl)) rfl), fun _ h => absurd h List.not_mem_nil⟩⟩
theorem mm_uw4 : ∀ w ∈ u_ws RX4 TX4 8, w ∈ mm_tb := List.forall_mem_cons.mpr ⟨(mm_t1 (mm_tq1 (List.mem_of_getElem? (i := 182) rfl)) rfl), List.forall_mem_cons.mpr ⟨(mm_t1 (mm_tq1 (List.mem_of_getElem? (i := 184) rfl)) rfl), List.forall_mem_cons.mpr ⟨(mm_t1 (mm_tq1 (List.mem_of_getElem? (i := 186) rfl)) rfl), List.forall_mem_cons.mpr ⟨(mm_t1 (mm_tq1 (List.mem_of_getElem? (i := 188) rfl)) rfl), List.forall_mem_cons.mpr ⟨(mm_t1 (mm_tq1 (List.mem_of_getElem? (i := 190) rfl)) rfl), List.forall_mem_cons.mpr ⟨(mm_t1 (mm_tq1 (List.mem_of_getElem? (i := 192) rfl)) rfl), List.forall_mem_cons.mpr ⟨(mm_t1 (mm_tq1 (List.mem_of_getElem? (i := 194) rfl)) rfl), List.forall_mem_cons.mpr ⟨(mm_t1 (mm_tq1 (List.mem_of_getElem? (i := 196) rfl)) rfl), fun _ h => absurd h List.not_mem_nil⟩⟩⟩⟩⟩⟩⟩⟩
theorem mm_uw5 : ∀ w ∈ u_ws RX5 TX5 4, w ∈ mm_tb := List.forall_mem_cons.mpr ⟨(mm_t1 (mm_tq2 (List.mem_of_getElem? (i := 1) rfl)) rfl), List.forall_mem_cons.mpr ⟨(mm_t1 (mm_tq2 (List.mem_of_getElem? (i := 3) rfl)) rfl), List.forall_mem_cons.mpr ⟨(mm_t1 (mm_tq2 (List.mem_of_getElem? (i := 5) rfl)) rfl), List.forall_mem_cons.mpr ⟨(mm_t1 (mm_tq2 (List.mem_of_getElem? (i := 7) rfl)) rfl), fun _ h => absurd h List.not_mem_nil⟩⟩⟩⟩
theorem mm_uw6 : ∀ w ∈ u_ws RX6 TX6 12, w ∈ mm_tb := List.forall_mem_cons.mpr ⟨(mm_t1 (mm_tq4 (List.mem_of_getElem? (i := 234) rfl)) rfl), List.forall_mem_cons.mpr ⟨(mm_t1 (mm_tq4 (List.mem_of_getElem? (i := 236) rfl)) rfl), List.forall_mem_cons.mpr ⟨(mm_t1 (mm_tq4 (List.mem_of_getElem? (i := 238) rfl)) rfl), List.forall_mem_cons.mpr ⟨(mm_t1 (mm_tq5 (List.mem_of_getElem? (i := 0) rfl)) rfl), List.forall_mem_cons.mpr ⟨(mm_t1 (mm_tq5 (List.mem_of_getElem? (i := 2) rfl)) rfl), List.forall_mem_cons.mpr ⟨(mm_t1 (mm_tq5 (List.mem_of_getElem? (i := 4) rfl)) rfl), List.forall_mem_cons.mpr ⟨(mm_t1 (mm_tq5 (List.mem_of_getElem? (i := 6) rfl)) rfl), List.forall_mem_cons.mpr ⟨(mm_t1 (mm_tq5 (List.mem_of_getElem? (i := 8) rfl)) rfl), List.forall_mem_cons.mpr ⟨(mm_t1 (mm_tq5 (List.mem_of_getElem? (i := 10) rfl)) rfl), List.forall_mem_cons.mpr ⟨(mm_t1 (mm_tq5 (List.mem_of_getElem? (i := 12) rfl)) rfl), List.forall_mem_cons.mpr ⟨(mm_t1 (mm_tq5 (List.mem_of_getElem? (i := 14) rfl)) rfl), List.forall_mem_cons.mpr ⟨(mm_t1 (mm_tq5 (List.mem_of_getElem? (i := 16) rfl)) rfl), fun _ h => absurd h List.not_mem_nil⟩⟩⟩⟩⟩⟩⟩⟩⟩⟩⟩⟩
/-- what the rows of a class need -/
theorem mm_cf {ci : Nat} {q : vw_C} (h : vwCl[ci]? = some q) : (∀ w ∈ u_ws q.1 q.2.1 q.2.2, w ∈ mm_tb) ∧ ∃ ty : Nat → FieldType, (∀ k, k < q.2.2 → parseFieldDescriptor (q.2.1 k).2.2.1 = some (ty k)) ∧ ∀ a, a < q.2.2 → ∀ b, b < q.2.2 → a ≠ b → (q.2.1 a).2.1 ≠ (q.2.1 b).2.1 := by
  match ci, h with
  | 0, h => cases h; exact ⟨mm_uw0, tyX0, tyX0_ok, nmX0⟩
  | 1, h => cases h; exact ⟨mm_uw1, tyX1, tyX1_ok, nmX1⟩
  | 2, h => cases h; exact ⟨mm_uw2, tyX2, tyX2_ok, nmX2⟩
  | 3, h => cases h; exact ⟨mm_uw3, tyX3, tyX3_ok, nmX3⟩
  | 4, h => cases h; exact ⟨mm_uw4, tyX4, tyX4_ok, nmX4⟩
  | 5, h => cases h; exact ⟨mm_uw5, tyX5, tyX5_ok, nmX5⟩
  | 6, h => cases h; exact ⟨mm_uw6, tyX6, tyX6_ok, nmX6⟩
theorem mm_okP {o idx : Nat} (h : mm_lk (mm_P o) idx = some 0) : Cond.methodLink (mm_cn o) idx arraycopyName ∈ mm_tb := by
  have hm := mm_lk_mem h
  match o, hm with
  | 0, hm => cases List.mem_singleton.mp hm; exact (mm_t1 (mm_tq3 (List.mem_of_getElem? (i := 26) rfl)) rfl)
  | 1, hm => cases List.mem_singleton.mp hm; exact (mm_t1 (mm_tq3 (List.mem_of_getElem? (i := 27) rfl)) rfl)
  | 2, hm => cases List.mem_singleton.mp hm; exact (mm_t1 (mm_tq3 (List.mem_of_getElem? (i := 19) rfl)) rfl)
  | 3, hm => exact absurd hm List.not_mem_nil
  | 4, hm => exact absurd hm List.not_mem_nil
  | 5, hm => exact absurd hm List.not_mem_nil
  | 6, hm => cases List.mem_singleton.mp hm
  | 7, hm => exact absurd hm List.not_mem_nil
  | n + 8, hm => exact absurd hm List.not_mem_nil
theorem mm_ac1 : Cond.native arraycopyName ∈ mm_tb := (mm_t1 (mm_tq3 (List.mem_of_getElem? (i := 21) rfl)) rfl)
theorem mm_ac2 : Cond.static arraycopyName ∈ mm_tb := (mm_t1 (mm_tq3 (List.mem_of_getElem? (i := 20) rfl)) rfl)
theorem mm_ac3 : Cond.initialized "java/lang/System" ∈ mm_tb := (mm_t1 (mm_tq1 (List.mem_of_getElem? (i := 9) rfl)) rfl)
theorem mm_okI {o idx : Nat} (h : mm_lk (mm_P o) idx = some 1) : o = 6 ∧ Cond.methodLink (mm_cn o) idx yX6_in ∈ mm_tb := by
  have hm := mm_lk_mem h
  match o, hm with
  | 0, hm => cases List.mem_singleton.mp hm
  | 1, hm => cases List.mem_singleton.mp hm
  | 2, hm => cases List.mem_singleton.mp hm
  | 3, hm => exact absurd hm List.not_mem_nil
  | 4, hm => exact absurd hm List.not_mem_nil
  | 5, hm => exact absurd hm List.not_mem_nil
  | 6, hm => cases List.mem_singleton.mp hm; exact ⟨rfl, (mm_t1 (mm_tq4 (List.mem_of_getElem? (i := 213) rfl)) rfl)⟩
  | 7, hm => exact absurd hm List.not_mem_nil
  | n + 8, hm => exact absurd hm List.not_mem_nil
theorem mm_in1 : Cond.static yX6_in ∈ mm_tb := (mm_t1 (mm_tq4 (List.mem_of_getElem? (i := 214) rfl)) rfl)
theorem mm_in2 : Cond.code yX6_in cX6_in 6 (some .boolean) ∈ mm_tb := (mm_t1 (mm_tq4 (List.mem_of_getElem? (i := 215) rfl)) rfl)
theorem mm_in3 : Cond.initialized RX6 ∈ mm_tb := (mm_t1 (mm_tq1 (List.mem_of_getElem? (i := 8) rfl)) rfl)
