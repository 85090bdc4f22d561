section LWR
theorem pm_2 {α : Type} (X M k0 k1 : List α) (a o : α) : (X ++ (M ++ (k0 ++ (k1 ++ [a, o])))).Perm ((o :: X) ++ (M ++ (k0 ++ (k1 ++ [a])))) := by
  haveI : DecidableEq α := fun x y => Classical.propDecidable (x = y)
  rw [List.perm_iff_count]
  intro x
  simp only [List.count_append, List.count_cons, List.count_nil]
  omega
abbrev kR0 (cA : Nat → ClassId) (cK : ClassId) (kA : Nat) (K : Fin 2 → Option Fo) (ρK : Fin 2 → Nat → Nat) (μK : Fin 2 → mm_U) : va_W := kw1 cA (K 0) (ρK 0) (μK 0) ++ (kw1 cA (K 1) (ρK 1) (μK 1) ++ [kArr kA cK (kRf K ρK)])
theorem kR_pl {cA : Nat → ClassId} {cK cL : ClassId} {kA oA : Nat} {K : Fin 2 → Option Fo} {ρK : Fin 2 → Nat → Nat} {μK : Fin 2 → mm_U} {lo : Nat → Int64} (X M : va_W) : (X ++ (M ++ kR cA cK cL kA oA K ρK μK lo)).Perm ((lAr oA cL lo :: X) ++ (M ++ kR0 cA cK kA K ρK μK)) := pm_2 X M _ _ _ _
variable {p : Program} {l : Launch} {e : Env} {s : State} {m : MethodId} {below : List Frame} {meth : Method} {c : Code} {D : va_G} {cA : Nat → ClassId} {σ : Nat → Nat} {b L : Nat} {xs : Nat → Int32} {i cells slots oA sa : Nat} {K : Fin 2 → Option Fo} {s0 : Fo} {ρX ρM : Nat → Nat} {μX μM : mm_U} {H : Heap} {locs : List Loc} {ls : Array Slot} {Q : State → Prop} {kA : Nat} {cK cL : ClassId} {ρK : Fin 2 → Nat → Nat} {μK : Fin 2 → mm_U} {lo : Nat → Int64}
theorem law_wr {v : Value} {R : va_W} {lo1 : Nat → Int64} {r0 : Int32} {as : List Value} {mc ms idx pc ml n : Nat} {y : MethodName} {cc2 : ByteArray} {hh : List (Nat × Nat × Nat × Nat)} (C : LCx D cA σ p s m meth c b L xs) (hKL : va_K D vwCl (mm_ty cA ++ [(cL, .long)]) s) (hNX : NXw sa (lwA s) s s.heap)
    (hM : Met l y (Cond.codeWith y cc2 ml (some .int) hh :: mm_tb) { frames := 9, cells := mc, slots := ms, locals := 330 } (wrP D cA σ ρX v μX oA cL lo as H.size sa) (wrQ D cA ρX v μX oA cL lo lo1 H.size r0) mc ms (va_A (wW cA ρX v μX oA cL lo) H.size))
    (hy : y.cls = RL) (hyd : (parseMethodDescriptor y.desc).map (fun d => d.parameters.length) = some n) (hyn : as.length = n) (hyc : Cond.codeWith y cc2 ml (some .int) hh ∈ mm_tb) (hyl : Cond.methodLink R_law idx y ∈ mm_tb) (hyi : Cond.static y ∈ mm_tb) (hyo : Cond.initialized RL ∈ mm_tb) (hml2 : ml ≤ 6)
    (hcs : cells + mc ≤ 601024 ∧ slots + ms ≤ 7293034) (hls : ls.size = 7) (hd : decode code pc = .ok (.invokestatic idx, 3))
    (hP : va_P D vwCl (wW cA ρX v μX oA cL lo ++ R) H) (hD : va_D (lwA s) (wW cA ρX v μX oA cL lo ++ R)) (hS : va_S (lwA s) s.heap H locs)
    (kk : ∀ (H1 : Heap) (locs1 : List Loc), va_P D vwCl (wW cA ρX v μX oA cL lo1 ++ R) H1 → va_D (lwA s) (wW cA ρX v μX oA cL lo1 ++ R) → va_S (lwA s) s.heap H1 locs1 → W p l e room_1 s m #[Value.ref b] below meth c H1 locs1 (cells + mc) (slots + ms) Q (F0 m (pc + 3) ls [.int r0])) :
    W p l e room_1 s m #[Value.ref b] below meth c H locs cells slots Q (F0 m pc ls as.reverse) := by
  obtain ⟨⟨hx, hb, hr, hml, hown, hts0, hX, hbl, hlocks, hgv⟩, OX⟩ := C
  obtain ⟨_, _, _, hts, _, hK, hA, hZ⟩ := OX
  obtain ⟨hPc, hPr⟩ := ww_P hP
  obtain ⟨hDc, hDr, hap⟩ := ww_D hD
  have hF : ∀ q, va_A (wW cA ρX v μX oA cL lo) H.size q → lwA s q := fun q h => by
    rcases h with ⟨i, e', hi⟩ | hge
    · exact hDc.2 i (q, e') hi
    · exact Nat.le_trans hS.1 hge
  have gi : GoodIn mm_tb (va_wsS R_law idx y (Cond.codeWith y cc2 ml (some .int) hh :: mm_tb)) := fun w hw => by
    have mem : w ∈ mm_tb := by
      rcases List.mem_append.mp hw with h | h
      · rcases List.mem_cons.mp h with h | h
        · rw [h]; exact hyl
        · rcases List.mem_cons.mp h with h | h
          · rw [h]; exact hyi
          · rw [List.mem_singleton.mp h, hy]; exact hyo
      · rcases List.mem_cons.mp h with h | h
        · rw [h]; exact hyc
        · exact h
    exact ⟨mem, good_of_word (List.mem_filter.mp mem).2⟩
  have cw : vx_CSW room_1 s #[Value.ref b] R_law idx y cc2 ml (some .int) hh (Cond.codeWith y cc2 ml (some .int) hh :: mm_tb) { frames := 9, cells := mc, slots := ms, locals := 330 } mc ms n := vx_cwSW n hts gi rfl rfl rfl ⟨by rw [hy]; decide, by rw [hy]; decide, hyd⟩ ⟨Nat.le_of_ble_eq_true rfl, show 8 + (ml + 11) + 330 ≤ 358 by omega⟩
  unfold wrQ at hM
  refine va_calli (vx_runSW (As := as) (rest := []) ⟨hx, hb, hml, hown, hts⟩ hM cw ⟨wrP_bl, fun U hU hW => ⟨rfl, by rw [hU], by rw [hU]; exact hPc, va_K.moved hW.alike hKL, hDc.weaken (fun _ _ _ _ => trivial), by rw [hU]; exact mm_Z.moved hW (mm_Z.kept hZ hS.1 hS.2.1 hF), by rw [hU]; exact ((hNX.kept hS.2.1).narrow hF).mv hW⟩⟩ rfl hyn hls (List.append_nil _).symm (lv_room (Nat.le_of_ble_eq_true rfl)) hd hcs) hS (fun q _ h => hF q h) hF (fun r u t H1 locs1 ht hvm hw hB hz1 hk1 hS1 => ?_)
  obtain ⟨hP1, hK1, hD1⟩ := hB
  rw [ht] at hP1
  obtain ⟨hP2, hD2⟩ := ww_call hP hD hS hA hk1 hP1 hD1
  have hw : r = r0 := hw
  subst hw
  exact kk H1 locs1 hP2 hD2 hS1
theorem lcmp_self (x : Int64) : lg_cmp x x = nI 0 := by
  unfold lg_cmp
  rw [if_neg (Int64.lt_irrefl)]
  first | rfl | (rw [if_neg (Int64.lt_irrefl)]; rfl) | (rw [if_pos rfl]; rfl)
theorem lw_cell_d : (parseMethodDescriptor yL_cell.desc).map (fun d => d.parameters.length) = some 4 := by decide +kernel
theorem lw_cell_c : Cond.codeWith yL_cell cL_cell 5 (some .int) [(0, 10, 13, 13)] ∈ mm_tb := (mm_t1 (mm_tq4 (List.mem_of_getElem? (i := 108) rfl)) rfl)
theorem lw_cell_l : Cond.methodLink R_law 78 yL_cell ∈ mm_tb := (mm_t1 (mm_tq4 (List.mem_of_getElem? (i := 106) rfl)) rfl)
theorem lw_cell_s : Cond.static yL_cell ∈ mm_tb := (mm_t1 (mm_tq4 (List.mem_of_getElem? (i := 107) rfl)) rfl)
theorem lw_side_d : (parseMethodDescriptor yL_side.desc).map (fun d => d.parameters.length) = some 5 := by decide +kernel
theorem lw_side_c : Cond.codeWith yL_side cL_side 6 (some .int) [(0, 12, 15, 13)] ∈ mm_tb := (mm_t1 (mm_tq4 (List.mem_of_getElem? (i := 195) rfl)) rfl)
theorem lw_side_l : Cond.methodLink R_law 87 yL_side ∈ mm_tb := (mm_t1 (mm_tq4 (List.mem_of_getElem? (i := 193) rfl)) rfl)
theorem lw_side_s : Cond.static yL_side ∈ mm_tb := (mm_t1 (mm_tq4 (List.mem_of_getElem? (i := 194) rfl)) rfl)
theorem lw_ini : Cond.initialized RL ∈ mm_tb := (mm_t1 (mm_tq1 (List.mem_of_getElem? (i := 0) rfl)) rfl)
set_option maxRecDepth 100000 in
theorem law_cell (hlt : l.stackTraces = false) (C : LCx D cA σ p s m meth c b L xs) (hL : L ≤ 3072) (hi : i + 6 ≤ L) (hcs : cells + 1 ≤ 601024 ∧ slots + 6 ≤ 7293034) (hl : lv_has ls 7 [(0, .ref b), (1, .ref (ρX 0)), (2, .ref (ρM 0)), (3, .ref oA), (4, .int (nI i))]) (hKL : va_K D vwCl (mm_ty cA ++ [(cL, .long)]) s) (hNX : NXw sa (lwA s) s s.heap) (St : LSt K s0 μX μM) (hW : LWs D cA s ρX ρM (.ref kA) μX μM (kR cA cK cL kA oA K ρK μK lo) H locs) (nxt : ∀ (lo1 : Nat → Int64) (μM1 : mm_U) (H1 : Heap) (locs1 : List Loc) (ls1 : Array Slot), lv_has ls1 7 [(0, .ref b), (1, .ref (ρX 0)), (2, .ref (ρM 0)), (3, .ref oA), (4, .int (nI i))] → LSt K s0 μX μM1 → LWs D cA s ρX ρM (.ref kA) μX μM1 (kR cA cK cL kA oA K ρK μK lo1) H1 locs1 → W p l e room_1 s m #[Value.ref b] below meth c H1 locs1 (cells + 1) (slots + 6) Q (F0 m 1773 ls1 [])) : W p l e room_1 s m #[Value.ref b] below meth c H locs cells slots Q (F0 m 625 ls []) := by
  obtain ⟨hI, RX, RM, g0, SX, HK⟩ := id St
  have J := hI.1
  have hx := C.1.1
  have hb := C.1.2.1
  refine lv_aload_n hx hb dL_law_625 rfl (lv_at hl 1 rfl) ?_
  refine law_arg (j := 1) C hW.2.2 (lv_at hl 0 rfl) (lv_at hl 4 rfl) (by omega) hL rfl dL_law_626 dL_law_627 dL_law_629 dL_law_630 dL_law_631 ?_
  refine law_arg (j := 2) C hW.2.2 (lv_at hl 0 rfl) (lv_at hl 4 rfl) (by omega) hL rfl dL_law_632 dL_law_633 dL_law_635 dL_law_636 dL_law_637 ?_
  refine lv_aload_n hx hb dL_law_638 rfl (lv_at hl 3 rfl) ?_
  have pm := fun (lo : Nat → Int64) => kR_pl (cA := cA) (cK := cK) (cL := cL) (kA := kA) (oA := oA) (K := K) (ρK := ρK) (μK := μK) (lo := lo) (mm_w 37 ρX cA (shL (xL (.ref kA))) μX) (mm_w 10 ρM cA (shL (moL 0)) μM)
  cases ec : ceO s0.1 (xs (i + 1)) with
  | none =>
    refine law_wr (as := [.ref (ρX 0), .int (xs (i + 1)), .int (xs (i + 2)), .ref oA]) C hKL hNX (kw_cellX l hlt D cA σ ρX (.ref kA) μX oA cL lo s0 RX J (xs (i + 1)) (xs (i + 2)) ec H.size sa) rfl lw_cell_d rfl lw_cell_c lw_cell_l lw_cell_s lw_ini (by omega) ⟨by omega, by omega⟩ hl.1 dL_law_639 (pw_P (pm lo) hW.1) (pw_D (pm lo) hW.2.1) hW.2.2 (fun H1 locs1 hP hD hS => ?_)
    have hW1 : LWs D cA s ρX ρM (.ref kA) μX μM (kR cA cK cL kA oA K ρK μK lo) H1 locs1 := ⟨pw_P (pm lo).symm hP, pw_D (pm lo).symm hD, hS⟩
    refine lv_istore hx hb dL_law_642 hl (by omega) (show _ = (5, .int (nI 1)) :: [(0, .ref b), (1, .ref (ρX 0)), (2, .ref (ρM 0)), (3, .ref oA), (4, .int (nI i))] from rfl) (fun ls2 hl => ?_)
    refine lv_aload_n hx hb dL_law_644 rfl (lv_at hl 3 rfl) ?_
    refine law_arg (j := 1) C hW1.2.2 (lv_at hl 1 rfl) (lv_at hl 5 rfl) (by omega) hL rfl dL_law_645 dL_law_646 dL_law_648 dL_law_649 dL_law_650 ?_
    refine law_arg (j := 2) C hW1.2.2 (lv_at hl 1 rfl) (lv_at hl 5 rfl) (by omega) hL rfl dL_law_651 dL_law_652 dL_law_654 dL_law_655 dL_law_656 ?_
    refine law_m (as := [.int (xs (i + 1)), .int (xs (i + 2))]) (rest := []) C vL_83 (m_cellN shM_ok RM J g0 (xs (i + 1)) (xs (i + 2)) ec) rfl rfl rfl (by decide) ⟨by decide, by decide⟩ ⟨by omega, by omega⟩ hl.1 (Nat.le_of_ble_eq_true rfl) dL_law_657 hW1 (fun r μM1 H2 locs2 hq2 hW2 => ?_)
    obtain ⟨rfl, RM1, m7, m0, fr⟩ := hq2
    have St1 : LSt K s0 μX μM1 := ⟨hI, RX, RM1, m7, ⟨fun k hk => by rw [fr 5 (by omega) (by omega)]; exact SX.1 k hk, fun k hk => by rw [fr 6 (by omega) (by omega)]; exact SX.2 k hk⟩, HK.cg (fr 3 (by omega) (by omega)) (fr 4 (by omega) (by omega))⟩
    refine lv_istore hx hb dL_law_660 hl (by omega) (show _ = (6, .int (nI 0)) :: (5, .int (nI 1)) :: [(0, .ref b), (1, .ref (ρX 0)), (2, .ref (ρM 0)), (3, .ref oA), (4, .int (nI i))] from rfl) (fun ls3 hl => ?_)
    refine lv_aload_n hx hb dL_law_662 rfl (lv_at hl 4 rfl) ?_
    refine law_m (as := []) (rest := []) (Qc := fun r μ' => r = some (.int (μM1 0 0)) ∧ μ' = μM1) C vL_84 (by rw [m_thrown shM_ok]; exact ⟨rfl, rfl⟩) rfl rfl rfl (by decide) ⟨by decide, by decide⟩ ⟨by omega, by omega⟩ hl.1 (Nat.le_of_ble_eq_true rfl) dL_law_663 hW2 (fun r μM2 H3 locs3 hq3 hW3 => ?_)
    obtain ⟨rfl, hμ⟩ := hq3
    rw [hμ] at hW3
    have hl5 : lv_has ls3 7 [(0, .ref b), (1, .ref (ρX 0)), (2, .ref (ρM 0)), (3, .ref oA), (4, .int (nI i))] := lv_sub hl [2, 3, 4, 5, 6] rfl
    refine lv_iload hx hb dL_law_666 (lv_at hl 1 rfl) ?_
    refine lv_icmp_eq (tgt := 673) hx hb dL_law_668 (by decide) (fun _ => ?_) (fun ne => absurd m0 ne)
    refine lv_iload hx hb dL_law_673 (lv_at hl 1 rfl) ?_
    refine lv_if_ne (tgt := 690) hx hb dL_law_675 (by decide) (fun _ => ?_) (fun q => absurd q (by decide))
    refine lv_goto (tgt := 1773) hx hb dL_law_690 (by decide) ?_
    exact nxt _ _ _ _ _ hl5 St1 hW3
  | some k =>
    obtain ⟨e1, hc⟩ := ceO_some ec
    rw [e1]
    refine law_wr (as := [.ref (ρX 0), .int (nI k.val), .int (xs (i + 2)), .ref oA]) C hKL hNX (kw_cellS l hlt D cA σ ρX (.ref kA) μX oA cL lo s0 RX J k hc (xs (i + 2)) H.size sa) rfl lw_cell_d rfl lw_cell_c lw_cell_l lw_cell_s lw_ini (by omega) ⟨by omega, by omega⟩ hl.1 dL_law_639 (pw_P (pm lo) hW.1) (pw_D (pm lo) hW.2.1) hW.2.2 (fun H1 locs1 hP hD hS => ?_)
    have hW1 : LWs D cA s ρX ρM (.ref kA) μX μM (kR cA cK cL kA oA K ρK μK (vp_updL lo 0 (a_cell s0.1 k (xs (i + 2))).toInt64)) H1 locs1 := ⟨pw_P (pm (vp_updL lo 0 (a_cell s0.1 k (xs (i + 2))).toInt64)).symm hP, pw_D (pm (vp_updL lo 0 (a_cell s0.1 k (xs (i + 2))).toInt64)).symm hD, hS⟩
    refine W.widen (k := cells + 1) (n := slots + 6) (by omega) (by omega) ?_
    refine lv_istore hx hb dL_law_642 hl (by omega) (show _ = (5, .int (nI 0)) :: [(0, .ref b), (1, .ref (ρX 0)), (2, .ref (ρM 0)), (3, .ref oA), (4, .int (nI i))] from rfl) (fun ls2 hl => ?_)
    refine lv_aload_n hx hb dL_law_644 rfl (lv_at hl 3 rfl) ?_
    refine law_arg (j := 1) C hW1.2.2 (lv_at hl 1 rfl) (lv_at hl 5 rfl) (by omega) hL rfl dL_law_645 dL_law_646 dL_law_648 dL_law_649 dL_law_650 ?_
    refine law_arg (j := 2) C hW1.2.2 (lv_at hl 1 rfl) (lv_at hl 5 rfl) (by omega) hL rfl dL_law_651 dL_law_652 dL_law_654 dL_law_655 dL_law_656 ?_
    rw [e1]
    refine law_m (as := [.int (nI k.val), .int (xs (i + 2))]) (rest := []) C vL_83 (m_cellS shM_ok RM J g0 k (xs (i + 2)) hc) rfl rfl rfl (by decide) ⟨by decide, by decide⟩ ⟨by omega, by omega⟩ hl.1 (Nat.le_of_ble_eq_true rfl) dL_law_657 hW1 (fun r μM1 H2 locs2 hq2 hW2 => ?_)
    obtain ⟨rfl, RM1, J1, m7, m0, fr⟩ := hq2
    have St1 : LSt K s0 μX μM1 := ⟨hI, RX, RM1, m7, ⟨fun k hk => by rw [fr 5 (by omega) (by omega)]; exact SX.1 k hk, fun k hk => by rw [fr 6 (by omega) (by omega)]; exact SX.2 k hk⟩, HK.cg (fr 3 (by omega) (by omega)) (fr 4 (by omega) (by omega))⟩
    refine lv_istore hx hb dL_law_660 hl (by omega) (show _ = (6, .int (a_cell s0.1 k (xs (i + 2)))) :: (5, .int (nI 0)) :: [(0, .ref b), (1, .ref (ρX 0)), (2, .ref (ρM 0)), (3, .ref oA), (4, .int (nI i))] from rfl) (fun ls3 hl => ?_)
    refine lv_aload_n hx hb dL_law_662 rfl (lv_at hl 4 rfl) ?_
    refine law_m (as := []) (rest := []) (Qc := fun r μ' => r = some (.int (μM1 0 0)) ∧ μ' = μM1) C vL_84 (by rw [m_thrown shM_ok]; exact ⟨rfl, rfl⟩) rfl rfl rfl (by decide) ⟨by decide, by decide⟩ ⟨by omega, by omega⟩ hl.1 (Nat.le_of_ble_eq_true rfl) dL_law_663 hW2 (fun r μM2 H3 locs3 hq3 hW3 => ?_)
    obtain ⟨rfl, hμ⟩ := hq3
    rw [hμ] at hW3
    have hl5 : lv_has ls3 7 [(0, .ref b), (1, .ref (ρX 0)), (2, .ref (ρM 0)), (3, .ref oA), (4, .int (nI i))] := lv_sub hl [2, 3, 4, 5, 6] rfl
    refine lv_iload hx hb dL_law_666 (lv_at hl 1 rfl) ?_
    refine lv_icmp_eq (tgt := 673) hx hb dL_law_668 (by decide) (fun _ => ?_) (fun ne => absurd m0 ne)
    refine lv_iload hx hb dL_law_673 (lv_at hl 1 rfl) ?_
    refine lv_if_ne (tgt := 690) hx hb dL_law_675 (by decide) (fun q => absurd rfl q) (fun _ => ?_)
    refine lv_aload_n hx hb dL_law_678 rfl (lv_at hl 5 rfl) ?_
    refine lv_iconst (v := nI 0) hx hb dL_law_679 (by decide) ?_
    have pm3 := kR_pl (cA := cA) (cK := cK) (cL := cL) (kA := kA) (oA := oA) (K := K) (ρK := ρK) (μK := μK) (lo := (vp_updL lo 0 (a_cell s0.1 k (xs (i + 2))).toInt64)) (mm_w 37 ρX cA (shL (xL (.ref kA))) μX) (mm_w 10 ρM cA (shL (moL 0)) μM1)
    refine va_lald hx hb hKL (pw_P pm3 hW3.1) 0 2 rfl rfl (vp_in_nI (by omega) (by omega)) dL_law_680 ?_
    refine lv_iload hx hb dL_law_681 (lv_at hl 0 rfl) ?_
    refine lv_i2l hx hb dL_law_683 rfl ?_
    refine W.lcmp hx hb dL_law_684 ?_
    rw [show ((vp_updL lo 0 (a_cell s0.1 k (xs (i + 2))).toInt64)) (nI 0).toNatClampNeg = (a_cell s0.1 k (xs (i + 2))).toInt64 from rfl, lcmp_self]
    refine lv_if_eq (tgt := 690) hx hb dL_law_685 (by decide) (fun _ => ?_) (fun q => absurd rfl q)
    refine lv_goto (tgt := 1773) hx hb dL_law_690 (by decide) ?_
    exact nxt _ _ _ _ _ hl5 St1 hW3
set_option maxRecDepth 100000 in
theorem law_side (hlt : l.stackTraces = false) (C : LCx D cA σ p s m meth c b L xs) (hL : L ≤ 3072) (hi : i + 6 ≤ L) (hcs : cells + 1 ≤ 601024 ∧ slots + 6 ≤ 7293034) (hl : lv_has ls 7 [(0, .ref b), (1, .ref (ρX 0)), (2, .ref (ρM 0)), (3, .ref oA), (4, .int (nI i))]) (hKL : va_K D vwCl (mm_ty cA ++ [(cL, .long)]) s) (hNX : NXw sa (lwA s) s s.heap) (St : LSt K s0 μX μM) (hW : LWs D cA s ρX ρM (.ref kA) μX μM (kR cA cK cL kA oA K ρK μK lo) H locs) (nxt : ∀ (lo1 : Nat → Int64) (μM1 : mm_U) (H1 : Heap) (locs1 : List Loc) (ls1 : Array Slot), lv_has ls1 7 [(0, .ref b), (1, .ref (ρX 0)), (2, .ref (ρM 0)), (3, .ref oA), (4, .int (nI i))] → LSt K s0 μX μM1 → LWs D cA s ρX ρM (.ref kA) μX μM1 (kR cA cK cL kA oA K ρK μK lo1) H1 locs1 → W p l e room_1 s m #[Value.ref b] below meth c H1 locs1 (cells + 1) (slots + 6) Q (F0 m 1773 ls1 [])) : W p l e room_1 s m #[Value.ref b] below meth c H locs cells slots Q (F0 m 693 ls []) := by
  obtain ⟨hI, RX, RM, g0, SX, HK⟩ := id St
  have J := hI.1
  have hx := C.1.1
  have hb := C.1.2.1
  refine lv_aload_n hx hb dL_law_693 rfl (lv_at hl 1 rfl) ?_
  refine law_arg (j := 1) C hW.2.2 (lv_at hl 0 rfl) (lv_at hl 4 rfl) (by omega) hL rfl dL_law_694 dL_law_695 dL_law_697 dL_law_698 dL_law_699 ?_
  refine law_arg (j := 2) C hW.2.2 (lv_at hl 0 rfl) (lv_at hl 4 rfl) (by omega) hL rfl dL_law_700 dL_law_701 dL_law_703 dL_law_704 dL_law_705 ?_
  refine law_arg (j := 3) C hW.2.2 (lv_at hl 0 rfl) (lv_at hl 4 rfl) (by omega) hL rfl dL_law_706 dL_law_707 dL_law_709 dL_law_710 dL_law_711 ?_
  refine lv_aload_n hx hb dL_law_712 rfl (lv_at hl 3 rfl) ?_
  have pm := fun (lo : Nat → Int64) => kR_pl (cA := cA) (cK := cK) (cL := cL) (kA := kA) (oA := oA) (K := K) (ρK := ρK) (μK := μK) (lo := lo) (mm_w 37 ρX cA (shL (xL (.ref kA))) μX) (mm_w 10 ρM cA (shL (moL 0)) μM)
  cases ec : ceO s0.1 (xs (i + 1)) with
  | none =>
    refine law_wr (as := [.ref (ρX 0), .int (xs (i + 1)), .int (xs (i + 2)), .int (xs (i + 3)), .ref oA]) C hKL hNX (kw_sideX l hlt D cA σ ρX (.ref kA) μX oA cL lo s0 RX J (xs (i + 1)) (xs (i + 2)) (xs (i + 3)) ec H.size sa) rfl lw_side_d rfl lw_side_c lw_side_l lw_side_s lw_ini (by omega) ⟨by omega, by omega⟩ hl.1 dL_law_713 (pw_P (pm lo) hW.1) (pw_D (pm lo) hW.2.1) hW.2.2 (fun H1 locs1 hP hD hS => ?_)
    have hW1 : LWs D cA s ρX ρM (.ref kA) μX μM (kR cA cK cL kA oA K ρK μK lo) H1 locs1 := ⟨pw_P (pm lo).symm hP, pw_D (pm lo).symm hD, hS⟩
    refine lv_istore hx hb dL_law_716 hl (by omega) (show _ = (5, .int (nI 1)) :: [(0, .ref b), (1, .ref (ρX 0)), (2, .ref (ρM 0)), (3, .ref oA), (4, .int (nI i))] from rfl) (fun ls2 hl => ?_)
    refine lv_aload_n hx hb dL_law_718 rfl (lv_at hl 3 rfl) ?_
    refine law_arg (j := 1) C hW1.2.2 (lv_at hl 1 rfl) (lv_at hl 5 rfl) (by omega) hL rfl dL_law_719 dL_law_720 dL_law_722 dL_law_723 dL_law_724 ?_
    refine law_arg (j := 2) C hW1.2.2 (lv_at hl 1 rfl) (lv_at hl 5 rfl) (by omega) hL rfl dL_law_725 dL_law_726 dL_law_728 dL_law_729 dL_law_730 ?_
    refine law_arg (j := 3) C hW1.2.2 (lv_at hl 1 rfl) (lv_at hl 5 rfl) (by omega) hL rfl dL_law_731 dL_law_732 dL_law_734 dL_law_735 dL_law_736 ?_
    refine law_m (as := [.int (xs (i + 1)), .int (xs (i + 2)), .int (xs (i + 3))]) (rest := []) C vL_90 (m_sideN shM_ok RM J g0 (xs (i + 1)) (xs (i + 2)) (xs (i + 3)) ec) rfl rfl rfl (by decide) ⟨by decide, by decide⟩ ⟨by omega, by omega⟩ hl.1 (Nat.le_of_ble_eq_true rfl) dL_law_737 hW1 (fun r μM1 H2 locs2 hq2 hW2 => ?_)
    obtain ⟨rfl, RM1, m7, m0, fr⟩ := hq2
    have St1 : LSt K s0 μX μM1 := ⟨hI, RX, RM1, m7, ⟨fun k hk => by rw [fr 5 (by omega) (by omega)]; exact SX.1 k hk, fun k hk => by rw [fr 6 (by omega) (by omega)]; exact SX.2 k hk⟩, HK.cg (fr 3 (by omega) (by omega)) (fr 4 (by omega) (by omega))⟩
    refine lv_istore hx hb dL_law_740 hl (by omega) (show _ = (6, .int (nI 0)) :: (5, .int (nI 1)) :: [(0, .ref b), (1, .ref (ρX 0)), (2, .ref (ρM 0)), (3, .ref oA), (4, .int (nI i))] from rfl) (fun ls3 hl => ?_)
    refine lv_aload_n hx hb dL_law_742 rfl (lv_at hl 4 rfl) ?_
    refine law_m (as := []) (rest := []) (Qc := fun r μ' => r = some (.int (μM1 0 0)) ∧ μ' = μM1) C vL_84 (by rw [m_thrown shM_ok]; exact ⟨rfl, rfl⟩) rfl rfl rfl (by decide) ⟨by decide, by decide⟩ ⟨by omega, by omega⟩ hl.1 (Nat.le_of_ble_eq_true rfl) dL_law_743 hW2 (fun r μM2 H3 locs3 hq3 hW3 => ?_)
    obtain ⟨rfl, hμ⟩ := hq3
    rw [hμ] at hW3
    have hl5 : lv_has ls3 7 [(0, .ref b), (1, .ref (ρX 0)), (2, .ref (ρM 0)), (3, .ref oA), (4, .int (nI i))] := lv_sub hl [2, 3, 4, 5, 6] rfl
    refine lv_iload hx hb dL_law_746 (lv_at hl 1 rfl) ?_
    refine lv_icmp_eq (tgt := 753) hx hb dL_law_748 (by decide) (fun _ => ?_) (fun ne => absurd m0 ne)
    refine lv_iload hx hb dL_law_753 (lv_at hl 1 rfl) ?_
    refine lv_if_ne (tgt := 770) hx hb dL_law_755 (by decide) (fun _ => ?_) (fun q => absurd q (by decide))
    refine lv_goto (tgt := 1773) hx hb dL_law_770 (by decide) ?_
    exact nxt _ _ _ _ _ hl5 St1 hW3
  | some k =>
    obtain ⟨e1, hc⟩ := ceO_some ec
    rw [e1]
    refine law_wr (as := [.ref (ρX 0), .int (nI k.val), .int (xs (i + 2)), .int (xs (i + 3)), .ref oA]) C hKL hNX (kw_sideS l hlt D cA σ ρX (.ref kA) μX oA cL lo s0 RX J k hc (xs (i + 2)) (xs (i + 3)) H.size sa) rfl lw_side_d rfl lw_side_c lw_side_l lw_side_s lw_ini (by omega) ⟨by omega, by omega⟩ hl.1 dL_law_713 (pw_P (pm lo) hW.1) (pw_D (pm lo) hW.2.1) hW.2.2 (fun H1 locs1 hP hD hS => ?_)
    have hW1 : LWs D cA s ρX ρM (.ref kA) μX μM (kR cA cK cL kA oA K ρK μK (vp_updL lo 0 (a_side s0.1 k (xs (i + 2)) (xs (i + 3))).toInt64)) H1 locs1 := ⟨pw_P (pm (vp_updL lo 0 (a_side s0.1 k (xs (i + 2)) (xs (i + 3))).toInt64)).symm hP, pw_D (pm (vp_updL lo 0 (a_side s0.1 k (xs (i + 2)) (xs (i + 3))).toInt64)).symm hD, hS⟩
    refine W.widen (k := cells + 1) (n := slots + 6) (by omega) (by omega) ?_
    refine lv_istore hx hb dL_law_716 hl (by omega) (show _ = (5, .int (nI 0)) :: [(0, .ref b), (1, .ref (ρX 0)), (2, .ref (ρM 0)), (3, .ref oA), (4, .int (nI i))] from rfl) (fun ls2 hl => ?_)
    refine lv_aload_n hx hb dL_law_718 rfl (lv_at hl 3 rfl) ?_
    refine law_arg (j := 1) C hW1.2.2 (lv_at hl 1 rfl) (lv_at hl 5 rfl) (by omega) hL rfl dL_law_719 dL_law_720 dL_law_722 dL_law_723 dL_law_724 ?_
    refine law_arg (j := 2) C hW1.2.2 (lv_at hl 1 rfl) (lv_at hl 5 rfl) (by omega) hL rfl dL_law_725 dL_law_726 dL_law_728 dL_law_729 dL_law_730 ?_
    refine law_arg (j := 3) C hW1.2.2 (lv_at hl 1 rfl) (lv_at hl 5 rfl) (by omega) hL rfl dL_law_731 dL_law_732 dL_law_734 dL_law_735 dL_law_736 ?_
    rw [e1]
    refine law_m (as := [.int (nI k.val), .int (xs (i + 2)), .int (xs (i + 3))]) (rest := []) C vL_90 (m_sideS shM_ok RM J g0 k (xs (i + 2)) (xs (i + 3)) hc) rfl rfl rfl (by decide) ⟨by decide, by decide⟩ ⟨by omega, by omega⟩ hl.1 (Nat.le_of_ble_eq_true rfl) dL_law_737 hW1 (fun r μM1 H2 locs2 hq2 hW2 => ?_)
    obtain ⟨rfl, RM1, J1, m7, m0, fr⟩ := hq2
    have St1 : LSt K s0 μX μM1 := ⟨hI, RX, RM1, m7, ⟨fun k hk => by rw [fr 5 (by omega) (by omega)]; exact SX.1 k hk, fun k hk => by rw [fr 6 (by omega) (by omega)]; exact SX.2 k hk⟩, HK.cg (fr 3 (by omega) (by omega)) (fr 4 (by omega) (by omega))⟩
    refine lv_istore hx hb dL_law_740 hl (by omega) (show _ = (6, .int (a_side s0.1 k (xs (i + 2)) (xs (i + 3)))) :: (5, .int (nI 0)) :: [(0, .ref b), (1, .ref (ρX 0)), (2, .ref (ρM 0)), (3, .ref oA), (4, .int (nI i))] from rfl) (fun ls3 hl => ?_)
    refine lv_aload_n hx hb dL_law_742 rfl (lv_at hl 4 rfl) ?_
    refine law_m (as := []) (rest := []) (Qc := fun r μ' => r = some (.int (μM1 0 0)) ∧ μ' = μM1) C vL_84 (by rw [m_thrown shM_ok]; exact ⟨rfl, rfl⟩) rfl rfl rfl (by decide) ⟨by decide, by decide⟩ ⟨by omega, by omega⟩ hl.1 (Nat.le_of_ble_eq_true rfl) dL_law_743 hW2 (fun r μM2 H3 locs3 hq3 hW3 => ?_)
    obtain ⟨rfl, hμ⟩ := hq3
    rw [hμ] at hW3
    have hl5 : lv_has ls3 7 [(0, .ref b), (1, .ref (ρX 0)), (2, .ref (ρM 0)), (3, .ref oA), (4, .int (nI i))] := lv_sub hl [2, 3, 4, 5, 6] rfl
    refine lv_iload hx hb dL_law_746 (lv_at hl 1 rfl) ?_
    refine lv_icmp_eq (tgt := 753) hx hb dL_law_748 (by decide) (fun _ => ?_) (fun ne => absurd m0 ne)
    refine lv_iload hx hb dL_law_753 (lv_at hl 1 rfl) ?_
    refine lv_if_ne (tgt := 770) hx hb dL_law_755 (by decide) (fun q => absurd rfl q) (fun _ => ?_)
    refine lv_aload_n hx hb dL_law_758 rfl (lv_at hl 5 rfl) ?_
    refine lv_iconst (v := nI 0) hx hb dL_law_759 (by decide) ?_
    have pm3 := kR_pl (cA := cA) (cK := cK) (cL := cL) (kA := kA) (oA := oA) (K := K) (ρK := ρK) (μK := μK) (lo := (vp_updL lo 0 (a_side s0.1 k (xs (i + 2)) (xs (i + 3))).toInt64)) (mm_w 37 ρX cA (shL (xL (.ref kA))) μX) (mm_w 10 ρM cA (shL (moL 0)) μM1)
    refine va_lald hx hb hKL (pw_P pm3 hW3.1) 0 2 rfl rfl (vp_in_nI (by omega) (by omega)) dL_law_760 ?_
    refine lv_iload hx hb dL_law_761 (lv_at hl 0 rfl) ?_
    refine lv_i2l hx hb dL_law_763 rfl ?_
    refine W.lcmp hx hb dL_law_764 ?_
    rw [show ((vp_updL lo 0 (a_side s0.1 k (xs (i + 2)) (xs (i + 3))).toInt64)) (nI 0).toNatClampNeg = (a_side s0.1 k (xs (i + 2)) (xs (i + 3))).toInt64 from rfl, lcmp_self]
    refine lv_if_eq (tgt := 770) hx hb dL_law_765 (by decide) (fun _ => ?_) (fun q => absurd rfl q)
    refine lv_goto (tgt := 1773) hx hb dL_law_770 (by decide) ?_
    exact nxt _ _ _ _ _ hl5 St1 hW3
end LWR
