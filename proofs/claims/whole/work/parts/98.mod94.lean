section LOOP
variable {p : Program} {l : Launch} {e : Env} {s : State} {m : MethodId} {below : List Frame} {meth : Method} {c : Code} {D : va_G} {cA : Nat → ClassId} {σ : Nat → Nat} {b L : Nat} {xs : Nat → Int32} {oA sa : Nat} {ρX ρM : Nat → Nat} {Q : State → Prop} {kA : Nat} {cK cL : ClassId}
theorem nI_subT {L : Nat} (h : L ≤ 3072) : (nI L - nI 6).toInt = (L : Int) - 6 := by
  rw [Int32.toInt_sub, nI_toInt (by omega), nI_toInt (by omega), Int.bmod_eq_of_le (by omega) (by omega)]
  omega
set_option maxHeartbeats 4000000 in
set_option maxRecDepth 100000 in
theorem law_loop (hlt : l.stackTraces = false) (C : LCx D cA σ p s m meth c b L xs) (hL : L ≤ 3072) (hKA : va_K D vwCl (mm_ty cA ++ [(cK, .object "FoamCells$Foam"), (cL, .long)]) s) (hN1 : va_Nw (.methodLinkNest RX5 9 yX1_init "FoamCells") s) (hN2 : NwF s) (hNX : NXw sa (lwA s) s s.heap)
    (hfin : ∀ (H : Heap) (locs : List Loc) (cells slots : Nat) (ls : Array Slot), va_S (lwA s) s.heap H locs → cells ≤ 601024 → slots ≤ 7293034 → W p l e room_1 s m #[Value.ref b] below meth c H locs cells slots Q (F0 m 1779 ls [])) :
    ∀ (n i : Nat) (K : Fin 2 → Option Fo) (s0 : Fo) (ρK : Fin 2 → Nat → Nat) (μK : Fin 2 → mm_U) (lo : Nat → Int64) (μX μM : mm_U) (H : Heap) (locs : List Loc) (ls : Array Slot), L < i + 6 * n + 6 → i ≤ L → lv_has ls 7 [(0, .ref b), (1, .ref (ρX 0)), (2, .ref (ρM 0)), (3, .ref oA), (4, .int (nI i))] → LSt K s0 μX μM → KpO K μK → LWs D cA s ρX ρM (.ref kA) μX μM (kR cA cK cL kA oA K ρK μK lo) H locs → W p l e room_1 s m #[Value.ref b] below meth c H locs (100 + 3 * i) (20000 + 300 * i) Q (F0 m 23 ls []) := by
  have hKF : va_K D vwCl (mm_ty cA ++ [(cK, .object "FoamCells$Foam")]) s := hKA.sub [0, 1, 2] rfl
  have hKL : va_K D vwCl (mm_ty cA ++ [(cL, .long)]) s := hKA.sub [0, 1, 3] rfl
  have hx := C.1.1
  have hb := C.1.2.1
  obtain ⟨_, _, _, _, _, _, hXX, hbl, _, _⟩ := C.1
  have hbA : ¬ (lwA s) b := Nat.not_le.mpr hbl
  intro n
  induction n with
  | zero =>
    intro i K s0 ρK μK lo μX μM H locs ls hn hi hl St Ke hW
    refine lv_iload hx hb dL_law_23 (lv_at hl 4 rfl) ?_
    refine lv_aload_n hx hb dL_law_25 rfl (lv_at hl 0 rfl) ?_
    refine va_slen hx hb hXX hbl hbA hW.2.2 dL_law_26 ?_
    rw [show Int32.ofNat L = nI L from rfl]
    refine lv_bipush (v := nI 6) hx hb dL_law_27 (by decide) ?_
    refine lv_isub hx hb dL_law_29 ?_
    refine lv_icmp_gt (tgt := 1779) hx hb dL_law_30 (by decide) (fun _ => hfin _ _ _ _ _ hW.2.2 (by omega) (by omega)) (fun q => absurd (Int32.lt_iff_toInt_lt.mpr (by rw [nI_subT hL, nI_toInt (by omega)]; omega)) q)
  | succ n ih =>
    intro i K s0 ρK μK lo μX μM H locs ls hn hi hl St Ke hW
    refine lv_iload hx hb dL_law_23 (lv_at hl 4 rfl) ?_
    refine lv_aload_n hx hb dL_law_25 rfl (lv_at hl 0 rfl) ?_
    refine va_slen hx hb hXX hbl hbA hW.2.2 dL_law_26 ?_
    rw [show Int32.ofNat L = nI L from rfl]
    refine lv_bipush (v := nI 6) hx hb dL_law_27 (by decide) ?_
    refine lv_isub hx hb dL_law_29 ?_
    refine lv_icmp_gt (tgt := 1779) hx hb dL_law_30 (by decide) (fun _ => hfin _ _ _ _ _ hW.2.2 (by omega) (by omega)) (fun q => ?_)
    have h6 : i + 6 ≤ L := by
      rw [Int32.lt_iff_toInt_lt, nI_subT hL, nI_toInt (by omega)] at q
      omega
    have go : ∀ (K1 : Fin 2 → Option Fo) (s1 : Fo) (ρK1 : Fin 2 → Nat → Nat) (μK1 : Fin 2 → mm_U) (lo1 : Nat → Int64) (μX1 μM1 : mm_U) (H1 : Heap) (locs1 : List Loc) (ls1 : Array Slot) (c1 z1 : Nat), c1 ≤ 100 + 3 * (i + 6) → z1 ≤ 20000 + 300 * (i + 6) → lv_has ls1 7 [(0, .ref b), (1, .ref (ρX 0)), (2, .ref (ρM 0)), (3, .ref oA), (4, .int (nI i))] → LSt K1 s1 μX1 μM1 → KpO K1 μK1 → LWs D cA s ρX ρM (.ref kA) μX1 μM1 (kR cA cK cL kA oA K1 ρK1 μK1 lo1) H1 locs1 → W p l e room_1 s m #[Value.ref b] below meth c H1 locs1 c1 z1 Q (F0 m 1773 ls1 []) := by
      intro K1 s1 ρK1 μK1 lo1 μX1 μM1 H1 locs1 ls1 c1 z1 hc1 hz1 hl1 St1 Ke1 hW1
      refine W.widen (k := 100 + 3 * (i + 6)) (n := 20000 + 300 * (i + 6)) hc1 hz1 ?_
      refine lv_iinc (k := 4) (v := nI (i + 6)) hx hb dL_law_1773 hl1 rfl (nI_add i 6) (by omega) rfl (fun ls2 hl2 => ?_)
      refine lv_goto (tgt := 23) hx hb dL_law_1776 (by decide) ?_
      exact ih (i + 6) K1 s1 ρK1 μK1 lo1 μX1 μM1 H1 locs1 ls2 (by omega) h6 (lv_sub hl2 [1, 2, 3, 4, 0] rfl) St1 Ke1 hW1
    refine lv_aload_n hx hb dL_law_33 rfl (lv_at hl 0 rfl) ?_
    refine lv_iload hx hb dL_law_34 (lv_at hl 4 rfl) ?_
    refine va_sld hx hb hXX hbl hbA hW.2.2 (vp_in_nI (by omega) (by omega)) dL_law_36 ?_
    refine lv_bipush (v := nI 63) hx hb dL_law_37 (by decide) ?_
    refine lv_iand hx hb dL_law_39 ?_
    generalize xs (nI i).toNatClampNeg &&& nI 63 = x
    rcases (show (x.toInt < 0 ∨ 42 < x.toInt) ∨ ∃ j : Nat, j < 43 ∧ x = nI j from by
      by_cases h : x.toInt < 0 ∨ 42 < x.toInt
      · exact Or.inl h
      · refine Or.inr ⟨x.toInt.toNat, by omega, Int32.toInt_inj.mp ?_⟩
        rw [nI_toInt (by omega)]
        omega) with hout | ⟨j, hj, rfl⟩
    · refine lv_tableOut (tgt := 1773) hx hb dL_law_40 hout (by decide) ?_
      exact go K s0 ρK μK lo μX μM H locs ls _ _ (by omega) (by omega) hl St Ke hW
    · have hj' : j = 0 ∨ j = 1 ∨ j = 2 ∨ j = 3 ∨ j = 4 ∨ j = 5 ∨ j = 6 ∨ j = 7 ∨ j = 8 ∨ j = 9 ∨ j = 10 ∨ j = 11 ∨ j = 12 ∨ j = 13 ∨ j = 14 ∨ j = 15 ∨ j = 16 ∨ j = 17 ∨ j = 18 ∨ j = 19 ∨ j = 20 ∨ j = 21 ∨ j = 22 ∨ j = 23 ∨ j = 24 ∨ j = 25 ∨ j = 26 ∨ j = 27 ∨ j = 28 ∨ j = 29 ∨ j = 30 ∨ j = 31 ∨ j = 32 ∨ j = 33 ∨ j = 34 ∨ j = 35 ∨ j = 36 ∨ j = 37 ∨ j = 38 ∨ j = 39 ∨ j = 40 ∨ j = 41 ∨ j = 42 := by omega
      rcases hj' with rfl | rfl | rfl | rfl | rfl | rfl | rfl | rfl | rfl | rfl | rfl | rfl | rfl | rfl | rfl | rfl | rfl | rfl | rfl | rfl | rfl | rfl | rfl | rfl | rfl | rfl | rfl | rfl | rfl | rfl | rfl | rfl | rfl | rfl | rfl | rfl | rfl | rfl | rfl | rfl | rfl | rfl | rfl
      · refine lv_tableIn (tgt := 228) hx hb dL_law_40 (by decide) (by decide) rfl (by decide) ?_
        exact law_ring C hL h6 ⟨by omega, by omega⟩ hl St hW (fun s1 μX1 μM1 H1 locs1 St1 hW1 => go K s1 ρK μK lo μX1 μM1 H1 locs1 ls _ _ (by omega) (by omega) hl St1 Ke hW1)
      · refine lv_tableIn (tgt := 265) hx hb dL_law_40 (by decide) (by decide) rfl (by decide) ?_
        exact law_rate C hL h6 ⟨by omega, by omega⟩ hl St hW (fun s1 μX1 μM1 H1 locs1 St1 hW1 => go K s1 ρK μK lo μX1 μM1 H1 locs1 ls _ _ (by omega) (by omega) hl St1 Ke hW1)
      · refine lv_tableIn (tgt := 290) hx hb dL_law_40 (by decide) (by decide) rfl (by decide) ?_
        exact law_area C hL h6 ⟨by omega, by omega⟩ hl St hW (fun s1 μX1 μM1 H1 locs1 St1 hW1 => go K s1 ρK μK lo μX1 μM1 H1 locs1 ls _ _ (by omega) (by omega) hl St1 Ke hW1)
      · refine lv_tableIn (tgt := 327) hx hb dL_law_40 (by decide) (by decide) rfl (by decide) ?_
        exact law_length C hL h6 ⟨by omega, by omega⟩ hl St hW (fun s1 μX1 μM1 H1 locs1 St1 hW1 => go K s1 ρK μK lo μX1 μM1 H1 locs1 ls _ _ (by omega) (by omega) hl St1 Ke hW1)
      · refine lv_tableIn (tgt := 364) hx hb dL_law_40 (by decide) (by decide) rfl (by decide) ?_
        exact law_swap C hL h6 ⟨by omega, by omega⟩ hl St hW (fun s1 μX1 μM1 H1 locs1 St1 hW1 => go K s1 ρK μK lo μX1 μM1 H1 locs1 ls _ _ (by omega) (by omega) hl St1 Ke hW1)
      · refine lv_tableIn (tgt := 389) hx hb dL_law_40 (by decide) (by decide) rfl (by decide) ?_
        exact law_vanish C hL h6 ⟨by omega, by omega⟩ hl St hW (fun s1 μX1 μM1 H1 locs1 St1 hW1 => go K s1 ρK μK lo μX1 μM1 H1 locs1 ls _ _ (by omega) (by omega) hl St1 Ke hW1)
      · refine lv_tableIn (tgt := 414) hx hb dL_law_40 (by decide) (by decide) rfl (by decide) ?_
        exact law_cut C hL h6 ⟨by omega, by omega⟩ hl St hW (fun s1 μX1 μM1 H1 locs1 St1 hW1 => go K s1 ρK μK lo μX1 μM1 H1 locs1 ls _ _ (by omega) (by omega) hl St1 Ke hW1)
      · refine lv_tableIn (tgt := 463) hx hb dL_law_40 (by decide) (by decide) rfl (by decide) ?_
        exact law_burst C hL h6 ⟨by omega, by omega⟩ hl St hW (fun s1 μX1 μM1 H1 locs1 St1 hW1 => go K s1 ρK μK lo μX1 μM1 H1 locs1 ls _ _ (by omega) (by omega) hl St1 Ke hW1)
      · refine lv_tableIn (tgt := 488) hx hb dL_law_40 (by decide) (by decide) rfl (by decide) ?_
        exact law_shake C hL h6 ⟨by omega, by omega⟩ hl St hW (fun s1 μX1 μM1 H1 locs1 St1 hW1 => go K s1 ρK μK lo μX1 μM1 H1 locs1 ls _ _ (by omega) (by omega) hl St1 Ke hW1)
      · refine lv_tableIn (tgt := 537) hx hb dL_law_40 (by decide) (by decide) rfl (by decide) ?_
        exact law_steps C hL h6 ⟨by omega, by omega⟩ hl St hW (fun s1 μX1 μM1 H1 locs1 St1 hW1 => go K s1 ρK μK lo μX1 μM1 H1 locs1 ls _ _ (by omega) (by omega) hl St1 Ke hW1)
      · refine lv_tableIn (tgt := 562) hx hb dL_law_40 (by decide) (by decide) rfl (by decide) ?_
        exact law_relax C hL h6 ⟨by omega, by omega⟩ hl St hW (fun s1 μX1 μM1 H1 locs1 St1 hW1 => go K s1 ρK μK lo μX1 μM1 H1 locs1 ls _ _ (by omega) (by omega) hl St1 Ke hW1)
      · refine lv_tableIn (tgt := 575) hx hb dL_law_40 (by decide) (by decide) rfl (by decide) ?_
        exact law_keep C hL h6 ⟨by omega, by omega⟩ hl hKF hN1 hN2 St Ke hW (fun s1 K1 ρK1 μK1 μX1 μM1 H1 locs1 St1 Ke1 hW1 => go K1 s1 ρK1 μK1 lo μX1 μM1 H1 locs1 ls _ _ (by omega) (by omega) hl St1 Ke1 hW1)
      · refine lv_tableIn (tgt := 600) hx hb dL_law_40 (by decide) (by decide) rfl (by decide) ?_
        exact law_again C hL h6 ⟨by omega, by omega⟩ hl hKF hN1 hN2 St Ke hW (fun s1 K1 ρK1 μK1 μX1 μM1 H1 locs1 St1 Ke1 hW1 => go K1 s1 ρK1 μK1 lo μX1 μM1 H1 locs1 ls _ _ (by omega) (by omega) hl St1 Ke1 hW1)
      · refine lv_tableIn (tgt := 625) hx hb dL_law_40 (by decide) (by decide) rfl (by decide) ?_
        exact law_cell hlt C hL h6 ⟨by omega, by omega⟩ hl hKL hNX St hW (fun lo1 μM1 H1 locs1 ls1 hl1 St1 hW1 => go K s0 ρK μK lo1 μX μM1 H1 locs1 ls1 _ _ (by omega) (by omega) hl1 St1 Ke hW1)
      · refine lv_tableIn (tgt := 693) hx hb dL_law_40 (by decide) (by decide) rfl (by decide) ?_
        exact law_side hlt C hL h6 ⟨by omega, by omega⟩ hl hKL hNX St hW (fun lo1 μM1 H1 locs1 ls1 hl1 St1 hW1 => go K s0 ρK μK lo1 μX μM1 H1 locs1 ls1 _ _ (by omega) (by omega) hl1 St1 Ke hW1)
      · refine lv_tableIn (tgt := 773) hx hb dL_law_40 (by decide) (by decide) rfl (by decide) ?_
        exact law_wall C hL h6 ⟨by omega, by omega⟩ hl St hW (fun s1 μX1 μM1 H1 locs1 St1 hW1 => go K s1 ρK μK lo μX1 μM1 H1 locs1 ls _ _ (by omega) (by omega) hl St1 Ke hW1)
      · refine lv_tableIn (tgt := 810) hx hb dL_law_40 (by decide) (by decide) rfl (by decide) ?_
        exact law_between C hL h6 ⟨by omega, by omega⟩ hl St hW (fun s1 μX1 μM1 H1 locs1 St1 hW1 => go K s1 ρK μK lo μX1 μM1 H1 locs1 ls _ _ (by omega) (by omega) hl St1 Ke hW1)
      · refine lv_tableIn (tgt := 859) hx hb dL_law_40 (by decide) (by decide) rfl (by decide) ?_
        exact law_far C hL h6 ⟨by omega, by omega⟩ hl St hW (fun s1 μX1 μM1 H1 locs1 St1 hW1 => go K s1 ρK μK lo μX1 μM1 H1 locs1 ls _ _ (by omega) (by omega) hl St1 Ke hW1)
      · refine lv_tableIn (tgt := 896) hx hb dL_law_40 (by decide) (by decide) rfl (by decide) ?_
        exact law_shell C hL h6 ⟨by omega, by omega⟩ hl St hW (fun s1 μX1 μM1 H1 locs1 St1 hW1 => go K s1 ρK μK lo μX1 μM1 H1 locs1 ls _ _ (by omega) (by omega) hl St1 Ke hW1)
      · refine lv_tableIn (tgt := 933) hx hb dL_law_40 (by decide) (by decide) rfl (by decide) ?_
        exact law_shellOf C hL h6 ⟨by omega, by omega⟩ hl St hW (fun s1 μX1 μM1 H1 locs1 St1 hW1 => go K s1 ρK μK lo μX1 μM1 H1 locs1 ls _ _ (by omega) (by omega) hl St1 Ke hW1)
      · refine lv_tableIn (tgt := 982) hx hb dL_law_40 (by decide) (by decide) rfl (by decide) ?_
        exact law_way C hL h6 ⟨by omega, by omega⟩ hl St hW (fun s1 μX1 μM1 H1 locs1 St1 hW1 => go K s1 ρK μK lo μX1 μM1 H1 locs1 ls _ _ (by omega) (by omega) hl St1 Ke hW1)
      · refine lv_tableIn (tgt := 1031) hx hb dL_law_40 (by decide) (by decide) rfl (by decide) ?_
        exact law_mutual C hL h6 ⟨by omega, by omega⟩ hl St hW (fun s1 μX1 μM1 H1 locs1 St1 hW1 => go K s1 ρK μK lo μX1 μM1 H1 locs1 ls _ _ (by omega) (by omega) hl St1 Ke hW1)
      · refine lv_tableIn (tgt := 1068) hx hb dL_law_40 (by decide) (by decide) rfl (by decide) ?_
        exact law_about C hL h6 ⟨by omega, by omega⟩ hl St hW (fun s1 μX1 μM1 H1 locs1 St1 hW1 => go K s1 ρK μK lo μX1 μM1 H1 locs1 ls _ _ (by omega) (by omega) hl St1 Ke hW1)
      · refine lv_tableIn (tgt := 1105) hx hb dL_law_40 (by decide) (by decide) rfl (by decide) ?_
        exact law_kind C hL h6 ⟨by omega, by omega⟩ hl St hW (fun s1 μX1 μM1 H1 locs1 St1 hW1 => go K s1 ρK μK lo μX1 μM1 H1 locs1 ls _ _ (by omega) (by omega) hl St1 Ke hW1)
      · refine lv_tableIn (tgt := 1142) hx hb dL_law_40 (by decide) (by decide) rfl (by decide) ?_
        exact law_pairs C hL h6 ⟨by omega, by omega⟩ hl St hW (fun s1 μX1 μM1 H1 locs1 St1 hW1 => go K s1 ρK μK lo μX1 μM1 H1 locs1 ls _ _ (by omega) (by omega) hl St1 Ke hW1)
      · refine lv_tableIn (tgt := 1179) hx hb dL_law_40 (by decide) (by decide) rfl (by decide) ?_
        exact law_ranked C hL h6 ⟨by omega, by omega⟩ hl St hW (fun s1 μX1 μM1 H1 locs1 St1 hW1 => go K s1 ρK μK lo μX1 μM1 H1 locs1 ls _ _ (by omega) (by omega) hl St1 Ke hW1)
      · refine lv_tableIn (tgt := 1204) hx hb dL_law_40 (by decide) (by decide) rfl (by decide) ?_
        exact law_around C hL h6 ⟨by omega, by omega⟩ hl St hW (fun s1 μX1 μM1 H1 locs1 St1 hW1 => go K s1 ρK μK lo μX1 μM1 H1 locs1 ls _ _ (by omega) (by omega) hl St1 Ke hW1)
      · refine lv_tableIn (tgt := 1253) hx hb dL_law_40 (by decide) (by decide) rfl (by decide) ?_
        exact law_rounds C hL h6 ⟨by omega, by omega⟩ hl St hW (fun s1 μX1 μM1 H1 locs1 St1 hW1 => go K s1 ρK μK lo μX1 μM1 H1 locs1 ls _ _ (by omega) (by omega) hl St1 Ke hW1)
      · refine lv_tableIn (tgt := 1290) hx hb dL_law_40 (by decide) (by decide) rfl (by decide) ?_
        exact law_spans C hL h6 ⟨by omega, by omega⟩ hl St hW (fun s1 μX1 μM1 H1 locs1 St1 hW1 => go K s1 ρK μK lo μX1 μM1 H1 locs1 ls _ _ (by omega) (by omega) hl St1 Ke hW1)
      · refine lv_tableIn (tgt := 1339) hx hb dL_law_40 (by decide) (by decide) rfl (by decide) ?_
        exact law_pieces C hL h6 ⟨by omega, by omega⟩ hl St hW (fun s1 μX1 μM1 H1 locs1 St1 hW1 => go K s1 ρK μK lo μX1 μM1 H1 locs1 ls _ _ (by omega) (by omega) hl St1 Ke hW1)
      · refine lv_tableIn (tgt := 1376) hx hb dL_law_40 (by decide) (by decide) rfl (by decide) ?_
        exact law_all C hL h6 ⟨by omega, by omega⟩ hl St hW (fun s1 μX1 μM1 H1 locs1 St1 hW1 => go K s1 ρK μK lo μX1 μM1 H1 locs1 ls _ _ (by omega) (by omega) hl St1 Ke hW1)
      · refine lv_tableIn (tgt := 1401) hx hb dL_law_40 (by decide) (by decide) rfl (by decide) ?_
        exact law_easiest C hL h6 ⟨by omega, by omega⟩ hl St hW (fun s1 μX1 μM1 H1 locs1 St1 hW1 => go K s1 ρK μK lo μX1 μM1 H1 locs1 ls _ _ (by omega) (by omega) hl St1 Ke hW1)
      · refine lv_tableIn (tgt := 1414) hx hb dL_law_40 (by decide) (by decide) rfl (by decide) ?_
        exact law_lowest C hL h6 ⟨by omega, by omega⟩ hl St hW (fun s1 μX1 μM1 H1 locs1 St1 hW1 => go K s1 ρK μK lo μX1 μM1 H1 locs1 ls _ _ (by omega) (by omega) hl St1 Ke hW1)
      · refine lv_tableIn (tgt := 1439) hx hb dL_law_40 (by decide) (by decide) rfl (by decide) ?_
        exact law_reach C hL h6 ⟨by omega, by omega⟩ hl St hW (fun s1 μX1 μM1 H1 locs1 St1 hW1 => go K s1 ρK μK lo μX1 μM1 H1 locs1 ls _ _ (by omega) (by omega) hl St1 Ke hW1)
      · refine lv_tableIn (tgt := 1488) hx hb dL_law_40 (by decide) (by decide) rfl (by decide) ?_
        exact law_alike C hL h6 ⟨by omega, by omega⟩ hl St hW (fun s1 μX1 μM1 H1 locs1 St1 hW1 => go K s1 ρK μK lo μX1 μM1 H1 locs1 ls _ _ (by omega) (by omega) hl St1 Ke hW1)
      · refine lv_tableIn (tgt := 1501) hx hb dL_law_40 (by decide) (by decide) rfl (by decide) ?_
        exact law_until C hL h6 ⟨by omega, by omega⟩ hl St hW (fun s1 μX1 μM1 H1 locs1 St1 hW1 => go K s1 ρK μK lo μX1 μM1 H1 locs1 ls _ _ (by omega) (by omega) hl St1 Ke hW1)
      · refine lv_tableIn (tgt := 1526) hx hb dL_law_40 (by decide) (by decide) rfl (by decide) ?_
        exact law_rested C hL h6 ⟨by omega, by omega⟩ hl St hW (fun s1 μX1 μM1 H1 locs1 St1 hW1 => go K s1 ρK μK lo μX1 μM1 H1 locs1 ls _ _ (by omega) (by omega) hl St1 Ke hW1)
      · refine lv_tableIn (tgt := 1599) hx hb dL_law_40 (by decide) (by decide) rfl (by decide) ?_
        exact law_resting C hL h6 ⟨by omega, by omega⟩ hl St hW (fun s1 μX1 μM1 H1 locs1 St1 hW1 => go K s1 ρK μK lo μX1 μM1 H1 locs1 ls _ _ (by omega) (by omega) hl St1 Ke hW1)
      · refine lv_tableIn (tgt := 1624) hx hb dL_law_40 (by decide) (by decide) rfl (by decide) ?_
        exact law_later C hL h6 ⟨by omega, by omega⟩ hl St hW (fun s1 μX1 μM1 H1 locs1 St1 hW1 => go K s1 ρK μK lo μX1 μM1 H1 locs1 ls _ _ (by omega) (by omega) hl St1 Ke hW1)
      · refine lv_tableIn (tgt := 1661) hx hb dL_law_40 (by decide) (by decide) rfl (by decide) ?_
        exact law_gone C hL h6 ⟨by omega, by omega⟩ hl St hW (fun s1 μX1 μM1 H1 locs1 St1 hW1 => go K s1 ρK μK lo μX1 μM1 H1 locs1 ls _ _ (by omega) (by omega) hl St1 Ke hW1)
      · refine lv_tableIn (tgt := 1686) hx hb dL_law_40 (by decide) (by decide) rfl (by decide) ?_
        exact law_first C hL h6 ⟨by omega, by omega⟩ hl St hW (fun s1 μX1 μM1 H1 locs1 St1 hW1 => go K s1 ρK μK lo μX1 μM1 H1 locs1 ls _ _ (by omega) (by omega) hl St1 Ke hW1)
      · refine lv_tableIn (tgt := 1711) hx hb dL_law_40 (by decide) (by decide) rfl (by decide) ?_
        exact law_log C hL h6 ⟨by omega, by omega⟩ hl St hW (fun s1 μX1 μM1 H1 locs1 St1 hW1 => go K s1 ρK μK lo μX1 μM1 H1 locs1 ls _ _ (by omega) (by omega) hl St1 Ke hW1)
      · refine lv_tableIn (tgt := 1748) hx hb dL_law_40 (by decide) (by decide) rfl (by decide) ?_
        exact law_count C hL h6 ⟨by omega, by omega⟩ hl St hW (fun s1 μX1 μM1 H1 locs1 St1 hW1 => go K s1 ρK μK lo μX1 μM1 H1 locs1 ls _ _ (by omega) (by omega) hl St1 Ke hW1)
end LOOP
