section LAWK
variable {p : Program} {l : Launch} {e : Env} {s : State} {m : MethodId} {below : List Frame} {meth : Method} {c : Code} {D : va_G} {cA : Nat → ClassId} {σ : Nat → Nat} {b L : Nat} {xs : Nat → Int32} {i cells slots oA : Nat} {K : Fin 2 → Option Fo} {s0 : Fo} {ρX ρM : Nat → Nat}  {μX μM : mm_U}  {H : Heap} {locs : List Loc} {ls : Array Slot} {Q : State → Prop} {kA : Nat} {cK cL : ClassId} {ρK : Fin 2 → Nat → Nat} {μK : Fin 2 → mm_U} {lo : Nat → Int64}
theorem law_keep (C : LCx D cA σ p s m meth c b L xs) (hL : L ≤ 3072) (hi : i + 6 ≤ L) (hcs : cells + 15 ≤ 601024 ∧ slots + 1798 ≤ 7293034) (hl : lv_has ls 7 [(0, .ref b), (1, .ref (ρX 0)), (2, .ref (ρM 0)), (3, .ref oA), (4, .int (nI i))]) (hKK : va_K D vwCl (mm_ty cA ++ [(cK, .object "FoamCells$Foam")]) s) (hN1 : va_Nw (.methodLinkNest RX5 9 yX1_init "FoamCells") s) (hN2 : NwF s) (St : LSt K s0 μX μM) (Ke : KpO K μK) (hW : LWs D cA s ρX ρM (.ref kA) μX μM (kR cA cK cL kA oA K ρK μK lo) H locs) (nxt : ∀ (s1 : Fo) (K1 : Fin 2 → Option Fo) (ρK1 : Fin 2 → Nat → Nat) (μK1 : Fin 2 → mm_U) (μX1 μM1 : mm_U) (H1 : Heap) (locs1 : List Loc), LSt K1 s1 μX1 μM1 → KpO K1 μK1 → LWs D cA s ρX ρM (.ref kA) μX1 μM1 (kR cA cK cL kA oA K1 ρK1 μK1 lo) H1 locs1 → W p l e room_1 s m #[Value.ref b] below meth c H1 locs1 (cells + 15) (slots + 1798) Q (F0 m 1773 ls [])) : W p l e room_1 s m #[Value.ref b] below meth c H locs cells slots Q (F0 m 575 ls []) := by
  obtain ⟨hI, RX, RM, g0, SX, HK⟩ := id St
  have hx := C.1.1
  have hb := C.1.2.1
  refine lv_aload_n hx hb dL_law_575 rfl (lv_at hl 1 rfl) ?_
  refine law_arg (j := 1) C hW.2.2 (lv_at hl 0 rfl) (lv_at hl 4 rfl) (by omega) hL rfl dL_law_576 dL_law_577 dL_law_579 dL_law_580 dL_law_581 ?_
  cases ek : kpO (xs (i + 1)) with
  | none =>
    have pm := kR_pm (cA := cA) (cK := cK) (cL := cL) (kA := kA) (oA := oA) (K := K) (ρK := ρK) (μK := μK) (lo := lo) (mm_w 37 ρX cA (shL (xL (.ref kA))) μX) (mm_w 10 ρM cA (shL (moL 0)) μM) 0
    have hM := k_keepN l D cA σ ρX kA μX cK (kRf K ρK) (kw1 cA (K 0) (ρK 0) (μK 0)) (kw1 cA (K (oj 0)) (ρK (oj 0)) (μK (oj 0))) (xs (i + 1)) H.size (kpO_none ek)
    unfold kpQn at hM
    refine law_kp C hKK hN1 hN2 hM rfl pdZ kp_c kp_l kp_i kp_s ⟨hcs.1, hcs.2⟩ hl.1 dL_law_582 (pw_P pm hW.1) (pw_D pm hW.2.1) hW.2.2 (fun r u H1 locs1 hw hP hD hS => ?_)
    subst hw
    have hW1 : LWs D cA s ρX ρM (.ref kA) μX μM (kR cA cK cL kA oA K ρK μK lo) H1 locs1 := ⟨pw_P pm.symm hP, pw_D pm.symm hD, hS⟩
    have mq := m_keep shM_ok RM hI.1 g0 HK (xs (i + 1))
    rw [ek] at mq
    dsimp only at mq
    refine lv_aload_n hx hb dL_law_585 rfl (lv_at hl 2 rfl) ?_
    refine law_arg (j := 1) C hW1.2.2 (lv_at hl 0 rfl) (lv_at hl 4 rfl) (by omega) hL rfl dL_law_586 dL_law_587 dL_law_589 dL_law_590 dL_law_591 ?_
    refine law_m (as := [.int (xs (i + 1))]) (rest := [.int _]) C vL_73 (mq) rfl rfl rfl (by decide) ⟨by decide, by decide⟩ ⟨by omega, by omega⟩ hl.1 (by show (1 : Nat) ≤ 8; omega) dL_law_592 hW1 (fun r μM1 H2 locs2 hq2 hW2 => ?_)
    obtain ⟨rfl, RM1, J1, m7, KR1, fr⟩ := hq2
    refine lv_icmp_eq (tgt := 1773) hx hb dL_law_595 (by decide) (fun _ => ?_) (fun ne => absurd rfl ne)
    exact nxt s0 K ρK μK _ _ _ _ ⟨hI, RX, RM1, m7, ⟨fun k hk => by rw [fr 5 (by omega) (by omega)]; exact SX.1 k hk, fun k hk => by rw [fr 6 (by omega) (by omega)]; exact SX.2 k hk⟩, KR1⟩ Ke hW2
  | some j =>
    have e1 := kpO_some ek
    have jb := j.isLt
    have pm := kR_pm (cA := cA) (cK := cK) (cL := cL) (kA := kA) (oA := oA) (K := K) (ρK := ρK) (μK := μK) (lo := lo) (mm_w 37 ρX cA (shL (xL (.ref kA))) μX) (mm_w 10 ρM cA (shL (moL 0)) μM) j
    have hf : (kw1 cA (K j) (ρK j) (μK j) = [] ∧ kRf K ρK j.val = none) ∨ ∃ (ρ' : Nat → Nat) (μ' : mm_U), kw1 cA (K j) (ρK j) (μK j) = wF cA ρ' μ' ∧ kRf K ρK j.val = some (ρ' 0) := by
      cases ej : K j with
      | none => exact Or.inl ⟨rfl, kRf_no ej⟩
      | some t => exact Or.inr ⟨ρK j, μK j, rfl, kRf_is ej⟩
    have hM := k_keepS l D cA σ ρX kA μX cK (kRf K ρK) _ (kw1 cA (K (oj j)) (ρK (oj j)) (μK (oj j))) s0 RX j.val H.size jb hf
    unfold kpQs at hM
    rw [e1]
    refine law_kp C hKK hN1 hN2 hM rfl pdZ kp_c kp_l kp_i kp_s ⟨hcs.1, hcs.2⟩ hl.1 dL_law_582 (pw_P pm hW.1) (pw_D pm hW.2.1) hW.2.2 (fun r u H1 locs1 hw hP hD hS => ?_)
    obtain ⟨rfl, RK⟩ := hw
    have pm2 := kR_pm (cA := cA) (cK := cK) (cL := cL) (kA := kA) (oA := oA) (K := fu K j (some s0)) (ρK := fu ρK j u.1) (μK := fu μK j u.2) (lo := lo) (mm_w 37 ρX cA (shL (xL (.ref kA))) μX) (mm_w 10 ρM cA (shL (moL 0)) μM) j
    rw [fu_s, fu_s, fu_s, fu_oj, fu_oj, fu_oj, ← kR_up] at pm2
    have hW1 : LWs D cA s ρX ρM (.ref kA) μX μM (kR cA cK cL kA oA (fu K j (some s0)) (fu ρK j u.1) (fu μK j u.2) lo) H1 locs1 := ⟨pw_P pm2.symm hP, pw_D pm2.symm hD, hS⟩
    have Ke1 : KpO (fu K j (some s0)) (fu μK j u.2) := fun j' t ht => by
      by_cases z : j' = j
      · rw [z, fu_s] at ht
        cases ht
        rw [z, fu_s]
        exact ⟨RK, hI⟩
      · rw [fu_n _ _ z] at ht
        rw [fu_n _ _ z]
        exact Ke j' t ht
    have mq := m_keep shM_ok RM hI.1 g0 HK (xs (i + 1))
    rw [ek] at mq
    dsimp only at mq
    refine lv_aload_n hx hb dL_law_585 rfl (lv_at hl 2 rfl) ?_
    refine law_arg (j := 1) C hW1.2.2 (lv_at hl 0 rfl) (lv_at hl 4 rfl) (by omega) hL rfl dL_law_586 dL_law_587 dL_law_589 dL_law_590 dL_law_591 ?_
    refine law_m (as := [.int (xs (i + 1))]) (rest := [.int _]) C vL_73 (mq) rfl rfl rfl (by decide) ⟨by decide, by decide⟩ ⟨hcs.1, hcs.2⟩ hl.1 (by show (1 : Nat) ≤ 8; omega) dL_law_592 hW1 (fun r μM1 H2 locs2 hq2 hW2 => ?_)
    obtain ⟨rfl, RM1, J1, m7, KR1, fr⟩ := hq2
    refine lv_icmp_eq (tgt := 1773) hx hb dL_law_595 (by decide) (fun _ => ?_) (fun ne => absurd rfl ne)
    exact nxt s0 (fu K j (some s0)) (fu ρK j u.1) (fu μK j u.2) _ _ _ _ ⟨hI, RX, RM1, m7, ⟨fun k hk => by rw [fr 5 (by omega) (by omega)]; exact SX.1 k hk, fun k hk => by rw [fr 6 (by omega) (by omega)]; exact SX.2 k hk⟩, KR1⟩ Ke1 hW2
theorem law_again (C : LCx D cA σ p s m meth c b L xs) (hL : L ≤ 3072) (hi : i + 6 ≤ L) (hcs : cells + 15 ≤ 601024 ∧ slots + 1798 ≤ 7293034) (hl : lv_has ls 7 [(0, .ref b), (1, .ref (ρX 0)), (2, .ref (ρM 0)), (3, .ref oA), (4, .int (nI i))]) (hKK : va_K D vwCl (mm_ty cA ++ [(cK, .object "FoamCells$Foam")]) s) (hN1 : va_Nw (.methodLinkNest RX5 9 yX1_init "FoamCells") s) (hN2 : NwF s) (St : LSt K s0 μX μM) (Ke : KpO K μK) (hW : LWs D cA s ρX ρM (.ref kA) μX μM (kR cA cK cL kA oA K ρK μK lo) H locs) (nxt : ∀ (s1 : Fo) (K1 : Fin 2 → Option Fo) (ρK1 : Fin 2 → Nat → Nat) (μK1 : Fin 2 → mm_U) (μX1 μM1 : mm_U) (H1 : Heap) (locs1 : List Loc), LSt K1 s1 μX1 μM1 → KpO K1 μK1 → LWs D cA s ρX ρM (.ref kA) μX1 μM1 (kR cA cK cL kA oA K1 ρK1 μK1 lo) H1 locs1 → W p l e room_1 s m #[Value.ref b] below meth c H1 locs1 (cells + 15) (slots + 1798) Q (F0 m 1773 ls [])) : W p l e room_1 s m #[Value.ref b] below meth c H locs cells slots Q (F0 m 600 ls []) := by
  obtain ⟨hI, RX, RM, g0, SX, HK⟩ := id St
  have hx := C.1.1
  have hb := C.1.2.1
  refine lv_aload_n hx hb dL_law_600 rfl (lv_at hl 1 rfl) ?_
  refine law_arg (j := 1) C hW.2.2 (lv_at hl 0 rfl) (lv_at hl 4 rfl) (by omega) hL rfl dL_law_601 dL_law_602 dL_law_604 dL_law_605 dL_law_606 ?_
  cases ek : kpO (xs (i + 1)) with
  | none =>
    have pm := kR_pm (cA := cA) (cK := cK) (cL := cL) (kA := kA) (oA := oA) (K := K) (ρK := ρK) (μK := μK) (lo := lo) (mm_w 37 ρX cA (shL (xL (.ref kA))) μX) (mm_w 10 ρM cA (shL (moL 0)) μM) 0
    have hM := k_againN l D cA σ ρX kA μX cK (kRf K ρK) (kw1 cA (K 0) (ρK 0) (μK 0)) (kw1 cA (K (oj 0)) (ρK (oj 0)) (μK (oj 0))) (xs (i + 1)) H.size (kpO_none ek)
    unfold kpQn at hM
    refine law_kp C hKK hN1 hN2 hM rfl pdZ ag_c ag_l ag_i ag_s ⟨by omega, by omega⟩ hl.1 dL_law_607 (pw_P pm hW.1) (pw_D pm hW.2.1) hW.2.2 (fun r u H1 locs1 hw hP hD hS => ?_)
    subst hw
    have hW1 : LWs D cA s ρX ρM (.ref kA) μX μM (kR cA cK cL kA oA K ρK μK lo) H1 locs1 := ⟨pw_P pm.symm hP, pw_D pm.symm hD, hS⟩
    have mq := m_again shM_ok RM hI.1 g0 HK (xs (i + 1))
    rw [ek] at mq
    dsimp only at mq
    refine lv_aload_n hx hb dL_law_610 rfl (lv_at hl 2 rfl) ?_
    refine law_arg (j := 1) C hW1.2.2 (lv_at hl 0 rfl) (lv_at hl 4 rfl) (by omega) hL rfl dL_law_611 dL_law_612 dL_law_614 dL_law_615 dL_law_616 ?_
    refine law_m (as := [.int (xs (i + 1))]) (rest := [.int _]) C vL_77 (mq) rfl rfl rfl (by decide) ⟨by decide, by decide⟩ ⟨by omega, by omega⟩ hl.1 (by show (1 : Nat) ≤ 8; omega) dL_law_617 hW1 (fun r μM1 H2 locs2 hq2 hW2 => ?_)
    obtain ⟨rfl, RM1, J1, m7, KR1, fr⟩ := hq2
    refine lv_icmp_eq (tgt := 1773) hx hb dL_law_620 (by decide) (fun _ => ?_) (fun ne => absurd rfl ne)
    refine W.widen (k := cells + 15) (n := slots + 1798) (by omega) (by omega) ?_
    exact nxt s0 K ρK μK _ _ _ _ ⟨hI, RX, RM1, m7, ⟨fun k hk => by rw [fr 5 (by omega) (by omega)]; exact SX.1 k hk, fun k hk => by rw [fr 6 (by omega) (by omega)]; exact SX.2 k hk⟩, KR1⟩ Ke hW2
  | some j =>
    have e1 := kpO_some ek
    have jb := j.isLt
    cases ej : K j with
    | none =>
      have pm := kR_pm (cA := cA) (cK := cK) (cL := cL) (kA := kA) (oA := oA) (K := K) (ρK := ρK) (μK := μK) (lo := lo) (mm_w 37 ρX cA (shL (xL (.ref kA))) μX) (mm_w 10 ρM cA (shL (moL 0)) μM) j
      have hM := k_againZ l D cA σ ρX kA μX cK (kRf K ρK) (kw1 cA (K j) (ρK j) (μK j)) (kw1 cA (K (oj j)) (ρK (oj j)) (μK (oj j))) j.val H.size jb (kRf_no ej)
      unfold kpQn at hM
      rw [e1]
      refine law_kp C hKK hN1 hN2 hM rfl pdZ ag_c ag_l ag_i ag_s ⟨by omega, by omega⟩ hl.1 dL_law_607 (pw_P pm hW.1) (pw_D pm hW.2.1) hW.2.2 (fun r u H1 locs1 hw hP hD hS => ?_)
      subst hw
      have hW1 : LWs D cA s ρX ρM (.ref kA) μX μM (kR cA cK cL kA oA K ρK μK lo) H1 locs1 := ⟨pw_P pm.symm hP, pw_D pm.symm hD, hS⟩
      have mq := m_again shM_ok RM hI.1 g0 HK (xs (i + 1))
      rw [ek] at mq
      dsimp only at mq
      rw [ej] at mq
      dsimp only at mq
      refine lv_aload_n hx hb dL_law_610 rfl (lv_at hl 2 rfl) ?_
      refine law_arg (j := 1) C hW1.2.2 (lv_at hl 0 rfl) (lv_at hl 4 rfl) (by omega) hL rfl dL_law_611 dL_law_612 dL_law_614 dL_law_615 dL_law_616 ?_
      refine law_m (as := [.int (xs (i + 1))]) (rest := [.int _]) C vL_77 (mq) rfl rfl rfl (by decide) ⟨by decide, by decide⟩ ⟨by omega, by omega⟩ hl.1 (by show (1 : Nat) ≤ 8; omega) dL_law_617 hW1 (fun r μM1 H2 locs2 hq2 hW2 => ?_)
      obtain ⟨rfl, RM1, J1, m7, KR1, fr⟩ := hq2
      refine lv_icmp_eq (tgt := 1773) hx hb dL_law_620 (by decide) (fun _ => ?_) (fun ne => absurd rfl ne)
      refine W.widen (k := cells + 15) (n := slots + 1798) (by omega) (by omega) ?_
      exact nxt s0 K ρK μK _ _ _ _ ⟨hI, RX, RM1, m7, ⟨fun k hk => by rw [fr 5 (by omega) (by omega)]; exact SX.1 k hk, fun k hk => by rw [fr 6 (by omega) (by omega)]; exact SX.2 k hk⟩, KR1⟩ Ke hW2
    | some t =>
      obtain ⟨RT0, IT0⟩ := Ke j t ej
      have pm := kR_pm (cA := cA) (cK := cK) (cL := cL) (kA := kA) (oA := oA) (K := K) (ρK := ρK) (μK := μK) (lo := lo) (mm_w 37 ρX cA (shL (xL (.ref kA))) μX) (mm_w 10 ρM cA (shL (moL 0)) μM) j
      have eF : kw1 cA (K j) (ρK j) (μK j) = wF cA (ρK j) (μK j) := by rw [ej]; rfl
      rw [eF] at pm
      have hM := k_againS l D cA σ ρX kA μX cK (kRf K ρK) (kw1 cA (K (oj j)) (ρK (oj j)) (μK (oj j))) (ρK j) (μK j) t RT0 j.val H.size jb (kRf_is ej)
      unfold agQs at hM
      rw [e1]
      refine law_kp C hKK hN1 hN2 hM rfl pdZ ag_c ag_l ag_i ag_s ⟨by omega, by omega⟩ hl.1 dL_law_607 (pw_P pm hW.1) (pw_D pm hW.2.1) hW.2.2 (fun r μX1 H1 locs1 hw hP hD hS => ?_)
      obtain ⟨rfl, RX1⟩ := hw
      have pm2 := kR_pm (cA := cA) (cK := cK) (cL := cL) (kA := kA) (oA := oA) (K := K) (ρK := ρK) (μK := μK) (lo := lo) (mm_w 37 ρX cA (shL (xL (.ref kA))) μX1) (mm_w 10 ρM cA (shL (moL 0)) μM) j
      rw [eF] at pm2
      have hW1 : LWs D cA s ρX ρM (.ref kA) μX1 μM (kR cA cK cL kA oA K ρK μK lo) H1 locs1 := ⟨pw_P pm2.symm hP, pw_D pm2.symm hD, hS⟩
      have mq := m_again shM_ok RM hI.1 g0 HK (xs (i + 1))
      rw [ek] at mq
      dsimp only at mq
      rw [ej] at mq
      dsimp only at mq
      refine lv_aload_n hx hb dL_law_610 rfl (lv_at hl 2 rfl) ?_
      refine law_arg (j := 1) C hW1.2.2 (lv_at hl 0 rfl) (lv_at hl 4 rfl) (by omega) hL rfl dL_law_611 dL_law_612 dL_law_614 dL_law_615 dL_law_616 ?_
      refine law_m (as := [.int (xs (i + 1))]) (rest := [.int _]) C vL_77 (mq) rfl rfl rfl (by decide) ⟨by decide, by decide⟩ ⟨by omega, by omega⟩ hl.1 (by show (1 : Nat) ≤ 8; omega) dL_law_617 hW1 (fun r μM1 H2 locs2 hq2 hW2 => ?_)
      obtain ⟨rfl, RM1, J1, m7, KR1, fr⟩ := hq2
      refine lv_icmp_eq (tgt := 1773) hx hb dL_law_620 (by decide) (fun _ => ?_) (fun ne => absurd rfl ne)
      refine W.widen (k := cells + 15) (n := slots + 1798) (by omega) (by omega) ?_
      exact nxt t K ρK μK _ _ _ _ ⟨IT0, RX1, RM1, m7, ⟨fun k hk => by rw [fr 5 (by omega) (by omega)]; exact SX.1 k hk, fun k hk => by rw [fr 6 (by omega) (by omega)]; exact SX.2 k hk⟩, KR1⟩ Ke hW2
end LAWK
