section START
theorem pm_3 {α : Type} (X M : List α) (a o : α) : (((X ++ [a]) ++ M) ++ [o]).Perm (X ++ (M ++ ([] ++ ([] ++ [a, o])))) := by
  haveI : DecidableEq α := fun x y => Classical.propDecidable (x = y)
  rw [List.perm_iff_count]
  intro x
  simp only [List.count_append, List.count_cons, List.count_nil]
  omega
theorem kRf_n (ρK : Fin 2 → Nat → Nat) : kRf (fun _ => none) ρK = fun _ => none := by
  funext i
  unfold kRf
  split
  · rfl
  · split
    · rfl
    · rfl
set_option maxHeartbeats 4000000 in
set_option maxRecDepth 100000 in
theorem whole_start {p : Program} {e : Env} {s : State} {m : MethodId} {below : List Frame} {meth : Method} {c : Code} (l : Launch) (hflags : l.flags = flags0) {b L : Nat} {xs : Nat → Int32} (hL : L ≤ 3072) (C0 : lw_At p s m meth c b L xs) : W p l e room_1 s m #[Value.ref b] below meth c s.heap [] 0 0 (lw_Z below #[Value.ref b] s) (entryFrame m ([Value.ref b] : List Value).toArray 7) := by
  have hlt := lw_trc hflags
  obtain ⟨hx, hb, hr, hml, hown, hts0, hX, hbl, hlocks, hgv⟩ := id C0
  have hts : ∀ w ∈ mm_tb, w.before #[Value.ref b] s = true := fun w hw => hts0 w (List.mem_filter.mp hw).1
  obtain ⟨D, cA, hK⟩ := lw_K hts
  obtain ⟨σ, hZ⟩ := lw_Zs hts0 hgv
  obtain ⟨sa, hNX⟩ := lw_NX hts0 hgv
  have hNw := lw_NwX hts0
  have hA : ∀ q, s.heap.size ≤ q → lwA s q := fun q h => h
  have C : LCx D cA σ p s m meth c b L xs := ⟨C0, hx, hb, hml, hts, hown, hK, hA, hZ⟩
  have hS : va_S (lwA s) s.heap s.heap [] := va_S.rf
  have hP : va_P D vwCl [] s.heap := fun k q hk => by cases hk
  have hD : va_D (lwA s) [] := ⟨fun i j x y hx => (by cases hx), fun k q hk => (by cases hk)⟩
  have hl := lv_entry ([.ref b]) (n := 7) (Nat.le_of_ble_eq_true rfl)
  rw [lg_entry_eq]
  generalize (lg_sl ([.ref b]) ++ List.replicate (7 - (lg_sl ([.ref b])).length) Slot.unset).toArray = ls at hl ⊢
  have hl : lv_has ls 7 [(0, .ref b)] := hl
  refine va_new (ci := 5) (fs := [.null, .null, .null, .null]) (C := RX5) (T := TX5) (N := 4) hx hb hts mm_uw5 tyX5 tyX5_ok hown (hts _ (mm_t1 (mm_tq1 (List.mem_of_getElem? (i := 14) rfl)) rfl)) (hts _ (mm_t1 (mm_tq1 (List.mem_of_getElem? (i := 15) rfl)) rfl)) (hts _ ic5) hK hP hD hS hA rfl (fun j hj => by
    have : j = 0 ∨ j = 1 ∨ j = 2 ∨ j = 3 := by omega
    rcases this with rfl | rfl | rfl | rfl <;> rfl) (Nat.le_of_ble_eq_true rfl) (Nat.le_of_ble_eq_true rfl) dL_law_0 (fun q H hP hD hS => ?_)
  refine lv_dup hx hb dL_law_3 rfl ?_
  have hM := k_X l D cA σ q H.size
  unfold xQ at hM
  obtain ⟨hPw, hPq⟩ := ww_P hP
  obtain ⟨hDw, hDq, hap⟩ := ww_D hD
  have hF : ∀ x, va_A [(q, .inr (5, [.null, .null, .null, .null]))] H.size x → lwA s x := fun x h => by
    rcases h with ⟨i, e', hi⟩ | hge
    · exact hDq.2 i (x, e') hi
    · exact Nat.le_trans hS.1 hge
  have cn : CallB room_1 s #[Value.ref b] R_law 19 yX5_init cX5_init 1 none (kw yX5_init cX5_init) { frames := 8, cells := 37, slots := 6104, locals := 300 } 37 6104 0 := callB_of 0 hts (mm_gin (mm_t1 (mm_tq1 (List.mem_of_getElem? (i := 18) rfl)) rfl)) rfl rfl rfl (hts _ ic5) (hts _ (mm_t1 (mm_tq1 (List.mem_of_getElem? (i := 16) rfl)) rfl)) ⟨ne5.1, ne5.2, pdI0⟩ ⟨Nat.le_of_ble_eq_true rfl, Nat.le_of_ble_eq_true rfl⟩
  refine va_callv (va_runI (As := []) (rest := [.ref q]) ⟨hx, hb, hml, hown, hts⟩ hM ⟨cn, rfl, (hts _ (mm_t1 (mm_tq1 (List.mem_of_getElem? (i := 17) rfl)) rfl))⟩ ⟨fun a U g mk qq => by
    obtain ⟨q0, q1, qP, qK, qD, qN, qZ⟩ := qq
    exact ⟨q0, q1, qP, va_K.moved (u := U) (U := U.calling g mk a) (Vm.Alike.refl U.vm) qK, qD, qN.mv (U := U.calling g mk a) (State.WarmedH.refl U), mm_Z.moved (u := U) (U := U.calling g mk a) (State.WarmedH.refl U) qZ⟩, fun U hU hW => ⟨rfl, by rw [hU], by rw [hU]; exact hPq, va_K.moved hW.alike hK, hDq.weaken (fun _ _ _ _ => trivial), hNw.mv hW, by rw [hU]; exact mm_Z.moved hW (mm_Z.kept hZ hS.1 hS.2.1 hF)⟩⟩ rfl rfl hl.1 rfl (lv_room (Nat.le_of_ble_eq_true rfl)) dL_law_4 ⟨Nat.le_of_ble_eq_true rfl, Nat.le_of_ble_eq_true rfl⟩) hS (fun x _ h => hF x h) hF (fun u t H1 locs1 ht hvm hw hB hz1 hk1 hS1 => ?_)
  obtain ⟨hP1, hK1, hD1⟩ := hB
  rw [ht] at hP1
  obtain ⟨hP2, hD2⟩ := ww_new hP hD hS hA hk1 hP1 hD1
  have hKF : va_K D vwCl (mm_ty cA ++ [(u.2.2.1, .object "FoamCells$Foam")]) s := va_K.moved hvm.symm hK1
  obtain ⟨ρX, kA, cK, μX⟩ := u
  obtain ⟨hw0, RX⟩ := hw
  have hw0 : ρX 0 = q := hw0
  rw [← hw0]
  have hP2 : va_P D vwCl (mm_w 37 ρX cA (shL (xL (.ref kA))) μX ++ [kArr kA cK (fun _ => none)]) H1 := hP2
  have hD2 : va_D (lwA s) (mm_w 37 ρX cA (shL (xL (.ref kA))) μX ++ [kArr kA cK (fun _ => none)]) := hD2
  have hKF : va_K D vwCl (mm_ty cA ++ [(cK, .object "FoamCells$Foam")]) s := hKF
  refine lv_astore_n (i := 1) hx hb dL_law_7 rfl hl (by omega) (show _ = [(1, .ref (ρX 0)), (0, .ref b)] from rfl) (fun ls2 hl2 => ?_)
  clear hM hPw hPq hDw hDq hap hF cn
  refine va_new (ci := 6) (fs := [.int (nI 0), .null, .null, .null, .null, .null, .null, .int (nI 0), .long (nI 0).toInt64, .null, .null, .null]) (C := RX6) (T := TX6) (N := 12) hx hb hts mm_uw6 tyX6 tyX6_ok hown (hts _ (mm_t1 (mm_tq4 (List.mem_of_getElem? (i := 201) rfl)) rfl)) (hts _ (mm_t1 (mm_tq4 (List.mem_of_getElem? (i := 202) rfl)) rfl)) (hts _ ic6) hK hP2 hD2 hS1 hA rfl (fun j hj => by
    have : j = 0 ∨ j = 1 ∨ j = 2 ∨ j = 3 ∨ j = 4 ∨ j = 5 ∨ j = 6 ∨ j = 7 ∨ j = 8 ∨ j = 9 ∨ j = 10 ∨ j = 11 := by omega
    rcases this with rfl | rfl | rfl | rfl | rfl | rfl | rfl | rfl | rfl | rfl | rfl | rfl <;> rfl) (Nat.le_of_ble_eq_true rfl) (Nat.le_of_ble_eq_true rfl) dL_law_8 (fun q2 H2 hP3 hD3 hS3 => ?_)
  refine lv_dup hx hb dL_law_11 rfl ?_
  have hM := k_M l D cA σ q2 H2.size
  unfold mQ at hM
  obtain ⟨hPw, hPq⟩ := ww_P hP3
  obtain ⟨hDw, hDq, hap⟩ := ww_D hD3
  have hF : ∀ x, va_A [(q2, .inr (6, [.int (nI 0), .null, .null, .null, .null, .null, .null, .int (nI 0), .long (nI 0).toInt64, .null, .null, .null]))] H2.size x → lwA s x := fun x h => by
    rcases h with ⟨i, e', hi⟩ | hge
    · exact hDq.2 i (x, e') hi
    · exact Nat.le_trans hS3.1 hge
  have cn : CallB room_1 s #[Value.ref b] R_law 22 yX6_init cX6_init 1 none (kw yX6_init cX6_init) { frames := 8, cells := 9, slots := 8454, locals := 300 } 9 8454 0 := callB_of 0 hts (mm_gin (mm_t1 (mm_tq4 (List.mem_of_getElem? (i := 205) rfl)) rfl)) rfl rfl rfl (hts _ ic6) (hts _ (mm_t1 (mm_tq4 (List.mem_of_getElem? (i := 203) rfl)) rfl)) ⟨ne6.1, ne6.2, pdI0⟩ ⟨Nat.le_of_ble_eq_true rfl, Nat.le_of_ble_eq_true rfl⟩
  refine va_callv (va_runI (As := []) (rest := [.ref q2]) ⟨hx, hb, hml, hown, hts⟩ hM ⟨cn, rfl, (hts _ (mm_t1 (mm_tq4 (List.mem_of_getElem? (i := 204) rfl)) rfl))⟩ ⟨fun a U g mk qq => by
    obtain ⟨q0, q1, qP, qK, qD, qZ⟩ := qq
    exact ⟨q0, q1, qP, va_K.moved (u := U) (U := U.calling g mk a) (Vm.Alike.refl U.vm) qK, qD, mm_Z.moved (u := U) (U := U.calling g mk a) (State.WarmedH.refl U) qZ⟩, fun U hU hW => ⟨rfl, by rw [hU], by rw [hU]; exact hPq, va_K.moved hW.alike hK, hDq.weaken (fun _ _ _ _ => trivial), by show mm_Z σ _ U U.heap; rw [hU]; exact mm_Z.moved hW (mm_Z.kept hZ hS3.1 hS3.2.1 hF)⟩⟩ rfl rfl hl2.1 rfl (lv_room (Nat.le_of_ble_eq_true rfl)) dL_law_12 ⟨Nat.le_of_ble_eq_true rfl, Nat.le_of_ble_eq_true rfl⟩) hS3 (fun x _ h => hF x h) hF (fun u t H3 locs3 ht hvm hw hB hz3 hk3 hS4 => ?_)
  obtain ⟨hP4, hK4, hD4⟩ := hB
  rw [ht] at hP4
  obtain ⟨hP5, hD5⟩ := ww_new hP3 hD3 hS3 hA hk3 hP4 hD4
  obtain ⟨ρM, μM⟩ := u
  obtain ⟨hw0, RM, g0, SA, KR⟩ := hw
  have hw0 : ρM 0 = q2 := hw0
  rw [← hw0]
  refine lv_astore_n (i := 2) hx hb dL_law_15 rfl hl2 (by omega) (show _ = [(2, .ref (ρM 0)), (1, .ref (ρX 0)), (0, .ref b)] from rfl) (fun ls3 hl3 => ?_)
  refine lv_iconst (v := nI 1) hx hb dL_law_16 (by decide) ?_
  refine va_newa (atype := .long) (ty := .long) (a0 := (1, .inr (.inl (fun _ => 0)))) hx hb (hts _ (mm_t1 (mm_tq7 (List.mem_of_getElem? (i := 3) rfl)) rfl)) rfl hKF hP5 hD5 hS4 hA (fun cA => rfl) (nI_pos (by omega)) (nI_clamp (by omega)) (Nat.le_of_ble_eq_true rfl) (Nat.le_of_ble_eq_true rfl) (Nat.le_of_ble_eq_true rfl) dL_law_17 (fun oA cL H4 hKA hP6 hD6 hS5 => ?_)
  refine lv_astore_n (i := 3) hx hb dL_law_19 rfl hl3 (by omega) (show _ = [(3, .ref oA), (2, .ref (ρM 0)), (1, .ref (ρX 0)), (0, .ref b)] from rfl) (fun ls4 hl4 => ?_)
  refine lv_iconst (v := nI 0) hx hb dL_law_20 (by decide) ?_
  refine lv_istore hx hb dL_law_21 hl4 (by omega) (show _ = [(4, .int (nI 0)), (3, .ref oA), (2, .ref (ρM 0)), (1, .ref (ρX 0)), (0, .ref b)] from rfl) (fun ls5 hl5 => ?_)
  refine W.widen (k := 100 + 3 * 0) (n := 20000 + 300 * 0) (Nat.le_of_ble_eq_true rfl) (Nat.le_of_ble_eq_true rfl) ?_
  have pm := pm_3 (mm_w 37 ρX cA (shL (xL (.ref kA))) μX) (mm_w 10 ρM cA (shL (moL 0)) μM) (kArr kA cK (kRf (fun _ => none) (fun _ _ => 0))) (lAr oA cL (fun _ => 0))
  rw [kRf_n] at pm
  have hW : LWs D cA s ρX ρM (.ref kA) μX μM (kR cA cK cL kA oA (fun _ => none) (fun _ _ => 0) (fun _ _ _ => nI 0) (fun _ => 0)) H4 locs3 := by
    refine ⟨?_, ?_, hS5⟩
    · show va_P D vwCl (mm_w 37 ρX cA (shL (xL (.ref kA))) μX ++ (mm_w 10 ρM cA (shL (moL 0)) μM ++ ([] ++ ([] ++ [kArr kA cK (kRf (fun _ => none) (fun _ _ => 0)), lAr oA cL (fun _ => 0)])))) H4
      rw [kRf_n]
      exact pw_P pm hP6
    · show va_D (lwA s) (mm_w 37 ρX cA (shL (xL (.ref kA))) μX ++ (mm_w 10 ρM cA (shL (moL 0)) μM ++ ([] ++ ([] ++ [kArr kA cK (kRf (fun _ => none) (fun _ _ => 0)), lAr oA cL (fun _ => 0)]))))
      rw [kRf_n]
      exact pw_D pm hD6
  have hI : In (fBg sI 4 4).1 := In_x.2.2.2.2.2.2.2 4 4 (by omega) (by omega) (by omega) (by omega)
  have St : LSt (fun _ => none) (fBg sI 4 4) μX μM := ⟨hI, RX, RM, g0, SA, KR⟩
  refine law_loop hlt C hL hKA hNw.1 hNw.2.2.2.1.2 hNX (fun H locs cells slots ls hS hc hs => ?_) L 0 (fun _ => none) (fBg sI 4 4) (fun _ _ => 0) (fun _ _ _ => nI 0) (fun _ => 0) μX μM H4 locs3 ls5 (by omega) (Nat.zero_le _) (lv_sub hl5 [4, 3, 2, 1, 0] rfl) St (fun j s1 h => by cases h) hW
  refine lv_iconst (v := 1) hx hb dL_law_1779 (by decide) ?_
  refine va_forget (fun q hq => hS.2.2 q hq) ?_
  refine W.widen (k := 601024) (n := 7293034) hc hs ?_
  exact lw_ret hx hb hr hlocks dL_law_1780
end START
