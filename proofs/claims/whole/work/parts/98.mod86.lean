section LKP
variable {p : Program} {l : Launch} {e : Env} {s : State} {m : MethodId} {below : List Frame} {meth : Method} {c : Code} {D : va_G} {cA : Nat → ClassId} {σ : Nat → Nat} {b L : Nat} {xs : Nat → Int32}
theorem pdZ : (parseMethodDescriptor "(I)Z").map (fun d => d.parameters.length) = some 1 := by decide +kernel
/-- x.keep(k), x.again(k): called by the law -/
theorem law_kp {ρX : Nat → Nat} {kA : Nat} {μX : mm_U} {cK : ClassId} {f : Nat → Option Nat} {F O R : va_W} {k : Int32} {H : Heap} {locs : List Loc} {mc ms idx pc cells slots : Nat} {y : MethodName} {cc2 : ByteArray} {ls : Array Slot} {Q : State → Prop} {S : Type} {post : Int32 → S → Prop} {W1 : S → va_W} (C : LCx D cA σ p s m meth c b L xs) (hKK : va_K D vwCl (mm_ty cA ++ [(cK, .object "FoamCells$Foam")]) s) (hN1 : va_Nw (.methodLinkNest RX5 9 yX1_init "FoamCells") s) (hN2 : NwF s)
    (hM : Met l y (Cond.code y cc2 2 (some .boolean) :: mm_tb) { frames := 8, cells := mc, slots := ms, locals := 300 } (kpPc D cA σ ρX kA μX cK f F O k H.size) (va_Qi post (fun u t => va_P D vwCl (W1 u) t.heap ∧ va_K D vwCl (mm_ty cA ++ [(cK, .object "FoamCells$Foam")]) t ∧ va_D (va_A (kWd cA ρX kA μX cK f F O) H.size) (W1 u)) (va_A (kWd cA ρX kA μX cK f F O) H.size)) mc ms (va_A (kWd cA ρX kA μX cK f F O) H.size))
    (hy : y.cls = RX5) (hyd : (parseMethodDescriptor y.desc).map (fun d => d.parameters.length) = some 1) (hyc : Cond.code y cc2 2 (some .boolean) ∈ mm_tb) (hyl : Cond.methodLink R_law idx y ∈ mm_tb) (hyi : Cond.instanceMethod y ∈ mm_tb) (hys : Cond.selects RX5 y y ∈ mm_tb)
    (hcs : cells + mc ≤ 601024 ∧ slots + ms ≤ 7293034) (hls : ls.size = 7) (hd : decode code pc = .ok (.invokevirtual idx, 3))
    (hP : va_P D vwCl (kWd cA ρX kA μX cK f F O ++ R) H) (hD : va_D (lwA s) (kWd cA ρX kA μX cK f F O ++ R)) (hS : va_S (lwA s) s.heap H locs)
    (kk : ∀ (r : Int32) (u : S) (H1 : Heap) (locs1 : List Loc), post r u → va_P D vwCl (W1 u ++ R) H1 → va_D (lwA s) (W1 u ++ R) → va_S (lwA s) s.heap H1 locs1 → W p l e room_1 s m #[Value.ref b] below meth c H1 locs1 (cells + mc) (slots + ms) Q (F0 m (pc + 3) ls [.int r])) :
    W p l e room_1 s m #[Value.ref b] below meth c H locs cells slots Q (F0 m pc ls [.int k, .ref (ρX 0)]) := by
  obtain ⟨⟨hx, hb, hr, hml, hown, hts0, hX, hbl, hlocks, hgv⟩, OX⟩ := C
  obtain ⟨_, _, _, hts, _, hK, hA, hZ⟩ := OX
  obtain ⟨hPc, hPr⟩ := ww_P hP
  obtain ⟨hDc, hDr, hap⟩ := ww_D hD
  have hF : ∀ q, va_A (kWd cA ρX kA μX cK f F O) H.size q → lwA s q := fun q h => by
    rcases h with ⟨i, e', hi⟩ | hge
    · exact hDc.2 i (q, e') hi
    · exact Nat.le_trans hS.1 hge
  have cw : CallB room_1 s #[Value.ref b] R_law idx y cc2 2 (some .boolean) (Cond.code y cc2 2 (some .boolean) :: mm_tb) { frames := 8, cells := mc, slots := ms, locals := 300 } mc ms 1 := callB_of 1 hts (mm_gin hyc) rfl rfl rfl (by rw [hy]; exact hts _ ic5) (hts _ hyl) ⟨by rw [hy]; exact ne5.1, by rw [hy]; exact ne5.2, hyd⟩ ⟨Nat.le_of_ble_eq_true rfl, Nat.le_of_ble_eq_true rfl⟩
  refine va_calli (va_runV (C := RX5) (b := ρX 0) (As := [.int k]) (rest := []) ⟨hx, hb, hml, hown, hts⟩ hM ⟨cw, hts _ hyi, hts _ hys⟩ ⟨fun a U g mk q => by
    obtain ⟨q0, q1, qP, qK, qD, qN, qM, qZ⟩ := q
    exact ⟨q0, q1, qP, va_K.moved (u := U) (U := U.calling g mk a) (Vm.Alike.refl U.vm) qK, qD, va_Nw.warmM (U := U.calling g mk a) (State.WarmedH.refl U) qN, qM.mv (U := U.calling g mk a) (State.WarmedH.refl U), mm_Z.moved (u := U) (U := U.calling g mk a) (State.WarmedH.refl U) qZ⟩, va_recv hKK hPc (ci := 5) (q0 := 1) rfl rfl, fun U hU hW => ⟨rfl, by rw [hU], by rw [hU]; exact hPc, va_K.moved hW.alike hKK, hDc.weaken (fun _ _ _ _ => trivial), va_Nw.warmM hW hN1, hN2.mv hW, by
      rw [hU]
      exact mm_Z.moved hW (mm_Z.kept hZ hS.1 hS.2.1 hF)⟩⟩ rfl rfl hls rfl (lv_room (Nat.le_of_ble_eq_true rfl)) hd hcs) hS (fun q _ h => hF q h) hF (fun r u t H1 locs1 ht hvm hw hB hz1 hk1 hS1 => ?_)
  obtain ⟨hP1, hK1, hD1⟩ := hB
  rw [ht] at hP1
  obtain ⟨hP2, hD2⟩ := ww_call hP hD hS hA hk1 hP1 hD1
  exact kk r u H1 locs1 hw hP2 hD2 hS1
theorem kp_c : Cond.code yX5_keep cX5_keep 2 (some .boolean) ∈ mm_tb := (mm_t1 (mm_tq3 (List.mem_of_getElem? (i := 10) rfl)) rfl)
theorem kp_l : Cond.methodLink R_law 69 yX5_keep ∈ mm_tb := (mm_t1 (mm_tq3 (List.mem_of_getElem? (i := 7) rfl)) rfl)
theorem kp_i : Cond.instanceMethod yX5_keep ∈ mm_tb := (mm_t1 (mm_tq3 (List.mem_of_getElem? (i := 8) rfl)) rfl)
theorem kp_s : Cond.selects RX5 yX5_keep yX5_keep ∈ mm_tb := (mm_t1 (mm_tq3 (List.mem_of_getElem? (i := 9) rfl)) rfl)
theorem ag_c : Cond.code yX5_again cX5_again 2 (some .boolean) ∈ mm_tb := (mm_t1 (mm_tq3 (List.mem_of_getElem? (i := 31) rfl)) rfl)
theorem ag_l : Cond.methodLink R_law 74 yX5_again ∈ mm_tb := (mm_t1 (mm_tq3 (List.mem_of_getElem? (i := 28) rfl)) rfl)
theorem ag_i : Cond.instanceMethod yX5_again ∈ mm_tb := (mm_t1 (mm_tq3 (List.mem_of_getElem? (i := 29) rfl)) rfl)
theorem ag_s : Cond.selects RX5 yX5_again yX5_again ∈ mm_tb := (mm_t1 (mm_tq3 (List.mem_of_getElem? (i := 30) rfl)) rfl)
end LKP
