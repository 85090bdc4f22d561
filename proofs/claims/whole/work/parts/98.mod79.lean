section CTN
variable {p : Program} {l : Launch} {e : Env} {Rm : Room} {s : State} {m : MethodId} {args : Array Value} {below : List Frame} {meth : Method} {c : Code} {Q : State → Prop} {D : va_G} {cA : Nat → ClassId} {A : Nat → Prop} {cc : ByteArray}
/-- a new world beside one that was there -/
theorem ww_new {ws w1 : va_W} {q : Nat} {e0 : va_E} {H0 H H1 : Heap} {locs : List Loc} (hP : va_P D vwCl (ws ++ [(q, e0)]) H) (hD : va_D A (ws ++ [(q, e0)])) (hS : va_S A H0 H locs) (hA : ∀ x, H0.size ≤ x → A x) (hk : ∀ x : Nat, x < H.size → ¬ va_A [(q, e0)] H.size x → H1[x]? = H[x]?) (hP1 : va_P D vwCl w1 H1) (hD1 : va_D (va_A [(q, e0)] H.size) w1) : va_P D vwCl (ws ++ w1) H1 ∧ va_D A (ws ++ w1) := by
  obtain ⟨hPw, hPq⟩ := ww_P hP
  obtain ⟨hDw, hDq, hap⟩ := ww_D hD
  have one : ∀ (i : Nat) (x : Nat × va_E), ([(q, e0)] : va_W)[i]? = some x → x.1 = q := fun i x hx => by
    have := List.mem_singleton.mp (List.mem_of_getElem? hx)
    rw [this]
  have nq : ∀ (k : Nat) (x : Nat × va_E), ws[k]? = some x → x.1 ≠ q := fun k x hx => hap k 0 x (q, e0) hx rfl
  refine ⟨(hPw.kept (fun k x hx => hk x.1 (hPw k x hx).lt ?_)).app hP1, hDw.app (hD1.weaken (fun k x hx h => ?_)) (fun i j x y hx hy ee => ?_)⟩
  · rintro (⟨i, e', hi⟩ | hge)
    · exact nq k x hx (one i (x.1, e') hi)
    · have := (hPw k x hx).lt
      omega
  · rcases h with ⟨i, e', hi⟩ | hge
    · have := one i _ hi
      have : x.1 = q := this
      rw [this]
      exact hDq.2 0 (q, e0) rfl
    · exact hA _ (Nat.le_trans hS.1 hge)
  · rcases hD1.2 j y hy with ⟨i', e', hi⟩ | hge
    · have h1 : y.1 = q := one i' (y.1, e') hi
      exact nq i x hx (ee.trans h1)
    · have := (hPw i x hx).lt
      omega
/-- 'this.k = new C2()' in a constructor -/
theorem ct_new {ci N idx k ci2 N2 idxC idxI N3 mc ms pc cells slots h0 nL : Nat} {C C2 : String} {T T2 : u_T} {ty0 ty2 : Nat → FieldType} {fs fs2 rest : List Value} {tl : va_W} {ls : Array Slot} {H : Heap} {locs : List Loc} {y2 : MethodName} {cc2 : ByteArray} {rm2 : Room} {NW2 : State → Prop} {sh2 : mm_Sh} {μ2 : mm_U}
    (hx : p.tables.exec = Jvm.exec) (hb : c.code = cc) (hml : c.maxLocals = nL) (hts : ∀ w ∈ mm_tb, w.before args s = true) (hown : s.vm.findClass C = some m.cls) (hin : meth.name = "<init>") (hK : va_K D vwCl (mm_ty cA) s) (hA : ∀ q, s.heap.size ≤ q → A q)
    (hc : vwCl[ci]? = some (C, T, N)) (huw : ∀ w ∈ u_ws C T N, w ∈ mm_tb) (hty : ∀ k, k < N → parseFieldDescriptor (T k).2.2.1 = some (ty0 k)) (hnm : ∀ a, a < N → ∀ b, b < N → a ≠ b → (T a).2.1 ≠ (T b).2.1)
    (hk : k < N) (hlk : Cond.fieldLink C idx C (T k).2.1 (T k).2.2.1 ∈ mm_tb) (hcl : (T k).1 = C) (hfin : (T k).2.2.2 = true) (hta : ty0 k = .object C2) (hfl : k < fs.length)
    (hc2 : vwCl[ci2]? = some (C2, T2, N2)) (huw2 : ∀ w ∈ u_ws C2 T2 N2, w ∈ mm_tb) (hty2 : ∀ k, k < N2 → parseFieldDescriptor (T2 k).2.2.1 = some (ty2 k)) (hfs2 : ∀ j, j < N2 → defaultValue (ty2 j) = vp_V fs2 j)
    (hclk : Cond.classLink C idxC C2 ∈ mm_tb) (hinst : Cond.instantiable C2 N2 ∈ mm_tb) (hini : Cond.initialized C2 ∈ mm_tb) (hy : y2.cls = C2) (hyn : y2.name = "<init>") (hyp : C2 ≠ "java/lang/invoke/MethodHandle" ∧ C2 ≠ "java/lang/invoke/VarHandle") (hyd : (parseMethodDescriptor y2.desc).map (fun d => d.parameters.length) = some 0) (hyi : Cond.instanceMethod y2 ∈ mm_tb) (hyc : Cond.code y2 cc2 1 none ∈ mm_tb)
    (hNw : va_Nw (.methodLinkNest C idxI y2 "FoamCells") s)
    (hM : ∀ h1 sz, Met l y2 (kw y2 cc2) rm2 (kPc D cA h1 sz (.inr (ci2, fs2)) NW2) (kQ D cA h1 sz (.inr (ci2, fs2)) N3 sh2 μ2) mc ms (va_A [(h1, .inr (ci2, fs2))] sz)) (hNW : ∀ U : State, s.WarmedH U.vm → NW2 U) (hNWb : ∀ (U : State) g mk a, NW2 U → NW2 (U.calling g mk a))
    (hrm : rm2.frames + 1 ≤ Rm.frames ∧ 8 + (1 + 11) + rm2.locals ≤ Rm.locals) (hrc : rm2.cells = mc) (hrs : rm2.slots = ms) (hcs : cells + 1 + mc ≤ Rm.cells ∧ slots + N2 + ms ≤ Rm.slots) (hls : ls.size = nL) (h4 : (rest.map fun v => v.category).sum ≤ 5)
    (dn : decode cc pc = .ok (.new idxC, 3)) (dd : decode cc (pc + 3) = .ok (.dup, 1)) (di : decode cc (pc + 4) = .ok (.invokespecial idxI, 3)) (dp : decode cc (pc + 7) = .ok (.putfield idx, 3))
    (hP : va_P D vwCl ((h0, .inr (ci, fs)) :: tl) H) (hD : va_D A ((h0, .inr (ci, fs)) :: tl)) (hS : va_S A s.heap H locs)
    (kk : ∀ (ρ : Nat → Nat) (H1 : Heap) (locs1 : List Loc), va_P D vwCl ((h0, .inr (ci, fs.set k (.ref (ρ 0)))) :: (tl ++ mm_w N3 ρ cA sh2 μ2)) H1 → va_D A ((h0, .inr (ci, fs.set k (.ref (ρ 0)))) :: (tl ++ mm_w N3 ρ cA sh2 μ2)) → va_S A s.heap H1 locs1 → W p l e Rm s m args below meth c H1 locs1 (cells + 1 + mc) (slots + N2 + ms) Q (F0 m (pc + 10) ls rest)) :
    W p l e Rm s m args below meth c H locs cells slots Q (F0 m pc ls (.ref h0 :: rest)) := by
  refine va_new (ci := ci2) (fs := fs2) (C := C2) (T := T2) (N := N2) hx hb hts huw2 ty2 hty2 hown (hts _ hclk) (hts _ hinst) (hts _ hini) hK hP hD hS hA hc2 hfs2 (by omega) (by omega) dn (fun q H hP hD hS => ?_)
  refine lv_dup hx hb dd rfl ?_
  have hM := hM q H.size
  unfold kQ at hM
  obtain ⟨hPw, hPq⟩ := ww_P hP
  obtain ⟨hDw, hDq, hap⟩ := ww_D hD
  have hF : ∀ x, va_A [(q, .inr (ci2, fs2))] H.size x → A x := fun x h => by
    rcases h with ⟨i, e', hi⟩ | hge
    · exact hDq.2 i (x, e') hi
    · exact hA _ (Nat.le_trans hS.1 hge)
  have cn : va_CN Rm s args C idxI y2 "FoamCells" cc2 1 none (kw y2 cc2) rm2 mc ms 0 := va_cnB 0 hts (mm_gin hyc) rfl hrc hrs hNw (by rw [hy]; exact hts _ hini) ⟨by rw [hy]; exact hyp.1, by rw [hy]; exact hyp.2, hyd⟩ hrm
  have hst : ((.ref h0 :: rest).map fun v => v.category).sum ≤ 8 := by
    rw [List.map_cons, List.sum_cons]
    have : (Value.ref h0).category = 1 := rfl
    omega
  have hst2 : ((.ref q :: .ref h0 :: rest).map fun v => v.category).sum ≤ 8 := by
    rw [List.map_cons, List.sum_cons]
    have h1 : (Value.ref q).category = 1 := rfl
    have h2 : ((.ref h0 :: rest).map fun v => v.category).sum ≤ 6 := by
      rw [List.map_cons, List.sum_cons]
      have : (Value.ref h0).category = 1 := rfl
      omega
    omega
  refine va_callv (va_runIN (As := []) (rest := .ref q :: .ref h0 :: rest) ⟨hx, hb, hml, hown, hts⟩ hM ⟨cn, hyn, hts _ hyi⟩ ⟨fun a U g mk qq => by
    obtain ⟨q0, q1, qP, qK, qD, qN⟩ := qq
    exact ⟨q0, q1, qP, va_K.moved (u := U) (U := U.calling g mk a) (Vm.Alike.refl U.vm) qK, qD, hNWb U g mk a qN⟩, fun U hU hW => ⟨rfl, by rw [hU], by rw [hU]; exact hPq, va_K.moved hW.alike hK, hDq.weaken (fun _ _ _ _ => trivial), hNW U hW⟩⟩ rfl rfl hls rfl (lv_room hst2) di ⟨by omega, by omega⟩) hS (fun x _ h => hF x h) hF (fun ρ t H1 locs1 ht hvm hw hB hz1 hk1 hS => ?_)
  obtain ⟨hP1, hK1, hD1⟩ := hB
  rw [ht] at hP1
  obtain ⟨hP2, hD2⟩ := ww_new hP hD ‹va_S A s.heap H _› hA hk1 hP1 hD1
  have hd : parseFieldDescriptor (T k).2.2.1 = some (.object C2) := by rw [hty k hk, hta]
  have hw : ρ 0 = q := hw
  rw [← hw]
  refine va_putF (ci := ci) (v := .ref (ρ 0)) (ty := .object C2) (C := C) (T := T) (N := N) (ref := C) hx hb hts huw ty0 hty hnm hown hK hP2 hD2 hS 0 rfl hc k hk (hts _ hlk) (fun _ h9 => by rw [← hcl]; exact h9) hfin hin hcl hd rfl rfl hfl dp (fun H locs hP hD hS => ?_)
  exact kk ρ H locs hP hD hS
end CTN
