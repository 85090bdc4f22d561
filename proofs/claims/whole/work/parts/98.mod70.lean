/-! ===== calls into the small machine, from outside ===== -/
section OUT
variable {p : Program} {l : Launch} {e : Env} {Rm : Room} {s : State} {m : MethodId} {args : Array Value} {below : List Frame} {meth : Method} {c : Code} {Q : State → Prop}
variable {D : va_G} {cA : Nat → ClassId} {ρ σ : Nat → Nat} {A : Nat → Prop} {N : Nat} {sh : mm_Sh}
theorem ww_P {D : va_G} {cl : List vw_C} {a b : va_W} {H : Heap} (h : va_P D cl (a ++ b) H) : va_P D cl a H ∧ va_P D cl b H := by
  refine ⟨fun k q hk => h k q ?_, fun k q hk => h (a.length + k) q ?_⟩
  · rw [List.getElem?_append_left (List.getElem?_eq_some_iff.mp hk).1]
    exact hk
  · rw [List.getElem?_append_right (by omega), Nat.add_sub_cancel_left]
    exact hk
theorem ww_D {A : Nat → Prop} {a b : va_W} (h : va_D A (a ++ b)) : va_D A a ∧ va_D A b ∧ ∀ (i j : Nat) (x y : Nat × va_E), a[i]? = some x → b[j]? = some y → x.1 ≠ y.1 := by
  have la : ∀ (k : Nat) (q : Nat × va_E), a[k]? = some q → (a ++ b)[k]? = some q := fun k q hk => by
    rw [List.getElem?_append_left (List.getElem?_eq_some_iff.mp hk).1]
    exact hk
  have lb : ∀ (k : Nat) (q : Nat × va_E), b[k]? = some q → (a ++ b)[a.length + k]? = some q := fun k q hk => by
    rw [List.getElem?_append_right (by omega), Nat.add_sub_cancel_left]
    exact hk
  refine ⟨⟨fun i j x y hx hy e => h.1 i j x y (la i x hx) (la j y hy) e, fun k q hk => h.2 k q (la k q hk)⟩, ⟨fun i j x y hx hy e => ?_, fun k q hk => h.2 _ q (lb k q hk)⟩, fun i j x y hx hy e => ?_⟩
  · have := h.1 _ _ x y (lb i x hx) (lb j y hy) e
    omega
  · have := h.1 _ _ x y (la i x hx) (lb j y hy) e
    have := (List.getElem?_eq_some_iff.mp hx).1
    omega
theorem ww_Pc {D : va_G} {cl : List vw_C} {a b : va_W} {H : Heap} (h : va_P D cl (a ++ b) H) : va_P D cl (b ++ a) H := (ww_P h).2.app (ww_P h).1
theorem ww_Dc {A : Nat → Prop} {a b : va_W} (h : va_D A (a ++ b)) : va_D A (b ++ a) := (ww_D h).2.1.app (ww_D h).1 (fun i j x y hx hy e => (ww_D h).2.2 j i y x hy hx e.symm)
theorem mm_w_D {μ μ' : mm_U} {R : va_W} (h : va_D A (mm_w N ρ cA sh μ ++ R)) : va_D A (mm_w N ρ cA sh μ' ++ R) := by
  obtain ⟨h1, h2, h3⟩ := ww_D h
  have at' : ∀ (k : Nat) (x : Nat × va_E), (mm_w N ρ cA sh μ')[k]? = some x → ∃ y, (mm_w N ρ cA sh μ)[k]? = some y ∧ y.1 = x.1 := fun k x hx => by
    have hk : k < N := by
      have := (List.getElem?_eq_some_iff.mp hx).1
      unfold mm_w at this
      rw [List.length_map, List.length_range] at this
      exact this
    rw [mm_w_at hk] at hx
    cases hx
    exact ⟨_, mm_w_at hk, rfl⟩
  refine va_D.app ⟨fun i j x y hx hy e => ?_, fun k x hx => ?_⟩ h2 (fun i j x y hx hy e => ?_)
  · obtain ⟨x', a1, a2⟩ := at' i x hx
    obtain ⟨y', b1, b2⟩ := at' j y hy
    exact h1.1 i j x' y' a1 b1 (by rw [a2, b2]; exact e)
  · obtain ⟨x', a1, a2⟩ := at' k x hx
    rw [← a2]
    exact h1.2 k x' a1
  · obtain ⟨x', a1, a2⟩ := at' i x hx
    exact h3 i j x' y a1 hy (by rw [a2]; exact e)
/-- what a caller has -/
def mm_OX (D : va_G) (cA : Nat → ClassId) (σ : Nat → Nat) (A : Nat → Prop) (own : String) (cc : ByteArray) (nL : Nat) (p : Program) (s : State) (m : MethodId) (args : Array Value) (c : Code) : Prop :=
  p.tables.exec = Jvm.exec ∧ c.code = cc ∧ c.maxLocals = nL ∧ (∀ w ∈ mm_tb, w.before args s = true) ∧ s.vm.findClass own = some m.cls ∧ va_K D vwCl (mm_ty cA) s ∧ (∀ q, s.heap.size ≤ q → A q) ∧ mm_Z σ A s s.heap
/-- a method of an object, as it is called from outside -/
def mm_VK (own : String) (idx : Nat) (z : mm_Y) : Prop := mm_YK z ∧ Cond.methodLink own idx (yy z) ∈ mm_tb ∧ Cond.instanceMethod (yy z) ∈ mm_tb ∧ Cond.selects (yy z).cls (yy z) (yy z) ∈ mm_tb ∧ (∃ q, vwCl[yo z]? = some q ∧ q.1 = (yy z).cls) ∧ (parseMethodDescriptor (yy z).desc).map (fun d => d.parameters.length + 1) = some (yn z)
theorem mm_goV {own : String} {cc : ByteArray} {nL idx : Nat} {z : mm_Y} {a pc cells slots : Nat} {as rest : List Value} {μ : mm_U} {R : va_W} {H : Heap} {locs : List Loc} {lsA : Array Slot} {Qc : Option Value → mm_U → Prop}
    (OX : mm_OX D cA σ A own cc nL p s m args c) (VK : mm_VK own idx z) (SV : mm_SV N sh) (hcl : cl sh z (.ref a :: as) μ Qc)
    (h1 : as.length + 1 = yn z) (h2 : mm_oc sh a (yo z) = true) (h3 : as.all mm_ir = true) (h6 : yn z ≤ yl z) (hrm : yr z + 1 ≤ Rm.frames ∧ 8 + (yl z + 11) + 32 * yr z ≤ Rm.locals) (hcs : cells ≤ Rm.cells ∧ slots ≤ Rm.slots) (hls : lsA.size = nL) (h4 : (rest.map fun v => v.category).sum ≤ 8)
    (hd : decode cc pc = .ok (.invokevirtual idx, 3))
    (hP : va_P D vwCl (mm_w N ρ cA sh μ ++ R) H) (hD : va_D A (mm_w N ρ cA sh μ ++ R)) (hS : va_S A s.heap H locs)
    (kk : ∀ (r : Option Value) (μ' : mm_U) (H1 : Heap) (locs1 : List Loc), Qc r μ' → va_P D vwCl (mm_w N ρ cA sh μ' ++ R) H1 → va_D A (mm_w N ρ cA sh μ' ++ R) → va_S A s.heap H1 locs1 → W p l e Rm s m args below meth c H1 locs1 cells slots Q (F0 m (pc + 3) lsA ((r.map (mm_v ρ σ)).toList ++ rest))) :
    W p l e Rm s m args below meth c H locs cells slots Q (F0 m pc lsA ((as.map (mm_v ρ σ)).reverse ++ .ref (ρ a) :: rest)) := by
  obtain ⟨hx, hb, hml, hts, hown, hK, hA, hZ⟩ := id OX
  obtain ⟨hyk, hlk, hin, hse, ⟨q, hq, hqc⟩, hpd⟩ := VK
  obtain ⟨hPm, hPr⟩ := ww_P hP
  obtain ⟨hDm, hDr, hap⟩ := ww_D hD
  obtain ⟨n, r, μ', hex, hQ⟩ := hcl
  obtain ⟨haN, fs, hsh⟩ := mm_oc_in SV h2
  have hw := mm_w_at (ρ := ρ) (cA := cA) (sh := sh) (μ := μ) haN
  rw [hsh] at hw
  have hM := mm_meets (l := l) (D := D) (cA := cA) (N := N) (sh := sh) (ρ := ρ) (σ := σ) SV (sz := H.size) hyk ⟨n, hex⟩ (by simp [h3, mm_ir]) (by simp; omega)
  have hn2 : (parseMethodDescriptor (yy z).desc).map (fun d => d.parameters.length) = some (yn z - 1) := by
    cases hpp : parseMethodDescriptor (yy z).desc with
    | none => rw [hpp] at hpd; cases hpd
    | some d =>
      rw [hpp] at hpd
      have : d.parameters.length + 1 = yn z := Option.some.inj hpd
      show some d.parameters.length = some (yn z - 1)
      rw [← this]
      rfl
  have cw : CallB Rm s args own idx (yy z) (yc z) (yl z) (yt z) (mm_ws z) (mm_rm (yr z)) 0 0 (yn z - 1) := callB_of (yn z - 1) hts (mm_gin hyk.1) rfl rfl rfl (hts _ hyk.2.1) (hts _ hlk) ⟨hyk.2.2.2.2.1, hyk.2.2.2.2.2.1, hn2⟩ ⟨hrm.1, hrm.2⟩
  have hB := mm_wA hDm hS hA
  refine mm_after (va_runV (C := (yy z).cls) (b := ρ a) (As := as.map (mm_v ρ σ)) (rest := rest) ⟨hx, hb, hml, hown, hts⟩ hM ⟨cw, hts _ hin, hts _ hse⟩ ⟨mm_blind, by rw [← hqc]; exact va_recv hK hPm hq hw, mm_pre (as := .ref a :: as) hK hZ hA ⟨hPm, hDm, hS⟩⟩ rfl (by rw [List.length_map]; omega) hls rfl (lv_room h4) hd ⟨hcs.1, hcs.2⟩) hS (fun q _ h => hB q h) hB (fun t H1 locs1 ht hvm hBB hz1 hk1 hS1 => ?_)
  obtain ⟨hP1, hK1, hD1⟩ := hBB
  rw [ht] at hP1
  refine kk r μ' H1 locs1 hQ (hP1.app (hPr.kept (fun k x hx' => ?_))) (mm_w_D hD) hS1
  refine hk1 x.1 (hPr k x hx').lt ?_
  rintro (⟨i, e', hi⟩ | hge)
  · exact hap i k _ x hi hx' rfl
  · have := (hPr k x hx').lt
    omega
end OUT
