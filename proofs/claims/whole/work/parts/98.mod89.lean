abbrev nE : String := "java/util/NoSuchElementException"
abbrev nR : String := "java/lang/RuntimeException"
abbrev nX : String := "java/lang/Exception"
def NwD (U : State) : Prop := va_Nw (.declares (Bundle.initS nR)) U ∧ va_Nw (.declares (Bundle.initS nX)) U ∧ va_Nw (.declares (Bundle.initS Bundle.tN)) U ∧ va_Nw (.castable nE nE) U
theorem NwD.mv {s U : State} (h : NwD s) (hW : s.WarmedH U.vm) : NwD U := ⟨va_Nw.warmD hW h.1, va_Nw.warmD hW h.2.1, va_Nw.warmD hW h.2.2.1, va_Nw.warmC hW h.2.2.2⟩
/-- what a throw needs of the machine -/
def NXw (sa : Nat) (A : Nat → Prop) (U : State) (H : Heap) : Prop := NwD U ∧ vx_Zq Bundle.tN "UNASSIGNED_STACK" Bundle.steD A U H ∧ vx_Zq Bundle.tN "SUPPRESSED_SENTINEL" Bundle.listD A U H ∧ vk_R RX5 122 "no such cell" sa U
theorem NXw.mv {sa : Nat} {A : Nat → Prop} {s U : State} {H : Heap} (h : NXw sa A s H) (hW : s.WarmedH U.vm) : NXw sa A U H := ⟨h.1.mv hW, vx_Zq.moved hW.alike h.2.1, vx_Zq.moved hW.alike h.2.2.1, vk_R.warm hW h.2.2.2⟩
theorem NXw.kept {sa : Nat} {A : Nat → Prop} {s : State} {H H1 : Heap} (h : NXw sa A s H) (hq : ∀ a : Nat, a < H.size → ¬ A a → H1[a]? = H[a]?) : NXw sa A s H1 := ⟨h.1, h.2.1.kept hq, h.2.2.1.kept hq, h.2.2.2⟩
theorem NXw.narrow {sa : Nat} {A B : Nat → Prop} {s : State} {H : Heap} (h : NXw sa A s H) (hAB : ∀ q, B q → A q) : NXw sa B s H := ⟨h.1, h.2.1.narrow hAB, h.2.2.1.narrow hAB, h.2.2.2⟩
section NY
variable {p : Program} {l : Launch} {e : Env} {R : Room} {s : State} {m : MethodId} {args : Array Value} {below : List Frame} {meth : Method} {c : Code} {H : Heap} {locs : List Loc} {cells slots : Nat} {free : Addr → Prop} {ls : Array Slot}
variable {Qc : Array Value → State → Outcome → State → Prop} {XC : String → State → State → Prop}
set_option maxRecDepth 100000 in
theorem nx_words {args : Array Value} {s : State} (hts : ∀ w ∈ mm_tb, w.before args s = true) (hDc : NwD s) (hU : (Cond.isRef (.static Bundle.tN "UNASSIGNED_STACK" Bundle.steD)).before args s = true) (hN : (Cond.isRef (.static Bundle.tN "SUPPRESSED_SENTINEL" Bundle.listD)).before args s = true)
    (lU : (Cond.laysStatic Bundle.tN "UNASSIGNED_STACK" Bundle.steD).before args s = true) (lN : (Cond.laysStatic Bundle.tN "SUPPRESSED_SENTINEL" Bundle.listD).before args s = true) : ∀ w ∈ nx_at RX5 124 nE 13 prog_16_method_4_code nR [nX], w.before args s = true := by
  unfold nx_at
  refine List.forall_mem_append.mpr ⟨?_, List.forall_mem_append.mpr ⟨?_, List.forall_mem_append.mpr ⟨?_, List.forall_mem_append.mpr ⟨?_, ?_⟩⟩⟩⟩
  · refine vx_c (hts _ (mm_t1 (mm_tq1 (List.mem_of_getElem? (i := 10) rfl)) rfl)) ?_
    refine vx_c (hts _ (mm_t1 (mm_tq4 (List.mem_of_getElem? (i := 136) rfl)) rfl)) ?_
    refine vx_c (hts _ (mm_t1 (mm_tq4 (List.mem_of_getElem? (i := 145) rfl)) rfl)) ?_
    refine vx_c (hts _ (mm_t1 (mm_tq4 (List.mem_of_getElem? (i := 147) rfl)) rfl)) ?_
    refine vx_c (hts _ (mm_t1 (mm_tq4 (List.mem_of_getElem? (i := 150) rfl)) rfl)) ?_
    refine vx_c (hts _ (mm_t1 (mm_tq4 (List.mem_of_getElem? (i := 152) rfl)) rfl)) ?_
    refine vx_c (hts _ (mm_t1 (mm_tq4 (List.mem_of_getElem? (i := 137) rfl)) rfl)) ?_
    refine vx_c (hts _ (mm_t1 (mm_tq4 (List.mem_of_getElem? (i := 138) rfl)) rfl)) ?_
    refine vx_c (hts _ (mm_t1 (mm_tq1 (List.mem_of_getElem? (i := 20) rfl)) rfl)) ?_
    refine vx_c (hts _ (mm_t1 (mm_tq1 (List.mem_of_getElem? (i := 21) rfl)) rfl)) ?_
    refine vx_c (hts _ (mm_t1 (mm_tq4 (List.mem_of_getElem? (i := 139) rfl)) rfl)) ?_
    refine vx_c (hts _ (mm_t1 (mm_tq4 (List.mem_of_getElem? (i := 144) rfl)) rfl)) ?_
    refine vx_c (hts _ (mm_t1 (mm_tq4 (List.mem_of_getElem? (i := 148) rfl)) rfl)) ?_
    refine vx_c (hts _ (mm_t1 (mm_tq4 (List.mem_of_getElem? (i := 168) rfl)) rfl)) ?_
    refine vx_c (hts _ (mm_t1 (mm_tq4 (List.mem_of_getElem? (i := 126) rfl)) rfl)) ?_
    refine vx_c (hts _ (mm_t1 (mm_tq4 (List.mem_of_getElem? (i := 169) rfl)) rfl)) ?_
    refine vx_c (hts _ (mm_t1 (mm_tq4 (List.mem_of_getElem? (i := 128) rfl)) rfl)) ?_
    refine vx_c (hts _ (mm_t1 (mm_tq4 (List.mem_of_getElem? (i := 170) rfl)) rfl)) ?_
    refine vx_c (hts _ (mm_t1 (mm_tq4 (List.mem_of_getElem? (i := 130) rfl)) rfl)) ?_
    refine vx_c (hts _ (mm_t1 (mm_tq4 (List.mem_of_getElem? (i := 140) rfl)) rfl)) ?_
    refine vx_c lU ?_
    refine vx_c (hts _ (mm_t1 (mm_tq4 (List.mem_of_getElem? (i := 142) rfl)) rfl)) ?_
    refine vx_c lN ?_
    refine vx_c (hts _ (mm_t1 (mm_tq4 (List.mem_of_getElem? (i := 132) rfl)) rfl)) ?_
    exact vx_n
  · refine vx_c (hts _ (mm_t1 (mm_tq4 (List.mem_of_getElem? (i := 164) rfl)) rfl)) ?_
    refine vx_c (hts _ (mm_t1 (mm_tq4 (List.mem_of_getElem? (i := 165) rfl)) rfl)) ?_
    refine vx_c (hts _ (mm_t1 (mm_tq4 (List.mem_of_getElem? (i := 167) rfl)) rfl)) ?_
    refine vx_c (hts _ (mm_t1 (mm_tq4 (List.mem_of_getElem? (i := 132) rfl)) rfl)) ?_
    exact vx_n
  · refine vx_c (hts _ (mm_t1 (mm_tq4 (List.mem_of_getElem? (i := 155) rfl)) rfl)) ?_
    refine vx_c (hts _ (mm_t1 (mm_tq4 (List.mem_of_getElem? (i := 156) rfl)) rfl)) ?_
    refine vx_c (hts _ (mm_t1 (mm_tq4 (List.mem_of_getElem? (i := 157) rfl)) rfl)) ?_
    refine vx_c (hts _ (mm_t1 (mm_tq4 (List.mem_of_getElem? (i := 158) rfl)) rfl)) ?_
    refine vx_c (va_Nw.use rfl hDc.1) ?_
    exact vx_n
  · refine vx_c (hts _ (mm_t1 (mm_tq4 (List.mem_of_getElem? (i := 158) rfl)) rfl)) ?_
    refine vx_c (hts _ (mm_t1 (mm_tq4 (List.mem_of_getElem? (i := 159) rfl)) rfl)) ?_
    refine vx_c (hts _ (mm_t1 (mm_tq4 (List.mem_of_getElem? (i := 160) rfl)) rfl)) ?_
    refine vx_c (hts _ (mm_t1 (mm_tq4 (List.mem_of_getElem? (i := 161) rfl)) rfl)) ?_
    refine vx_c (va_Nw.use rfl hDc.2.1) ?_
    refine vx_c (hts _ (mm_t1 (mm_tq4 (List.mem_of_getElem? (i := 161) rfl)) rfl)) ?_
    refine vx_c (hts _ (mm_t1 (mm_tq4 (List.mem_of_getElem? (i := 162) rfl)) rfl)) ?_
    refine vx_c (hts _ (mm_t1 (mm_tq4 (List.mem_of_getElem? (i := 163) rfl)) rfl)) ?_
    refine vx_c (hts _ (mm_t1 (mm_tq4 (List.mem_of_getElem? (i := 164) rfl)) rfl)) ?_
    refine vx_c (va_Nw.use rfl hDc.2.2.1) ?_
    exact vx_n
  · refine vx_c (hts _ (mm_t1 (mm_tq4 (List.mem_of_getElem? (i := 154) rfl)) rfl)) ?_
    refine vx_c (hts _ (mm_t1 (mm_tq4 (List.mem_of_getElem? (i := 115) rfl)) rfl)) ?_
    refine vx_c (hts _ (mm_t1 (mm_tq4 (List.mem_of_getElem? (i := 123) rfl)) rfl)) ?_
    refine vx_c (hts _ (mm_t1 (mm_tq4 (List.mem_of_getElem? (i := 124) rfl)) rfl)) ?_
    refine vx_c (hts _ (mm_t1 (mm_tq4 (List.mem_of_getElem? (i := 125) rfl)) rfl)) ?_
    refine vx_c (hts _ (mm_t1 (mm_tq4 (List.mem_of_getElem? (i := 127) rfl)) rfl)) ?_
    refine vx_c (hts _ (mm_t1 (mm_tq4 (List.mem_of_getElem? (i := 129) rfl)) rfl)) ?_
    refine vx_c (hts _ (mm_t1 (mm_tq4 (List.mem_of_getElem? (i := 131) rfl)) rfl)) ?_
    refine vx_c hU ?_
    refine vx_c hN ?_
    refine vx_c (hts _ (mm_t1 (mm_tq4 (List.mem_of_getElem? (i := 135) rfl)) rfl)) ?_
    refine vx_c (hts _ (mm_t1 (mm_tq4 (List.mem_of_getElem? (i := 134) rfl)) rfl)) ?_
    refine vx_c (hts _ (mm_t1 (mm_tq4 (List.mem_of_getElem? (i := 133) rfl)) rfl)) ?_
    exact vx_n
/-- the throw of this class -/
theorem nx_throw {cc : ByteArray} {pc : Nat} (hexec : p.tables.exec = Jvm.exec) (hb : c.code = cc) (hl : l.stackTraces = false) {mc ms sa : Nat} {A : Nat → Prop}
    (hown : s.vm.findClass RX5 = some m.cls) (hts : ∀ w ∈ mm_tb, w.before args s = true) (hNX : NXw sa A s s.heap) (hS : va_S A s.heap H locs) (hsize : ls.size = c.maxLocals)
    (d0 : decode cc pc = .ok (.new 120, 3)) (d3 : decode cc (pc + 3) = .ok (.dup, 1)) (d4 : decode cc (pc + 4) = .ok (.ldc 122, 2)) (d6 : decode cc (pc + 6) = .ok (.invokespecial 124, 3)) (d9 : decode cc (pc + 9) = .ok (.athrow, 1))
    (hout : ∀ x ∈ c.exceptionTable.toList, False)
    (hRframes : 5 < R.frames) (hRlocals : 82 ≤ R.locals) (hRcells : cells + 1 ≤ R.cells) (hRslots : slots + 6 ≤ R.slots) (hlocks : meth.locks = false)
    (hx : ∀ t : State, s.vm.Alike t.vm → H.size ≤ t.heap.size → (∀ q : Nat, q < H.size → t.heap[q]? = H[q]?) → XC nE s t)
    (hf : ∀ z ∈ locs, free z.base) (hc : cells + 1 ≤ mc) (hs : slots + 6 ≤ ms) :
    W p l e R s m args below meth c H locs cells slots (vx_MQ below Qc XC args s mc ms free) (F0 m pc ls []) := by
  obtain ⟨hDc, hU, hN, hstr⟩ := hNX
  intro T hT X
  have htr : e.platform.stackTraces = false := (show e.platform.stackTraces = l.stackTraces by rw [X.admits.platform]).trans hl
  have Y := vx_rebase X (R' := { frames := R.frames, locals := R.locals, cells := 1, slots := 6 }) (Nat.le_refl _) (Nat.le_refl _) hRcells hRslots
  obtain ⟨s', hA⟩ : ∃ z, z = (T.setVm s.vm).setFrames (.invoking m args :: below) := ⟨_, rfl⟩
  rw [← hA] at Y
  have hvm : s'.vm = s.vm := by rw [hA]; rfl
  have hhp : s'.heap = H := by rw [hA]; exact hT
  have hW0 : s.WarmedH s'.vm := by rw [hvm]; exact State.WarmedH.refl s
  have hts' : ∀ w ∈ mm_tb, w.before args s' = true := fun w hw => word_at hW0 (good_of_word (List.mem_filter.mp hw).2) (hts w hw)
  have hU' : vx_Zq Bundle.tN "UNASSIGNED_STACK" Bundle.steD A s' s'.heap := by rw [hhp]; exact vx_Zq.moved hW0.alike (hU.kept hS.2.1)
  have hN' : vx_Zq Bundle.tN "SUPPRESSED_SENTINEL" Bundle.listD A s' s'.heap := by rw [hhp]; exact vx_Zq.moved hW0.alike (hN.kept hS.2.1)
  have h := nx_words hts' (hDc.mv hW0) (vx_isRefq hU'.1) (vx_isRefq hN'.1) hU'.2.word hN'.2.word
  have hown' : s'.vm.findClass RX5 = some m.cls := by rw [hvm]; exact hown
  obtain ⟨vm₁, cX, kX, hfX, hkX, -, -, X₁, st1⟩ := Y.newCold hexec (own := RX5) (C := nE) (index := 120) (n := 6) hown' (hts' _ (mm_t1 (mm_tq4 (List.mem_of_getElem? (i := 114) rfl)) rfl)) (hts' _ (mm_t1 (mm_tq4 (List.mem_of_getElem? (i := 115) rfl)) rfl)) (hts' _ (mm_t1 (mm_tq1 (List.mem_of_getElem? (i := 13) rfl)) rfl))
    (g := F0 m pc ls []) rfl (by rw [hb]; exact d0) (Nat.le_refl _) (Nat.le_refl _)
  generalize hT1 : (T.setVm vm₁).pushCell { cls := cX, slots := kX.instanceTypes.map defaultValue, vm := .none } = T1 at X₁ st1
  have hcat : (Value.ref T.heap.size).category = 1 := rfl
  have hcellA : T1.heap[T.heap.size]? = some (freshCell cX kX) := by rw [← hT1]; exact State.heap_pushCell_size _ _
  have d3' : decode c.code (pc + 3) = .ok (.dup, 1) := by rw [hb]; exact d3
  have d4' : decode c.code (pc + 4) = .ok (.ldc 122, 2) := by rw [hb]; exact d4
  have hstr' : vk_R RX5 122 "no such cell" sa s' := vk_R.warm hW0 hstr
  obtain ⟨U, hsteps, hrun, hend, hW, hsame, ce, hce, hO, hOv⟩ := nx_ctor X₁ hexec htr (own := RX5) (cls := nE) (Yc := nR) (names := [nX]) (ic := 124) (ix := 13) (rx := prog_16_method_4_code) (by decide +kernel) (by decide +kernel) (by decide +kernel) (by decide +kernel) hown' (by decide +kernel) (by decide +kernel) (fun n hn => by rw [List.mem_singleton.mp hn]; decide +kernel) h (fun x hx => nomatch hx) hfX hkX hcellA (by rw [hhp, hT]; exact Nat.le_refl _) (msg := .ref sa) rfl
    (g := { method := m, pc := pc + 6, locals := ls, stack := .ref sa :: .ref T.heap.size :: .ref T.heap.size :: [], locked := none }) rfl hsize rfl rfl (rest := []) rfl
    (by rw [hb]; exact d6) (by rw [hb]; exact d9) (fun x hx => (hout x hx).elim) hRframes (by simp only [List.map_cons, List.sum_cons, hcat, List.length_cons, List.length_nil, List.map_nil, List.sum_nil]; exact hRlocals) hlocks
  obtain ⟨f1, f2⟩ := vx_frame hsame
  rw [hhp] at f1 f2
  have hWs : s.WarmedH U.vm := State.WarmedH.trans hW0 hW
  have hcl : s.vm.findClass nE = some ce.cls := by
    have h9 := hO
    rw [hvm] at h9
    exact h9
  have hall : s.sameButNew ({ U with vm := s.vm } : State) locs mc ms := by
    subst hA
    obtain ⟨e1, e2⟩ := hsame
    rw [State.setFrames_setFrames] at e1
    have h2 : (T.setVm s.vm).sameButNew ({ U with vm := s.vm } : State) [] (0 + 1) (0 + 6) := ⟨e1, e2⟩
    have h3 := X.same.trans h2
    rw [List.append_nil] at h3
    exact h3.mono hc hs
  refine ⟨U, ?_, .threw T.heap.size, hrun, hend, Or.inr ⟨T.heap.size, rfl, nE, ce, locs, hx U hWs.alike f1 (fun q hq => f2 q hq (fun z hz => nomatch hz)), hce, hOv, hcl, hWs, hall, hf⟩⟩
  refine st1 _ ?_
  show Steps p.tables e below (T1.setTop { method := m, pc := pc + 3, locals := ls, stack := .ref T.heap.size :: [], locked := none }) _
  jvm_step X₁.here [X₁.here.top, hexec, d3', Value.category]
  exact X₁.ldcString hexec (own := RX5) (text := "no such cell") (index := 122) (a := sa) hown' hstr'.1 hstr'.2
    (g := { method := m, pc := pc + 4, locals := ls, stack := .ref T.heap.size :: .ref T.heap.size :: [], locked := none }) rfl d4' _ hsteps
end NY
