def lw_P (b : Addr) (xs : List Int32) (args : Array Value) (s : State) : Prop := args = #[.ref b] ∧ s.IntsAt b xs ∧ xs.length ≤ 3072 ∧ (Jvm.Cond.and given_1 narrow_1).before args s = true
def lw_Q (_ : Array Value) (s : State) (o : Outcome) (t : State) : Prop := o = .returned (some (.int 1)) ∧ Framed s o t [] 601024 7293034
def lw_Z (below : List Frame) (a : Array Value) (s : State) : State → Prop := fun t => ∃ o, t.status = .running ∧ Ended t below o ∧ lw_Q a s o t
/-- the law's own end, with 1 on the stack, nothing written that was there before, its room as the claim has it -/
theorem lw_ret {p : Program} {l : Launch} {e : Env} {s : State} {m : MethodId} {below : List Frame} {meth : Method} {c : Code} {b : Nat} (hx : p.tables.exec = Jvm.exec) (hb : c.code = code) (hr : meth.sig.returnType = ret) (hlocks : meth.locks = false) {pc : Nat} {H : Heap} {ls : Array Slot} (hdg : decode code pc = .ok (.ireturn, 1)) : W p l e room_1 s m #[Value.ref b] below meth c H [] 601024 7293034 (lw_Z below #[Value.ref b] s) (F0 m pc ls [.int 1]) := by
  intro T hT X
  obtain ⟨fs, hret, hrun, hended, hW, hframe⟩ := X.leave (v := some (.int 1)) (hlocks := hlocks) (fun h => by rw [hr] at h; cases h)
  have hmeth' : T.vm.method? m = some meth := X.method'
  refine ⟨T.setFrames fs, ?_, .returned (some (.int 1)), hrun, hended, rfl, ⟨_, rfl⟩, hW, hframe⟩
  jvm_step X.here [X.here.top, hx, hb, hdg, hmeth', hr, ret, narrow_b1]
  (try refine ⟨rfl, ?_⟩); (try refine ⟨rfl, ?_⟩)
  first | (intro acts; rw [hret _ acts rfl rfl rfl]) | rw [hret _ _ rfl rfl rfl]
  exact Steps.refl _
/-- what holds at the law's entry: the machine, the code, the tables' words (any of lw_tbl by 'hts w (by decide +kernel)'), the script of L ints xs at the cell b, what the Statement gives of the start (any of its parts by flat_of_before) -/
def lw_At (p : Program) (s : State) (m : MethodId) (meth : Method) (c : Code) (b L : Nat) (xs : Nat → Int32) : Prop :=
  p.tables.exec = Jvm.exec ∧ c.code = code ∧ meth.sig.returnType = ret ∧ c.maxLocals = 7 ∧ s.vm.findClass R_law = some m.cls ∧ (∀ w ∈ lw_tbl, w.before #[Value.ref b] s = true) ∧ va_X b L xs s s.heap ∧ b < s.heap.size ∧ meth.locks = false ∧ (Jvm.Cond.and given_1 narrow_1).before #[Value.ref b] s = true
/-! ===== the law's cases ===== -/
section LAW
variable {p : Program} {l : Launch} {e : Env} {s : State} {m : MethodId} {below : List Frame} {meth : Method} {c : Code} {D : va_G} {cA : Nat → ClassId} {σ : Nat → Nat} {b L : Nat} {xs : Nat → Int32}
/-- cells that are new since the law began -/
abbrev lwA (s : State) : Nat → Prop := fun q => s.heap.size ≤ q
/-- what the law has all the way -/
def LCx (D : va_G) (cA : Nat → ClassId) (σ : Nat → Nat) (p : Program) (s : State) (m : MethodId) (meth : Method) (c : Code) (b L : Nat) (xs : Nat → Int32) : Prop := lw_At p s m meth c b L xs ∧ mm_OX D cA σ (lwA s) R_law code 7 p s m #[Value.ref b] c
/-- an argument out of the script -/
theorem law_arg {pc cells slots i j : Nat} {jj : Int} {rest : List Value} {ls : Array Slot} {H : Heap} {locs : List Loc} {Q : State → Prop} (C : LCx D cA σ p s m meth c b L xs) (hS : va_S (lwA s) s.heap H locs) (hb0 : ls[0]? = some (.val (.ref b))) (hi4 : ls[4]? = some (.val (.int (nI i)))) (hlt : i + j < L) (hL : L ≤ 3072) (hj : Int32.ofInt jj = nI j)
    (d0 : decode code pc = .ok (.aload_n 0, 1)) (d1 : decode code (pc + 1) = .ok (.iload 4, 2)) (d3 : decode code (pc + 3) = .ok (.iconst jj, 1)) (d4 : decode code (pc + 4) = .ok (.iadd, 1)) (d5 : decode code (pc + 5) = .ok (.iaload, 1))
    (k : W p l e room_1 s m #[Value.ref b] below meth c H locs cells slots Q (F0 m (pc + 6) ls (.int (xs (i + j)) :: rest))) : W p l e room_1 s m #[Value.ref b] below meth c H locs cells slots Q (F0 m pc ls rest) := by
  obtain ⟨⟨hx, hb, hr, hml, hown, hts, hX, hbl, hlocks, hgv⟩, OX⟩ := C
  have hbA : ¬ (lwA s) b := Nat.not_le.mpr hbl
  refine lv_aload_n hx hb d0 rfl hb0 ?_
  refine lv_iload hx hb d1 hi4 ?_
  refine lv_iconst hx hb d3 hj ?_
  refine lv_iadd hx hb d4 ?_
  have e1 : nI i + nI j = nI (i + j) := nI_add i j
  rw [e1]
  have e2 : (nI (i + j)).toNatClampNeg = i + j := nI_clamp (by omega)
  refine va_sld hx hb hX hbl hbA hS (vp_in_nI hlt (by omega)) d5 ?_
  rw [e2]
  exact k
/-- the two worlds, and what is beside them -/
def LWs (D : va_G) (cA : Nat → ClassId) (s : State) (ρX ρM : Nat → Nat) (v : Value) (μX μM : mm_U) (R : va_W) (H : Heap) (locs : List Loc) : Prop := va_P D vwCl (mm_w 37 ρX cA (shL (xL v)) μX ++ (mm_w 10 ρM cA (shL (moL 0)) μM ++ R)) H ∧ va_D (lwA s) (mm_w 37 ρX cA (shL (xL v)) μX ++ (mm_w 10 ρM cA (shL (moL 0)) μM ++ R)) ∧ va_S (lwA s) s.heap H locs
/-- both are in the same state -/
def LSt (K : Fin 2 → Option Fo) (s0 : Fo) (μX μM : mm_U) : Prop := In s0.1 ∧ RepF s0 μX 1 ∧ RepM s0 μM 0 ∧ μM 0 7 = nI 0 ∧ StA μM 0 ∧ KeR K μM 0
theorem LSt.mt {K : Fin 2 → Option Fo} {s0 s1 : Fo} {μX μM μX1 μM1 : mm_U} {w : Int32} {r : Option Value} (h : LSt K s0 μX μM) (hI : In s1.1) (hX : RepF s1 μX1 1) (hM : MT 0 μM (w, s1) r μM1) : LSt K s1 μX1 μM1 := by
  obtain ⟨_, _, _, _, g, k⟩ := h
  obtain ⟨_, r1, _, m7, _, fr⟩ := hM
  exact ⟨hI, hX, r1, m7, ⟨fun k hk => by rw [fr 5 (by omega) (by omega)]; exact g.1 k hk, fun k hk => by rw [fr 6 (by omega) (by omega)]; exact g.2 k hk⟩, k.cg (fr 3 (by omega) (by omega)) (fr 4 (by omega) (by omega))⟩
/-- x's method is called -/
theorem law_x {ρX ρM : Nat → Nat} {v : Value} {μX μM : mm_U} {R : va_W} {H : Heap} {locs : List Loc} {idx pc cells slots : Nat} {z : mm_Y} {as rest : List Value} {ls : Array Slot} {Q : State → Prop} {Qc : Option Value → mm_U → Prop} (C : LCx D cA σ p s m meth c b L xs) (VK : mm_VK R_law idx z) (hcl : cl (shL (xL v)) z (.ref 0 :: as) μX Qc)
    (h1 : as.length + 1 = yn z) (h2 : mm_oc (shL (xL v)) 0 (yo z) = true) (h3 : as.all mm_ir = true) (h6 : yn z ≤ yl z) (hrm : yr z + 1 ≤ 10 ∧ 8 + (yl z + 11) + 32 * yr z ≤ 358) (hcs : cells ≤ 601024 ∧ slots ≤ 7293034) (hls : ls.size = 7) (h4 : (rest.map fun v => v.category).sum ≤ 8) (hd : decode code pc = .ok (.invokevirtual idx, 3)) (hW : LWs D cA s ρX ρM v μX μM R H locs)
    (kk : ∀ (r : Option Value) (μ' : mm_U) (H1 : Heap) (locs1 : List Loc), Qc r μ' → LWs D cA s ρX ρM v μ' μM R H1 locs1 → W p l e room_1 s m #[Value.ref b] below meth c H1 locs1 cells slots Q (F0 m (pc + 3) ls ((r.map (mm_v ρX σ)).toList ++ rest))) :
    W p l e room_1 s m #[Value.ref b] below meth c H locs cells slots Q (F0 m pc ls ((as.map (mm_v ρX σ)).reverse ++ .ref (ρX 0) :: rest)) :=
  mm_goV C.2 VK (svX v) hcl h1 h2 h3 h6 hrm hcs hls h4 hd hW.1 hW.2.1 hW.2.2 (fun r μ' H1 locs1 hq a1 a2 a3 => kk r μ' H1 locs1 hq ⟨a1, a2, a3⟩)
/-- the model's method is called -/
theorem law_m {ρX ρM : Nat → Nat} {v : Value} {μX μM : mm_U} {R : va_W} {H : Heap} {locs : List Loc} {idx pc cells slots : Nat} {z : mm_Y} {as rest : List Value} {ls : Array Slot} {Q : State → Prop} {Qc : Option Value → mm_U → Prop} (C : LCx D cA σ p s m meth c b L xs) (VK : mm_VK R_law idx z) (hcl : cl (shL (moL 0)) z (.ref 0 :: as) μM Qc)
    (h1 : as.length + 1 = yn z) (h2 : mm_oc (shL (moL 0)) 0 (yo z) = true) (h3 : as.all mm_ir = true) (h6 : yn z ≤ yl z) (hrm : yr z + 1 ≤ 10 ∧ 8 + (yl z + 11) + 32 * yr z ≤ 358) (hcs : cells ≤ 601024 ∧ slots ≤ 7293034) (hls : ls.size = 7) (h4 : (rest.map fun v => v.category).sum ≤ 8) (hd : decode code pc = .ok (.invokevirtual idx, 3)) (hW : LWs D cA s ρX ρM v μX μM R H locs)
    (kk : ∀ (r : Option Value) (μ' : mm_U) (H1 : Heap) (locs1 : List Loc), Qc r μ' → LWs D cA s ρX ρM v μX μ' R H1 locs1 → W p l e room_1 s m #[Value.ref b] below meth c H1 locs1 cells slots Q (F0 m (pc + 3) ls ((r.map (mm_v ρM σ)).toList ++ rest))) :
    W p l e room_1 s m #[Value.ref b] below meth c H locs cells slots Q (F0 m pc ls ((as.map (mm_v ρM σ)).reverse ++ .ref (ρM 0) :: rest)) := by
  have q1 := ww_Pc hW.1
  have q2 := ww_Dc hW.2.1
  rw [List.append_assoc] at q1 q2
  refine mm_goV C.2 VK svM hcl h1 h2 h3 h6 hrm hcs hls h4 hd q1 q2 hW.2.2 (fun r μ' H1 locs1 hq a1 a2 a3 => kk r μ' H1 locs1 hq ⟨?_, ?_, a3⟩)
  · rw [← List.append_assoc] at a1
    exact ww_Pc a1
  · rw [← List.append_assoc] at a2
    exact ww_Dc a2
end LAW
