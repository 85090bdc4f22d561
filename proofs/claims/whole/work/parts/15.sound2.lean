section SND
variable {p : Program} {l : Launch} {e : Env} {R : Room} {s : State} {m : MethodId} {args : Array Value} {below : List Frame} {meth : Method} {c : Code} {Q : State → Prop}
variable {D : va_G} {cA : Nat → ClassId} {ρ σ : Nat → Nat} {A : Nat → Prop} {N : Nat} {sh : mm_Sh}
theorem Met.ofWF {y : MethodName} {ws ws' : List Cond} {rm : Room} {Pc : Array Value → State → Prop} {Qc : Array Value → State → Outcome → State → Prop} {mc ms : Nat} {free : Addr → Prop} {cc : ByteArray} {maxL : Nat} {ret : Option FieldType}
    (hy : plainFor y = true) (hw : ws = Cond.code y cc maxL ret :: ws')
    (body : ∀ p e s m args below meth c s₁, BodyLoose p l y (headSpec ws rm) cc maxL ret e s m args below meth c s₁ → c.maxLocals = maxL → Pc args s →
      W p l e (headSpec ws rm).room s m args below meth c s.heap [] 0 0 (MQ below Qc args s mc ms free) (entryFrame m args maxL)) : Met l y ws rm Pc Qc mc ms free := by
  refine MetFree.of_bodySF (code := cc) (maxLocals := maxL) (ret := ret) hy ?_ ?_
  · intro args s m h hn
    obtain ⟨meth, c, h1, h2, h3, h4, h5, h6, -, -⟩ := Cond.code_spec hn (atoms_spec (ws := ws) h _ (by rw [hw]; exact List.mem_cons_self))
    exact ⟨meth, c, h1, h2, h3, h4, h5, h6⟩
  · intro p e s m args below meth c s₁ B hml hP _
    have hh0 : s₁.heap = s.heap := by rw [B.state]; rfl
    obtain ⟨t, a1, o, b1, b2, b3⟩ := body p e s m args below meth c s₁ B hml hP s₁ hh0 (Stand.of_body B)
    exact ⟨t, o, a1, b1, b2, ⟨b3.1, b3.2⟩⟩
def mm_B (D : va_G) (cA : Nat → ClassId) (N : Nat) (sh : mm_Sh) (ρ : Nat → Nat) (A : Nat → Prop) (μ : mm_U) (t : State) : Prop := va_P D vwCl (mm_w N ρ cA sh μ) t.heap ∧ va_K D vwCl (mm_ty cA) t ∧ va_D A (mm_w N ρ cA sh μ)
def mm_Q (D : va_G) (cA : Nat → ClassId) (N : Nat) (sh : mm_Sh) (ρ σ : Nat → Nat) (A : Nat → Prop) (r : Option Value) (μ : mm_U) : Array Value → State → Outcome → State → Prop := fun _ st oc t => (oc = .returned (r.map (mm_v ρ σ)) ∧ mm_B D cA N sh ρ A μ t) ∧ va_F A st t
def mm_Pc (D : va_G) (cA : Nat → ClassId) (N : Nat) (sh : mm_Sh) (ρ σ : Nat → Nat) (as : List Value) (μ : mm_U) (sz : Nat) : Array Value → State → Prop := va_Pc (as.map (mm_v ρ σ)) (fun U => U.heap.size = sz ∧ va_P D vwCl (mm_w N ρ cA sh μ) U.heap ∧ va_K D vwCl (mm_ty cA) U ∧ va_D (fun _ => True) (mm_w N ρ cA sh μ) ∧ mm_Z σ (va_A (mm_w N ρ cA sh μ) sz) U U.heap)
theorem mm_sl {vs : List Value} (h : ∀ v ∈ vs, v.category = 1) : lg_sl vs = vs.map Slot.val := by
  induction vs with
  | nil => rfl
  | cons a vs ih =>
    have h1 := h a List.mem_cons_self
    have ih := ih (fun v hv => h v (List.mem_cons_of_mem _ hv))
    unfold lg_sl at ih ⊢
    rw [List.flatMap_cons, ih]
    simp [h1]
theorem mm_entry {as : List Value} {n : Nat} (hir : as.all mm_ir = true) (hn : as.length ≤ n) : mm_LR ρ σ n ((lg_sl (as.map (mm_v ρ σ)) ++ List.replicate (n - (lg_sl (as.map (mm_v ρ σ))).length) Slot.unset).toArray) (mm_pd n as) := by
  have hall : ∀ v ∈ as, mm_ir v = true := List.all_eq_true.mp hir
  have e : lg_sl (as.map (mm_v ρ σ)) = (as.map (mm_v ρ σ)).map Slot.val := mm_sl (fun v hv => by
    obtain ⟨w, hw, rfl⟩ := List.mem_map.mp hv
    exact mm_cat (hall w hw))
  have hle : (lg_sl (as.map (mm_v ρ σ))).length ≤ n := by rw [e]; simpa using hn
  have h0 := lv_entry (as.map (mm_v ρ σ)) (n := n) hle
  refine ⟨h0.1, by unfold mm_pd; simp; omega, h0.2.1, fun i v hv hr => ?_⟩
  unfold mm_pd at hv
  by_cases hi : i < as.length
  · rw [List.getElem?_append_left hi] at hv
    rw [e, List.getElem?_toArray, List.getElem?_append_left (by simpa using hi)]
    simp [hv]
  · rw [List.getElem?_append_right (by omega)] at hv
    have := List.mem_of_getElem? hv
    rw [List.mem_replicate] at this
    rw [this.2] at hr
    cases hr
def mm_SS (l : Launch) (D : va_G) (cA : Nat → ClassId) (N : Nat) (sh : mm_Sh) (n : Nat) : Prop := ∀ (y : mm_Y) (pc : Nat) (ls st : List Value) (μ : mm_U) (r : Option Value) (μ' : mm_U), mm_ex sh n y pc ls st μ = some (r, μ') → mm_YK y → ∀ (ρ σ : Nat → Nat) (A : Nat → Prop) (p : Program) (e : Env) (s : State) (m : MethodId) (args : Array Value) (below : List Frame) (meth : Method) (c : Code) (H : Heap) (locs : List Loc) (lsA : Array Slot), mm_CX D cA σ A y p s m args meth c → mm_LR ρ σ (yl y) lsA ls → mm_WS D cA N sh ρ A s.heap μ H locs →
  W p l e (mm_rm (yr y)) s m args below meth c H locs 0 0 (MQ below (mm_Q D cA N sh ρ σ A r μ') args s 0 0 A) (F0 m pc lsA (st.map (mm_v ρ σ)))
abbrev mm_ws (z : mm_Y) : List Cond := Cond.code (yy z) (yc z) (yl z) (yt z) :: mm_tb
theorem mm_met {n sz : Nat} {z : mm_Y} {as : List Value} {μ μ' : mm_U} {r : Option Value} (hS : mm_SS l D cA N sh n) (hz : mm_YK z) (hex : mm_ex sh n z 0 (mm_pd (yl z) as) [] μ = some (r, μ')) (hir : as.all mm_ir = true) (hn : as.length ≤ yl z) :
    Met l (yy z) (mm_ws z) (mm_rm (yr z)) (mm_Pc D cA N sh ρ σ as μ sz) (mm_Q D cA N sh ρ σ (va_A (mm_w N ρ cA sh μ) sz) r μ') 0 0 (va_A (mm_w N ρ cA sh μ) sz) := by
  obtain ⟨hc0, hi0, h1, h2, h3, h4, h5, h6⟩ := id hz
  refine Met.ofWF (cc := yc z) (maxL := yl z) (ret := yt z) h2 rfl ?_
  intro p e s m args below meth c s₁ B hml hv
  obtain ⟨rfl, rfl, hP, hK, hD0, hZ⟩ := hv
  rw [lg_entry_eq]
  have hts0 := atoms_spec (ws := mm_ws z) B.pre
  have hown : s.vm.findClass (yy z).cls = some m.cls := findClass_of_methodNamed B.named
  rw [h1] at hown
  exact hS z 0 _ [] μ r μ' hex hz ρ σ _ p e s m _ below meth c s.heap [] _ ⟨B.exec, B.bytes, B.returns, hml, fun w hw => hts0 w (List.mem_cons_of_mem _ hw), hown, B.notSynchronized, hK, fun q h => Or.inr h, hZ⟩ (mm_entry hir hn) ⟨hP, hD0.self, va_S.rf⟩
theorem mm_after {cells slots pc : Nat} {ls : Array Slot} {st0 rest : List Value} {a : Array Value} {A0 A1 : Nat → Prop} {H0 H : Heap} {locs : List Loc} {free : Addr → Prop} {r : Option Value} {μ' : mm_U}
    (hr : va_Run p l e R s m args below meth c H locs cells slots 0 0 (F0 m pc ls st0) rest (mm_Q D cA N sh ρ σ A1 r μ' a) free) (hS : va_S A0 H0 H locs) (hA : ∀ q, q < H.size → A1 q → A0 q) (hf : ∀ q, free q → A0 q)
    (kk : ∀ (t : State) (H1 : Heap) (locs1 : List Loc), t.heap = H1 → s.vm.Alike t.vm → mm_B D cA N sh ρ A1 μ' t → H.size ≤ H1.size → (∀ q : Nat, q < H.size → ¬ A1 q → H1[q]? = H[q]?) → va_S A0 H0 H1 locs1 → W p l e R s m args below meth c H1 locs1 cells slots Q (F0 m (pc + 3) ls ((r.map (mm_v ρ σ)).toList ++ rest))) : W p l e R s m args below meth c H locs cells slots Q (F0 m pc ls st0) := by
  intro T hT X
  obtain ⟨v, st₀, t, T', L, h0, X', hL, e1, e2, ⟨⟨hv, hb⟩, hz, hk⟩, st⟩ := hr T hT X
  cases hv
  rw [h0] at hz hk
  obtain ⟨t2, a1, b1⟩ := kk t T'.heap (locs ++ L) e1.symm (by rw [← e2]; exact X'.warmed.alike) hb (by rw [e1]; exact hz) (fun q h1 h2 => by rw [e1]; exact hk q h1 h2)
    ⟨Nat.le_trans hS.1 (by rw [e1]; exact hz), fun q h1 h2 => by rw [e1, hk q (Nat.lt_of_lt_of_le h1 hS.1) (fun z => h2 (hA q (Nat.lt_of_lt_of_le h1 hS.1) z))]; exact hS.2.1 q h1 h2, fun q hq => by
      rcases List.mem_append.mp hq with h | h
      · exact hS.2.2 q h
      · exact hf _ (hL q h)⟩ T' rfl X'
  exact ⟨t2, st t2 a1, b1⟩
theorem mm_blind {as : List Value} {μ : mm_U} {sz : Nat} : FrameBlind (mm_Pc D cA N sh ρ σ as μ sz) := by
  intro a U g mk q
  obtain ⟨q0, q1, qP, qK, qD, qZ⟩ := q
  exact ⟨q0, q1, qP, va_K.moved (u := U) (U := U.calling g mk a) (Vm.Alike.refl U.vm) qK, qD, mm_Z.moved (u := U) (U := U.calling g mk a) (State.WarmedH.refl U) qZ⟩
theorem mm_wA {μ : mm_U} {H0 H : Heap} {locs : List Loc} (hD : va_D A (mm_w N ρ cA sh μ)) (hS : va_S A H0 H locs) (hA : ∀ q, H0.size ≤ q → A q) : ∀ q, va_A (mm_w N ρ cA sh μ) H.size q → A q := by
  intro q h
  rcases h with ⟨k, e, h⟩ | h
  · exact hD.2 k (q, e) h
  · exact hA q (Nat.le_trans hS.1 h)
theorem mm_pre {as : List Value} {μ : mm_U} {H : Heap} {locs : List Loc} (hK : va_K D vwCl (mm_ty cA) s) (hZ : mm_Z σ A s s.heap) (hA : ∀ q, s.heap.size ≤ q → A q) (WS : mm_WS D cA N sh ρ A s.heap μ H locs) : ∀ U : State, U.heap = H → s.WarmedH U.vm → mm_Pc D cA N sh ρ σ as μ H.size (as.map (mm_v ρ σ)).toArray U := by
  intro U hU hW
  obtain ⟨hP, hD, hS⟩ := WS
  refine ⟨rfl, by rw [hU], by rw [hU]; exact hP, va_K.moved hW.alike hK, hD.weaken (fun _ _ _ _ => trivial), ?_⟩
  rw [hU]
  exact mm_Z.moved hW (mm_Z.kept hZ hS.1 hS.2.1 (mm_wA hD hS hA))
theorem mm_map_rc {r : Option Value} {rest : List Value} : (mm_rc r rest).map (mm_v ρ σ) = (r.map (mm_v ρ σ)).toList ++ rest.map (mm_v ρ σ) := by
  cases r <;> rfl
theorem mm_cls {k : Nat} {i : Instr} {y : mm_Y} {pc : Nat} {ls st : List Value} {μ : mm_U} {q : (Option Value × mm_U) ⊕ (mm_Y × List Value × Nat × List Value × List Value)} (hi : mm_ins sh i k y pc ls st μ = some (.inr q)) : (∃ idx, i = .invokevirtual idx) ∨ (∃ idx, i = .invokestatic idx) ∨ i = .ireturn ∨ i = .return_ := by
  cases i with
  | invokevirtual idx => exact Or.inl ⟨_, rfl⟩
  | invokestatic idx => exact Or.inr (Or.inl ⟨_, rfl⟩)
  | ireturn => exact Or.inr (Or.inr (Or.inl rfl))
  | return_ => exact Or.inr (Or.inr (Or.inr rfl))
  | _ =>
    exfalso
    unfold mm_ins at hi
    first
    | (cases hi; done)
    | (simp only [mm_go, mm_bin, mm_binL, mm_ld, mm_ldr, mm_str, mm_strr, mm_inc] at hi
       (repeat' split at hi) <;> cases hi)
theorem mm_prim {y : mm_Y} {pc : Nat} {ls st : List Value} {μ : mm_U} {q : (Option Value × mm_U) ⊕ (mm_Y × List Value × Nat × List Value × List Value)} : ¬ mm_acp sh y pc ls st μ = some (.inr q) ∧ ¬ mm_inp y pc ls st μ = some (.inr q) := by
  refine ⟨fun hi => ?_, fun hi => ?_⟩
  · simp only [mm_acp, mm_go] at hi
    (repeat' split at hi) <;> cases hi
  · simp only [mm_inp, mm_go] at hi
    (repeat' split at hi) <;> cases hi
theorem mm_call {n k : Nat} {i : Instr} {y z : mm_Y} {pc pc' : Nat} {ls ls' st as rest : List Value} {μ μ1 : mm_U} {r : Option Value} {H : Heap} {locs : List Loc} {lsA : Array Slot} (CX : mm_CX D cA σ A y p s m args meth c) (SV : mm_SV N sh) (hS : mm_SS l D cA N sh n) (hd : decode (yc y) pc = .ok (i, k)) (hi : mm_ins sh i k y pc ls st μ = some (.inr (.inr (z, as, pc', ls', rest)))) (hex : mm_ex sh n z 0 as [] μ = some (r, μ1)) (LR : mm_LR ρ σ (yl y) lsA ls) (WS : mm_WS D cA N sh ρ A s.heap μ H locs)
    (kk : ∀ H1 locs1, mm_LR ρ σ (yl y) lsA ls' → mm_WS D cA N sh ρ A s.heap μ1 H1 locs1 → W p l e (mm_rm (yr y)) s m args below meth c H1 locs1 0 0 Q (F0 m pc' lsA ((mm_rc r rest).map (mm_v ρ σ)))) :
    W p l e (mm_rm (yr y)) s m args below meth c H locs 0 0 Q (F0 m pc lsA (st.map (mm_v ρ σ))) := by
  obtain ⟨hx, hb, hr, hml, hts, hown, hlocks, hK, hA, hZ⟩ := id CX
  obtain ⟨hP, hD, hSS⟩ := id WS
  have hB := mm_wA hD hSS hA
  cases i with
  | invokevirtual idx =>
    unfold mm_ins at hi
    dsimp only at hi
    split at hi
    · rename_i z' hk
      obtain ⟨rfl, h⟩ := mm_if hi
      obtain ⟨hyk, hlk, hif⟩ := mm_okM hk
      rw [if_pos rfl] at hif
      obtain ⟨hin, hse, ⟨q, hq, hqc⟩, hpd⟩ := hif
      unfold mm_cv at h
      split at h
      · rename_i a as2 hst
        obtain ⟨⟨h1, h2, h3, h4, h5, h6⟩, h⟩ := mm_if h
        cases h
        obtain ⟨haN, fs, hsh⟩ := mm_oc_in SV h2
        have hw := mm_w_at (ρ := ρ) (cA := cA) (sh := sh) (μ := μ) haN
        rw [hsh] at hw
        have est : st = as2.reverse ++ .ref a :: st.drop (yn z) := by
          have e1 : st.take (yn z) = (Value.ref a :: as2).reverse := by rw [← hst, List.reverse_reverse]
          have e2 := List.take_append_drop (yn z) st
          rw [e1, List.reverse_cons, List.append_assoc] at e2
          exact e2.symm
        have hM := mm_met (l := l) (D := D) (cA := cA) (N := N) (sh := sh) (ρ := ρ) (σ := σ) (sz := H.size) hS hyk hex (by simp [h3, mm_ir]) (by simp; omega)
        have hn2 : (parseMethodDescriptor (yy z).desc).map (fun d => d.parameters.length) = some (yn z - 1) := by
          cases hpp : parseMethodDescriptor (yy z).desc with
          | none => rw [hpp] at hpd; cases hpd
          | some d =>
            rw [hpp] at hpd
            have : d.parameters.length + 1 = yn z := Option.some.inj hpd
            show some d.parameters.length = some (yn z - 1)
            rw [← this]
            rfl
        have cw : CallB (mm_rm (yr y)) s args (mm_cn (yo y)) idx (yy z) (yc z) (yl z) (yt z) (mm_ws z) (mm_rm (yr z)) 0 0 (yn z - 1) := callB_of (yn z - 1) hts (mm_gin hyk.1) rfl rfl rfl (hts _ hyk.2.1) (hts _ hlk) ⟨hyk.2.2.2.2.1, hyk.2.2.2.2.2.1, hn2⟩ ⟨h5, by have := hyk.2.2.2.2.2.2.1; show 8 + (yl z + 11) + 32 * yr z ≤ 32 * yr y; omega⟩
        have estm : st.map (mm_v ρ σ) = (as2.map (mm_v ρ σ)).reverse ++ .ref (ρ a) :: (st.drop (yn z)).map (mm_v ρ σ) := by
          have e3 := congrArg (List.map (mm_v ρ σ)) est
          rw [List.map_append, List.map_reverse] at e3
          exact e3
        refine mm_after (va_runV (C := (yy z).cls) (b := ρ a) (As := as2.map (mm_v ρ σ)) (rest := (st.drop (yn z)).map (mm_v ρ σ)) ⟨hx, hb, hml, hown, hts⟩ hM ⟨cw, hts _ hin, hts _ hse⟩ ⟨mm_blind, by rw [← hqc]; exact va_recv hK hP hq hw, mm_pre (as := .ref a :: as2) hK hZ hA WS⟩ rfl (by rw [List.length_map]; omega) LR.1 estm (lv_room (mm_ok_sum h4)) hd ⟨Nat.le_refl _, Nat.le_refl _⟩) hSS (fun q _ h => hB q h) hB (fun t H1 locs1 ht hvm hBB hz1 hk1 hS1 => ?_)
        obtain ⟨hP1, hK1, hD1⟩ := hBB
        rw [ht] at hP1
        have := kk H1 locs1 LR ⟨hP1, hD1.weaken (fun k q _ h => hB q.1 h), hS1⟩
        rw [mm_map_rc] at this
        exact this
      · cases h
    · cases hi
  | invokestatic idx =>
    unfold mm_ins at hi
    dsimp only at hi
    split at hi
    · rename_i z' hk
      obtain ⟨rfl, h⟩ := mm_if hi
      obtain ⟨hyk, hlk, hif⟩ := mm_okM hk
      rw [if_neg (by decide)] at hif
      obtain ⟨hst, hpd⟩ := hif
      unfold mm_cs at h
      obtain ⟨⟨h1, h3, h4, h5, h6⟩, h⟩ := mm_if h
      cases h
      have est : st = (st.take (yn z)).reverse.reverse ++ st.drop (yn z) := by
        rw [List.reverse_reverse]
        exact (List.take_append_drop (yn z) st).symm
      generalize (st.take (yn z)).reverse = as2 at h1 h3 hex est
      have hM := mm_met (l := l) (D := D) (cA := cA) (N := N) (sh := sh) (ρ := ρ) (σ := σ) (sz := H.size) hS hyk hex h3 (by omega)
      have cw : CallB (mm_rm (yr y)) s args (mm_cn (yo y)) idx (yy z) (yc z) (yl z) (yt z) (mm_ws z) (mm_rm (yr z)) 0 0 (yn z) := callB_of (yn z) hts (mm_gin hyk.1) rfl rfl rfl (hts _ hyk.2.1) (hts _ hlk) ⟨hyk.2.2.2.2.1, hyk.2.2.2.2.2.1, hpd⟩ ⟨h5, by have := hyk.2.2.2.2.2.2.1; show 8 + (yl z + 11) + 32 * yr z ≤ 32 * yr y; omega⟩
      have estm : st.map (mm_v ρ σ) = (as2.map (mm_v ρ σ)).reverse ++ (st.drop (yn z)).map (mm_v ρ σ) := by
        rw [← List.map_reverse, ← List.map_append, ← est]
      refine mm_after (va_runS (As := as2.map (mm_v ρ σ)) (rest := (st.drop (yn z)).map (mm_v ρ σ)) ⟨hx, hb, hml, hown, hts⟩ hM ⟨cw, hts _ hst⟩ ⟨mm_blind, mm_pre hK hZ hA WS⟩ rfl (by rw [List.length_map]; omega) LR.1 estm (lv_room (mm_ok_sum h4)) hd ⟨Nat.le_refl _, Nat.le_refl _⟩) hSS (fun q _ h => hB q h) hB (fun t H1 locs1 ht hvm hBB hz1 hk1 hS1 => ?_)
      obtain ⟨hP1, hK1, hD1⟩ := hBB
      rw [ht] at hP1
      have := kk H1 locs1 LR ⟨hP1, hD1.weaken (fun k q _ h => hB q.1 h), hS1⟩
      rw [mm_map_rc] at this
      exact this
    · cases hi
    · split at hi
      · exact absurd (mm_if hi).2 mm_prim.1
      · exact absurd (mm_if hi).2 (mm_prim (sh := sh)).2
      · cases hi
  | _ =>
    rcases mm_cls hi with ⟨_, h⟩ | ⟨_, h⟩ | h | h <;> first | (cases h; done) | (cases h; unfold mm_ins at hi; dsimp only at hi; (repeat' split at hi) <;> cases hi)
theorem mm_ret {k : Nat} {i : Instr} {y : mm_Y} {pc : Nat} {ls st : List Value} {μ μ1 : mm_U} {r : Option Value} {H : Heap} {locs : List Loc} {lsA : Array Slot} (CX : mm_CX D cA σ A y p s m args meth c) (hd : decode (yc y) pc = .ok (i, k)) (hi : mm_ins sh i k y pc ls st μ = some (.inr (.inl (r, μ1)))) (WS : mm_WS D cA N sh ρ A s.heap μ H locs) :
    W p l e (mm_rm (yr y)) s m args below meth c H locs 0 0 (MQ below (mm_Q D cA N sh ρ σ A r μ1) args s 0 0 A) (F0 m pc lsA (st.map (mm_v ρ σ))) := by
  obtain ⟨hx, hb, hr, hml, hts, hown, hlocks, hK, hA, hZ⟩ := id CX
  obtain ⟨hP, hD, hS⟩ := id WS
  rcases mm_cls hi with ⟨idx, h⟩ | ⟨idx, h⟩ | h | h
  · subst h
    unfold mm_ins at hi
    dsimp only at hi
    split at hi
    · have h := (mm_if hi).2
      unfold mm_cv at h
      split at h
      · cases (mm_if h).2
      · cases h
    · cases hi
  · subst h
    unfold mm_ins at hi
    dsimp only at hi
    split at hi
    · have h := (mm_if hi).2
      unfold mm_cs at h
      cases (mm_if h).2
    · cases hi
    · split at hi
      · exact absurd (mm_if hi).2 mm_prim.1
      · exact absurd (mm_if hi).2 (mm_prim (sh := sh)).2
      · cases hi
  · subst h
    unfold mm_ins at hi
    dsimp only at hi
    split at hi
    · rename_i v ht
      obtain ⟨rfl, h⟩ := mm_if hi
      cases h
      rw [ht] at hr
      exact W.iret hx hb hr (fun t h1 hW => ⟨⟨rfl, by rw [h1]; exact hP, va_K.moved hW.alike hK, hD⟩, hS.F h1⟩) hS.2.2 hd
    · rename_i v ht
      obtain ⟨⟨rfl, hv⟩, h⟩ := mm_if hi
      cases h
      rw [ht] at hr
      exact W.zret hx hb hr (by rcases hv with rfl | rfl <;> decide) (fun t h1 hW => ⟨⟨rfl, by rw [h1]; exact hP, va_K.moved hW.alike hK, hD⟩, hS.F h1⟩) hS.2.2 hd
    · cases hi
  · subst h
    unfold mm_ins at hi
    dsimp only at hi
    split at hi
    · rename_i ht
      obtain ⟨rfl, h⟩ := mm_if hi
      cases h
      rw [ht] at hr
      exact W.vret hx hb hr (fun t h1 hW => ⟨⟨rfl, by rw [h1]; exact hP, va_K.moved hW.alike hK, hD⟩, hS.F h1⟩) hS.2.2 hd
    · cases hi
theorem mm_sound (SV : mm_SV N sh) : ∀ n, mm_SS l D cA N sh n := by
  intro n
  induction n with
  | zero => intro y pc ls st μ r μ' h; cases h
  | succ n ih =>
    intro y pc ls st μ r μ' h hy ρ σ A p e s m args below meth c H locs lsA CX LR WS
    rw [mm_ex_s] at h
    unfold mm_stp at h
    cases hd : decode (yc y) pc with
    | error x => rw [hd] at h; cases h
    | ok q =>
      obtain ⟨i, k⟩ := q
      rw [hd] at h
      dsimp only at h
      cases hi : mm_ins sh i k y pc ls st μ with
      | none => rw [hi] at h; cases h
      | some q =>
        rw [hi] at h
        rcases q with ⟨pc', ls', st', μ1⟩ | ⟨r1, μ1⟩ | ⟨z, as, pc', ls', rest⟩
        · exact mm_one CX SV rfl hd hi LR WS (fun lsA' H' locs' LR' WS' => ih y pc' ls' st' μ1 r μ' h hy ρ σ A p e s m args below meth c H' locs' lsA' CX LR' WS')
        · cases h
          exact mm_ret CX hd hi WS
        · dsimp only at h
          cases h1 : mm_ex sh n z 0 as [] μ with
          | none => rw [h1] at h; cases h
          | some q =>
            obtain ⟨r1, μ1⟩ := q
            rw [h1] at h
            exact mm_call CX SV ih hd hi h1 LR WS (fun H1 locs1 LR' WS' => ih y pc' ls' _ μ1 r μ' h hy ρ σ A p e s m args below meth c H1 locs1 lsA CX LR' WS')
/-- a method's contract out of a run of the small machine -/
theorem mm_meets (SV : mm_SV N sh) {sz : Nat} {z : mm_Y} {as : List Value} {μ μ' : mm_U} {r : Option Value} (hz : mm_YK z) (hex : ∃ n, mm_ex sh n z 0 (mm_pd (yl z) as) [] μ = some (r, μ')) (hir : as.all mm_ir = true) (hn : as.length ≤ yl z) :
    Met l (yy z) (mm_ws z) (mm_rm (yr z)) (mm_Pc D cA N sh ρ σ as μ sz) (mm_Q D cA N sh ρ σ (va_A (mm_w N ρ cA sh μ) sz) r μ') 0 0 (va_A (mm_w N ρ cA sh μ) sz) := by
  obtain ⟨n, hex⟩ := hex
  exact mm_met (mm_sound SV n) hz hex hir hn
end SND
