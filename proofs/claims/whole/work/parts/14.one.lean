section ONE
variable {p : Program} {l : Launch} {e : Env} {R : Room} {s : State} {m : MethodId} {args : Array Value} {below : List Frame} {meth : Method} {c : Code} {Q : State → Prop}
variable {D : va_G} {cA : Nat → ClassId} {ρ σ : Nat → Nat} {A : Nat → Prop} {N : Nat} {sh : mm_Sh}
theorem mm_get_sound {y : mm_Y} {pc idx ci k a : Nat} {μ : mm_U} {v : Value} {H : Heap} {locs : List Loc} {lsA : Array Slot} {rest : List Value} (CX : mm_CX D cA σ A y p s m args meth c) (SV : mm_SV N sh) (WS : mm_WS D cA N sh ρ A s.heap μ H locs) (hk : mm_lk (mm_F (yo y)) idx = some (ci, k)) (hv : mm_gf sh μ a ci k = some v) (hd : decode (yc y) pc = .ok (.getfield idx, 3))
    (kk : W p l e R s m args below meth c H locs 0 0 Q (F0 m (pc + 3) lsA (mm_v ρ σ v :: rest))) : W p l e R s m args below meth c H locs 0 0 Q (F0 m pc lsA (.ref (ρ a) :: rest)) := by
  obtain ⟨hx, hb, hr, hml, hts, hown, hlocks, hK, hA, hZ⟩ := CX
  obtain ⟨hP, hD, hS⟩ := WS
  unfold mm_gf at hv
  obtain ⟨hoc, hv⟩ := mm_if hv
  obtain ⟨haN, fs, hsh⟩ := mm_oc_in SV hoc
  obtain ⟨q, hq, hkq, hl⟩ := mm_okF hk
  dsimp only at hq hkq hl
  have hw := mm_w_at (ρ := ρ) (cA := cA) (sh := sh) (μ := μ) haN
  rw [hsh] at hw
  have hfd : mm_fd sh a k = fs[k]? := by unfold mm_fd; rw [hsh]
  rw [hfd] at hv
  cases hf : fs[k]? with
  | none => rw [hf] at hv; cases hv
  | some d =>
    rw [hf] at hv
    have hv : mm_fv0 μ a k d = some v := hv
    refine va_get (D := D) (ci := ci) (v := mm_v ρ σ v) (C := q.1) (T := q.2.1) (N := q.2.2) hx hb hts (mm_cf hq).1 hown hK hP a hw hq k hkq (hts _ hl) (fun _ h9 => h9) ?_ hd kk
    rw [List.getElem?_mapIdx, hf]
    unfold mm_fv0 at hv
    cases d with
    | none => cases hv; rfl
    | some d =>
      cases d with
      | inl t => cases hv; rfl
      | inr d =>
        cases d with
        | none => cases hv; rfl
        | some w => cases hv
theorem mm_put_sound {y : mm_Y} {pc idx ci k a : Nat} {μ μ' : mm_U} {v : Value} {H : Heap} {locs : List Loc} {lsA : Array Slot} {rest : List Value} (CX : mm_CX D cA σ A y p s m args meth c) (SV : mm_SV N sh) (WS : mm_WS D cA N sh ρ A s.heap μ H locs) (hk : mm_lk (mm_F (yo y)) idx = some (ci, k)) (hv : mm_pf sh μ a ci k v = some μ') (hn : mm_nf ci k = true) (hd : decode (yc y) pc = .ok (.putfield idx, 3))
    (kk : ∀ H' locs', mm_WS D cA N sh ρ A s.heap μ' H' locs' → W p l e R s m args below meth c H' locs' 0 0 Q (F0 m (pc + 3) lsA rest)) : W p l e R s m args below meth c H locs 0 0 Q (F0 m pc lsA (mm_v ρ σ v :: .ref (ρ a) :: rest)) := by
  obtain ⟨hx, hb, hr, hml, hts, hown, hlocks, hK, hA, hZ⟩ := CX
  obtain ⟨hP, hD, hS⟩ := WS
  unfold mm_pf at hv
  obtain ⟨hoc, hv⟩ := mm_if hv
  obtain ⟨haN, fs, hsh⟩ := mm_oc_in SV hoc
  obtain ⟨q, hq, hkq, hl⟩ := mm_okF hk
  dsimp only at hq hkq hl
  have hw := mm_w_at (ρ := ρ) (cA := cA) (sh := sh) (μ := μ) haN
  rw [hsh] at hw
  have hfd : mm_fd sh a k = fs[k]? := by unfold mm_fd; rw [hsh]
  rw [hfd] at hv
  obtain ⟨q', hq', hlen, hfk⟩ := SV.2 a haN ci fs hsh
  cases hq.symm.trans hq'
  obtain ⟨hu, ty, hty, hnm⟩ := mm_cf hq
  have hfin : (q.2.1 k).2.2.2 = false := by
    unfold mm_nf at hn
    rw [hq] at hn
    simpa [hkq] using hn
  have hkl : k < (fs.mapIdx (fun k d => mm_fv ρ (μ a) k d)).length := by rw [List.length_mapIdx, hlen]; exact hkq
  have key : ∀ (x : Int32) (d : mm_D), fs[k]? = some d → (fs.mapIdx (fun j d => mm_fv ρ (μ a) j d)).set k (mm_fv ρ (upd (μ a) k x) k d) = fs.mapIdx (fun j d => mm_fv ρ (upd (μ a) k x) j d) := by
    intro x d hdk
    apply List.ext_getElem?
    intro j
    rw [List.getElem?_set, List.getElem?_mapIdx, List.getElem?_mapIdx]
    by_cases ej : k = j
    · subst ej
      rw [if_pos rfl, if_pos hkl, hdk]
      rfl
    · rw [if_neg ej]
      cases fs[j]? with
      | none => rfl
      | some d2 =>
        have e1 : upd (μ a) k x j = μ a j := by unfold upd; rw [if_neg (fun z => ej z.symm)]
        show some (mm_fv ρ (μ a) j d2) = some (mm_fv ρ (upd (μ a) k x) j d2)
        unfold mm_fv
        rw [e1]
  split at hv
  · rename_i x hf _
    cases hv
    have hd0 := (hfk k none hf).1 rfl
    refine va_put (D := D) (ci := ci) (v := .int x) (ty := .int) (C := q.1) (T := q.2.1) (N := q.2.2) hx hb hts hu ty hty hnm hown hK hP hD hS a hw hq k hkq (hts _ hl) (fun _ h9 => h9) hfin hd0 rfl rfl hkl hd (fun H1 locs1 h1 h2 h3 => kk H1 locs1 ?_)
    have e2 : (mm_w N ρ cA sh μ).set a (ρ a, .inr (ci, (fs.mapIdx (fun k d => mm_fv ρ (μ a) k d)).set k (.int x))) = mm_w N ρ cA sh (mu μ a (upd (μ a) k x)) := by
      rw [← mm_w_set haN, hsh]
      have e3 := key x none hf
      have e4 : mm_fv ρ (upd (μ a) k x) k none = .int x := by unfold mm_fv upd; simp
      rw [e4] at e3
      rw [e3]
      rfl
    rw [e2] at h1 h2
    exact ⟨h1, h2, h3⟩
  · rename_i x hf _
    obtain ⟨hx9, hv⟩ := mm_if hv
    cases hv
    have hd0 := (hfk k _ hf).2 rfl
    refine va_put (D := D) (ci := ci) (v := .long x) (ty := .long) (C := q.1) (T := q.2.1) (N := q.2.2) hx hb hts hu ty hty hnm hown hK hP hD hS a hw hq k hkq (hts _ hl) (fun _ h9 => h9) hfin hd0 rfl rfl hkl hd (fun H1 locs1 h1 h2 h3 => kk H1 locs1 ?_)
    have e2 : (mm_w N ρ cA sh μ).set a (ρ a, .inr (ci, (fs.mapIdx (fun k d => mm_fv ρ (μ a) k d)).set k (.long x))) = mm_w N ρ cA sh (mu μ a (upd (μ a) k x.toInt32)) := by
      rw [← mm_w_set haN, hsh]
      have e3 := key x.toInt32 _ hf
      have e4 : mm_fv ρ (upd (μ a) k x.toInt32) k (some (.inr none)) = .long x := by unfold mm_fv upd; simp [hx9]
      rw [e4] at e3
      rw [e3]
      rfl
    rw [e2] at h1 h2
    exact ⟨h1, h2, h3⟩
  · cases hv
theorem mm_ald_sound {y : mm_Y} {pc a : Nat} {i : Int32} {μ : mm_U} {H : Heap} {locs : List Loc} {lsA : Array Slot} {rest : List Value} (CX : mm_CX D cA σ A y p s m args meth c) (SV : mm_SV N sh) (WS : mm_WS D cA N sh ρ A s.heap μ H locs) (hi : mm_in i (mm_al sh a) = true) (hd : decode (yc y) pc = .ok (.iaload, 1))
    (kk : W p l e R s m args below meth c H locs 0 0 Q (F0 m (pc + 1) lsA (.int (μ a i.toNatClampNeg) :: rest))) : W p l e R s m args below meth c H locs 0 0 Q (F0 m pc lsA (.int i :: .ref (ρ a) :: rest)) := by
  obtain ⟨hx, hb, hr, hml, hts, hown, hlocks, hK, hA, hZ⟩ := CX
  obtain ⟨hP, hD, hS⟩ := WS
  obtain ⟨haN, hsh⟩ := mm_al_in SV (mm_in_pos hi)
  have hw := mm_w_at (ρ := ρ) (cA := cA) (sh := sh) (μ := μ) haN
  rw [hsh] at hw
  exact va_iald hx hb hK hP a 0 hw rfl (mm_in_vp hi) hd kk
theorem mm_ast_sound {y : mm_Y} {pc a : Nat} {i v : Int32} {μ : mm_U} {H : Heap} {locs : List Loc} {lsA : Array Slot} {rest : List Value} (CX : mm_CX D cA σ A y p s m args meth c) (SV : mm_SV N sh) (WS : mm_WS D cA N sh ρ A s.heap μ H locs) (hi : mm_in i (mm_al sh a) = true) (hd : decode (yc y) pc = .ok (.iastore, 1))
    (kk : ∀ H' locs', mm_WS D cA N sh ρ A s.heap (mu μ a (upd (μ a) i.toNatClampNeg v)) H' locs' → W p l e R s m args below meth c H' locs' 0 0 Q (F0 m (pc + 1) lsA rest)) : W p l e R s m args below meth c H locs 0 0 Q (F0 m pc lsA (.int v :: .int i :: .ref (ρ a) :: rest)) := by
  obtain ⟨hx, hb, hr, hml, hts, hown, hlocks, hK, hA, hZ⟩ := CX
  obtain ⟨hP, hD, hS⟩ := WS
  obtain ⟨haN, hsh⟩ := mm_al_in SV (mm_in_pos hi)
  have hw := mm_w_at (ρ := ρ) (cA := cA) (sh := sh) (μ := μ) haN
  rw [hsh] at hw
  refine va_iast hx hb hK hP hD hS a 0 hw rfl (mm_in_vp hi) hd (fun H1 locs1 h1 h2 h3 => kk H1 locs1 ?_)
  have e2 : (mm_w N ρ cA sh μ).set a (ρ a, .inl (cA 0, mm_al sh a, .inl (upd (μ a) i.toNatClampNeg v))) = mm_w N ρ cA sh (mu μ a (upd (μ a) i.toNatClampNeg v)) := by
    rw [← mm_w_set haN, hsh]
    rfl
  rw [e2] at h1 h2
  exact ⟨h1, h2, h3⟩
theorem mm_bld_sound {y : mm_Y} {pc a : Nat} {i : Int32} {μ : mm_U} {H : Heap} {locs : List Loc} {lsA : Array Slot} {rest : List Value} (CX : mm_CX D cA σ A y p s m args meth c) (SV : mm_SV N sh) (WS : mm_WS D cA N sh ρ A s.heap μ H locs) (hi : mm_in i (mm_bl sh a) = true) (hd : decode (yc y) pc = .ok (.baload, 1))
    (kk : W p l e R s m args below meth c H locs 0 0 Q (F0 m (pc + 1) lsA (.int (μ a i.toNatClampNeg) :: rest))) : W p l e R s m args below meth c H locs 0 0 Q (F0 m pc lsA (.int i :: .ref (ρ a) :: rest)) := by
  obtain ⟨hx, hb, hr, hml, hts, hown, hlocks, hK, hA, hZ⟩ := CX
  obtain ⟨hP, hD, hS⟩ := WS
  obtain ⟨haN, hsh⟩ := mm_bl_in SV (mm_in_pos hi)
  have hw := mm_w_at (ρ := ρ) (cA := cA) (sh := sh) (μ := μ) haN
  rw [hsh] at hw
  exact va_zald hx hb hK hP a 1 hw rfl (mm_in_vp hi) hd kk
theorem mm_bst_sound {y : mm_Y} {pc a : Nat} {i v : Int32} {μ : mm_U} {H : Heap} {locs : List Loc} {lsA : Array Slot} {rest : List Value} (CX : mm_CX D cA σ A y p s m args meth c) (SV : mm_SV N sh) (WS : mm_WS D cA N sh ρ A s.heap μ H locs) (hi : mm_in i (mm_bl sh a) = true) (hv : v = 0 ∨ v = 1) (hd : decode (yc y) pc = .ok (.bastore, 1))
    (kk : ∀ H' locs', mm_WS D cA N sh ρ A s.heap (mu μ a (upd (μ a) i.toNatClampNeg v)) H' locs' → W p l e R s m args below meth c H' locs' 0 0 Q (F0 m (pc + 1) lsA rest)) : W p l e R s m args below meth c H locs 0 0 Q (F0 m pc lsA (.int v :: .int i :: .ref (ρ a) :: rest)) := by
  obtain ⟨hx, hb, hr, hml, hts, hown, hlocks, hK, hA, hZ⟩ := CX
  obtain ⟨hP, hD, hS⟩ := WS
  obtain ⟨haN, hsh⟩ := mm_bl_in SV (mm_in_pos hi)
  have hw := mm_w_at (ρ := ρ) (cA := cA) (sh := sh) (μ := μ) haN
  rw [hsh] at hw
  have hnar : vp_nar .boolean v = v := by rcases hv with rfl | rfl <;> decide
  refine va_zast hx hb hK hP hD hS a 1 hw rfl (mm_in_vp hi) hd (fun H1 locs1 h1 h2 h3 => kk H1 locs1 ?_)
  rw [hnar] at h1 h2
  have e2 : (mm_w N ρ cA sh μ).set a (ρ a, .inl (cA 1, mm_bl sh a, .inl (upd (μ a) i.toNatClampNeg v))) = mm_w N ρ cA sh (mu μ a (upd (μ a) i.toNatClampNeg v)) := by
    rw [← mm_w_set haN, hsh]
    rfl
  rw [e2] at h1 h2
  exact ⟨h1, h2, h3⟩
theorem mm_gets_sound {y : mm_Y} {pc idx t : Nat} {μ : mm_U} {H : Heap} {locs : List Loc} {lsA : Array Slot} {rest : List Value} (CX : mm_CX D cA σ A y p s m args meth c) (WS : mm_WS D cA N sh ρ A s.heap μ H locs) (hk : mm_lk (mm_S (yo y)) idx = some t) (hd : decode (yc y) pc = .ok (.getstatic idx, 3))
    (kk : W p l e R s m args below meth c H locs 0 0 Q (F0 m (pc + 3) lsA (.ref (σ t) :: rest))) : W p l e R s m args below meth c H locs 0 0 Q (F0 m pc lsA rest) := by
  obtain ⟨hx, hb, hr, hml, hts, hown, hlocks, hK, hA, hZ⟩ := CX
  obtain ⟨hP, hD, hS⟩ := WS
  obtain ⟨ho, h⟩ := mm_okS2 hk
  rw [ho] at hown
  rcases h with ⟨rfl, rfl⟩ | ⟨rfl, rfl⟩
  · exact va_getsN hx hb (hZ.2 0 (by decide)).1 hS hown (va_Nw.use rfl hZ.1.1) (fun _ h9 => h9) hd kk
  · exact va_getsN hx hb (hZ.2 1 (by decide)).1 hS hown (va_Nw.use rfl hZ.1.2) (fun _ h9 => h9) hd kk
theorem mm_sld_sound {y : mm_Y} {pc t : Nat} {i : Int32} {μ : mm_U} {H : Heap} {locs : List Loc} {lsA : Array Slot} {rest : List Value} (CX : mm_CX D cA σ A y p s m args meth c) (WS : mm_WS D cA N sh ρ A s.heap μ H locs) (ht : t < 2) (hi : mm_in i 6 = true) (hd : decode (yc y) pc = .ok (.iaload, 1))
    (kk : W p l e R s m args below meth c H locs 0 0 Q (F0 m (pc + 1) lsA (.int (mm_to t i.toNatClampNeg) :: rest))) : W p l e R s m args below meth c H locs 0 0 Q (F0 m pc lsA (.int i :: .ref (σ t) :: rest)) := by
  obtain ⟨hx, hb, hr, hml, hts, hown, hlocks, hK, hA, hZ⟩ := CX
  obtain ⟨hP, hD, hS⟩ := WS
  obtain ⟨-, h2, h3, h4⟩ := hZ.2 t ht
  exact va_sld hx hb h2 h3 h4 hS (mm_in_vp hi) hd kk
theorem mm_acp_sound {y : mm_Y} {pc idx a a0 : Nat} {n sp dp : Int32} {μ : mm_U} {H : Heap} {locs : List Loc} {lsA : Array Slot} (CX : mm_CX D cA σ A y p s m args meth c) (SV : mm_SV N sh) (WS : mm_WS D cA N sh ρ A s.heap μ H locs) (hR : R = mm_rm (yr y)) (hls : lsA.size = yl y) (hk : mm_lk (mm_P (yo y)) idx = some 0) (h1 : ¬ sp < 0) (h2 : ¬ dp < 0) (h3 : ¬ n < 0) (h4 : sp.toNatClampNeg + n.toNatClampNeg ≤ mm_al sh a0) (h5 : dp.toNatClampNeg + n.toNatClampNeg ≤ mm_al sh a) (hr0 : 0 < yr y) (hn0 : 0 < n.toNatClampNeg) (hd : decode (yc y) pc = .ok (.invokestatic idx, 3))
    (kk : ∀ H' locs', mm_WS D cA N sh ρ A s.heap (mu μ a (va_cpy (μ a0) (μ a) sp.toNatClampNeg dp.toNatClampNeg n.toNatClampNeg)) H' locs' → W p l e R s m args below meth c H' locs' 0 0 Q (F0 m (pc + 3) lsA [])) : W p l e R s m args below meth c H locs 0 0 Q (F0 m pc lsA [.int n, .int dp, .ref (ρ a), .int sp, .ref (ρ a0)]) := by
  obtain ⟨hx, hb, hr, hml, hts, hown, hlocks, hK, hA, hZ⟩ := CX
  obtain ⟨hP, hD, hS⟩ := WS
  subst hR
  obtain ⟨haN0, hsh0⟩ := mm_al_in SV (a := a0) (by omega)
  obtain ⟨haN, hsh⟩ := mm_al_in SV (a := a) (by omega)
  have hw0 := mm_w_at (ρ := ρ) (cA := cA) (sh := sh) (μ := μ) haN0
  have hw := mm_w_at (ρ := ρ) (cA := cA) (sh := sh) (μ := μ) haN
  rw [hsh0] at hw0
  rw [hsh] at hw
  have e9 : nativeFrameWords "java/lang/System" "arraycopy" 5 = 7 := by decide +kernel
  have hlo : (([] : List Value).map fun v => v.category).sum + (nativeFrameWords "java/lang/System" "arraycopy" 5 + 11) ≤ (mm_rm (yr y)).locals := by
    rw [e9]
    show 0 + (7 + 11) ≤ 32 * yr y
    omega
  refine va_copyi (R := mm_rm (yr y)) (rest := []) (ty := .int) hx hb (by rw [hml, hls]) hown (hts _ (mm_okP hk)) (hts _ mm_ac1) (hts _ mm_ac2) (hts _ mm_ac3) hK hP hD hS a0 a 0 0 hw0 hw rfl rfl rfl h1 h2 h3 h4 h5 (fun i _ => rfl) hr0 hlo hd (fun H1 locs1 k1 k2 k3 => kk H1 locs1 ?_)
  have e2 : (mm_w N ρ cA sh μ).set a (ρ a, .inl (cA 0, mm_al sh a, .inl (va_cpy (μ a0) (μ a) sp.toNatClampNeg dp.toNatClampNeg n.toNatClampNeg))) = mm_w N ρ cA sh (mu μ a (va_cpy (μ a0) (μ a) sp.toNatClampNeg dp.toNatClampNeg n.toNatClampNeg)) := by
    rw [← mm_w_set haN, hsh]
    rfl
  rw [e2] at k1 k2
  exact ⟨k1, k2, k3⟩
theorem mm_ok_sum {st : List Value} (h : mm_ok st = true) : ((st.map (mm_v ρ σ)).map fun v => v.category).sum ≤ 8 := by
  have c2 : ∀ v : Value, v.category ≤ 2 := fun v => by rcases lv_cat v with q | q <;> omega
  match st, h with
  | [], _ => simp
  | [a], _ => have := c2 (mm_v ρ σ a); simp; omega
  | [a, b], _ => have := c2 (mm_v ρ σ a); have := c2 (mm_v ρ σ b); simp; omega
  | [a, b, c], _ => have := c2 (mm_v ρ σ a); have := c2 (mm_v ρ σ b); have := c2 (mm_v ρ σ c); simp; omega
  | [a, b, c, d], _ => have := c2 (mm_v ρ σ a); have := c2 (mm_v ρ σ b); have := c2 (mm_v ρ σ c); have := c2 (mm_v ρ σ d); simp; omega
theorem mm_gin {w : Cond} (h : w ∈ mm_tb) : GoodIn mm_tb (w :: mm_tb) := fun x hx => by
  rcases List.mem_cons.mp hx with rfl | hx
  · exact ⟨h, good_of_word (List.mem_filter.mp h).2⟩
  · exact ⟨hx, good_of_word (List.mem_filter.mp hx).2⟩
set_option maxHeartbeats 4000000 in
set_option maxRecDepth 100000 in
/-- Model.in(v, low, high) -/
theorem c_in (l : Launch) (v lo hi : Int64) : Met l yX6_in (Cond.code yX6_in cX6_in 6 (some .boolean) :: mm_tb) (mm_rm 0) (va_Pc [.long v, .long lo, .long hi] (fun _ => True)) (va_Qi (fun r (_ : Unit) => r = mm_isin v lo hi) (fun _ _ => True) (fun _ => False)) 0 0 (fun _ => False) := by
  refine Met.ofW (cc := cX6_in) (maxL := 6) (ret := some .boolean) (by decide +kernel) rfl ?_
  intro p e s m args below meth c s₁ B hml hv
  obtain ⟨rfl, -⟩ := hv
  have hx := B.exec
  have hb := B.bytes
  have hr := B.returns
  have hlocks := B.notSynchronized
  have hl := lv_entry ([.long v, .long lo, .long hi]) (n := 6) (Nat.le_of_ble_eq_true rfl)
  rw [lg_entry_eq]
  generalize (lg_sl ([.long v, .long lo, .long hi]) ++ List.replicate (6 - (lg_sl ([.long v, .long lo, .long hi])).length) Slot.unset).toArray = ls at hl ⊢
  have hl : lv_has ls 6 [(0, .long v), (2, .long lo), (4, .long hi)] := hl
  refine lv_lload_n hx hb dX6_in_0 rfl (lv_at hl 0 rfl) ?_
  refine lv_lload_n hx hb dX6_in_1 rfl (lv_at hl 1 rfl) ?_
  refine W.lcmp hx hb dX6_in_2 ?_
  refine lv_if_lt (tgt := 17) hx hb dX6_in_3 (by decide) (fun c1 => ?_) (fun c1 => ?_)
  · have hlt : ¬ lo ≤ v := by
      intro q
      unfold lg_cmp at c1
      by_cases h1 : lo < v
      · simp [h1] at c1
      · have h2 : v = lo := by
          apply Int64.toInt_inj.mp
          have a1 := Int64.le_iff_toInt_le.mp q
          have a2 : ¬ lo.toInt < v.toInt := fun z => h1 (Int64.lt_iff_toInt_lt.mpr z)
          omega
        simp [h2] at c1
    refine lv_iconst (v := 0) hx hb dX6_in_17 (by decide) ?_
    exact W.zret hx hb hr (by decide) (fun t ht hW => ⟨⟨0, (), rfl, by unfold mm_isin; rw [if_neg (fun q => hlt q.1)], trivial⟩, by rw [ht]; exact Nat.le_refl _, fun q _ _ => by rw [ht]⟩) (fun q h => absurd h List.not_mem_nil) dX6_in_18
  · have hle : lo ≤ v := by
      apply Int64.le_iff_toInt_le.mpr
      unfold lg_cmp at c1
      by_cases h1 : lo < v
      · exact Int.le_of_lt (Int64.lt_iff_toInt_lt.mp h1)
      · by_cases h2 : v = lo
        · rw [h2]; exact Int.le_refl _
        · exfalso
          apply c1
          simp [h1, h2]
    refine lv_lload_n hx hb dX6_in_6 rfl (lv_at hl 0 rfl) ?_
    refine lv_lload hx hb dX6_in_7 (lv_at hl 2 rfl) ?_
    refine W.lcmp hx hb dX6_in_9 ?_
    refine lv_if_gt (tgt := 17) hx hb dX6_in_10 (by decide) (fun c2 => ?_) (fun c2 => ?_)
    · have hlt : ¬ v ≤ hi := by
        intro q
        unfold lg_cmp at c2
        have h1 : ¬ hi < v := fun z => by
          have a1 := Int64.le_iff_toInt_le.mp q
          have a2 := Int64.lt_iff_toInt_lt.mp z
          omega
        by_cases h2 : v = hi
        · simp [h2] at c2
        · simp [h1, h2] at c2
      refine lv_iconst (v := 0) hx hb dX6_in_17 (by decide) ?_
      exact W.zret hx hb hr (by decide) (fun t ht hW => ⟨⟨0, (), rfl, by unfold mm_isin; rw [if_neg (fun q => hlt q.2)], trivial⟩, by rw [ht]; exact Nat.le_refl _, fun q _ _ => by rw [ht]⟩) (fun q h => absurd h List.not_mem_nil) dX6_in_18
    · have hle2 : v ≤ hi := by
        apply Int64.le_iff_toInt_le.mpr
        unfold lg_cmp at c2
        by_cases h1 : hi < v
        · exfalso
          apply c2
          simp [h1]
        · have a2 : ¬ hi.toInt < v.toInt := fun z => h1 (Int64.lt_iff_toInt_lt.mpr z)
          omega
      refine lv_iconst (v := 1) hx hb dX6_in_13 (by decide) ?_
      refine lv_goto (tgt := 18) hx hb dX6_in_14 (by decide) ?_
      exact W.zret hx hb hr (by decide) (fun t ht hW => ⟨⟨1, (), rfl, by unfold mm_isin; rw [if_pos ⟨hle, hle2⟩], trivial⟩, by rw [ht]; exact Nat.le_refl _, fun q _ _ => by rw [ht]⟩) (fun q h => absurd h List.not_mem_nil) dX6_in_18
theorem mm_inp_sound {y : mm_Y} {pc idx : Nat} {v lo hi : Int64} {μ : mm_U} {H : Heap} {locs : List Loc} {lsA : Array Slot} {r : List Value} (CX : mm_CX D cA σ A y p s m args meth c) (WS : mm_WS D cA N sh ρ A s.heap μ H locs) (hR : R = mm_rm (yr y)) (hls : lsA.size = yl y) (hk : mm_lk (mm_P (yo y)) idx = some 1) (hok : mm_ok r = true) (hr0 : 0 < yr y) (hd : decode (yc y) pc = .ok (.invokestatic idx, 3))
    (kk : ∀ H' locs', mm_WS D cA N sh ρ A s.heap μ H' locs' → W p l e R s m args below meth c H' locs' 0 0 Q (F0 m (pc + 3) lsA (.int (mm_isin v lo hi) :: r.map (mm_v ρ σ)))) : W p l e R s m args below meth c H locs 0 0 Q (F0 m pc lsA (.long hi :: .long lo :: .long v :: r.map (mm_v ρ σ))) := by
  obtain ⟨hx, hb, hr, hml, hts, hown, hlocks, hK, hA, hZ⟩ := CX
  obtain ⟨hP, hD, hS⟩ := WS
  subst hR
  obtain ⟨ho, hl⟩ := mm_okI hk
  have cw : CallB (mm_rm (yr y)) s args (mm_cn (yo y)) idx yX6_in cX6_in 6 (some .boolean) (Cond.code yX6_in cX6_in 6 (some .boolean) :: mm_tb) (mm_rm 0) 0 0 3 := callB_of 3 hts (mm_gin mm_in2) rfl rfl rfl (hts _ mm_in3) (hts _ hl) (by decide +kernel) ⟨hr0, by show 8 + (6 + 11) + 32 * 0 ≤ 32 * yr y; omega⟩
  refine va_calli (va_runS (As := [.long v, .long lo, .long hi]) (rest := r.map (mm_v ρ σ)) ⟨hx, hb, hml, hown, hts⟩ (c_in l v lo hi) ⟨cw, hts _ mm_in1⟩ ⟨fun a U g mk q => q, fun U _ _ => ⟨rfl, trivial⟩⟩ rfl rfl hls rfl (lv_room (mm_ok_sum hok)) hd ⟨Nat.le_refl _, Nat.le_refl _⟩) hS (fun q _ h => h.elim) (fun q h => h.elim) (fun r1 u t H1 locs1 ht hvm hw hB hz1 hk1 hS1 => ?_)
  have hw : r1 = mm_isin v lo hi := hw
  subst hw
  exact kk H1 locs1 ⟨hP.kept (fun k q hq => hk1 q.1 (hP k q hq).lt (fun z => z)), hD, hS1⟩
theorem mm_one {y : mm_Y} {pc pc' n : Nat} {i : Instr} {ls ls' st st' : List Value} {μ μ' : mm_U} {H : Heap} {locs : List Loc} {lsA : Array Slot} (CX : mm_CX D cA σ A y p s m args meth c) (SV : mm_SV N sh) (hR : R = mm_rm (yr y)) (hd : decode (yc y) pc = .ok (i, n)) (hi : mm_ins sh i n y pc ls st μ = some (.inl (pc', ls', st', μ'))) (LR : mm_LR ρ σ (yl y) lsA ls) (WS : mm_WS D cA N sh ρ A s.heap μ H locs)
    (kk : ∀ lsA' H' locs', mm_LR ρ σ (yl y) lsA' ls' → mm_WS D cA N sh ρ A s.heap μ' H' locs' → W p l e R s m args below meth c H' locs' 0 0 Q (F0 m pc' lsA' (st'.map (mm_v ρ σ)))) :
    W p l e R s m args below meth c H locs 0 0 Q (F0 m pc lsA (st.map (mm_v ρ σ))) := by
  have hx := CX.1
  have hb := CX.2.1
  have hts := CX.2.2.2.2.1
  have hown := CX.2.2.2.2.2.1
  cases i with
  | iconst k =>
    obtain ⟨rfl, h⟩ := mm_if hi
    obtain ⟨rfl, rfl, rfl, rfl⟩ := mm_go_inv h
    exact lv_iconst hx hb hd rfl (kk _ _ _ LR WS)
  | bipush k =>
    obtain ⟨rfl, h⟩ := mm_if hi
    obtain ⟨rfl, rfl, rfl, rfl⟩ := mm_go_inv h
    exact lv_bipush hx hb hd rfl (kk _ _ _ LR WS)
  | sipush k =>
    obtain ⟨rfl, h⟩ := mm_if hi
    obtain ⟨rfl, rfl, rfl, rfl⟩ := mm_go_inv h
    exact lv_sipush hx hb hd rfl (kk _ _ _ LR WS)
  | lconst k =>
    obtain ⟨rfl, h⟩ := mm_if hi
    obtain ⟨rfl, rfl, rfl, rfl⟩ := mm_go_inv h
    exact lv_lconst hx hb hd rfl (kk _ _ _ LR WS)
  | ldc idx =>
    unfold mm_ins at hi
    dsimp only at hi
    split at hi
    · rename_i v hk
      obtain ⟨rfl, h⟩ := mm_if hi
      obtain ⟨rfl, rfl, rfl, rfl⟩ := mm_go_inv h
      exact lv_ldc hx hb hown (hts _ (mm_okC hk)) hd (kk _ _ _ LR WS)
    · cases hi
  | ldc_w idx =>
    unfold mm_ins at hi
    dsimp only at hi
    split at hi
    · rename_i v hk
      obtain ⟨rfl, h⟩ := mm_if hi
      obtain ⟨rfl, rfl, rfl, rfl⟩ := mm_go_inv h
      exact lv_ldcw hx hb hown (hts _ (mm_okC hk)) hd (kk _ _ _ LR WS)
    · cases hi
  | ldc2_w idx =>
    unfold mm_ins at hi
    dsimp only at hi
    split at hi
    · rename_i v hk
      obtain ⟨rfl, h⟩ := mm_if hi
      obtain ⟨rfl, rfl, rfl, rfl⟩ := mm_go_inv h
      exact lv_ldc2 hx hb hown (hts _ (mm_okL hk)) hd (kk _ _ _ LR WS)
    · cases hi
  | iload_n k =>
    obtain ⟨rfl, h⟩ := mm_if hi
    obtain ⟨x, hl, rfl, rfl, rfl, rfl⟩ := mm_ld_inv h
    exact lv_iload_n hx hb hd rfl (LR.2.2.2 _ _ hl rfl) (kk _ _ _ LR WS)
  | iload k =>
    obtain ⟨rfl, h⟩ := mm_if hi
    obtain ⟨x, hl, rfl, rfl, rfl, rfl⟩ := mm_ld_inv h
    exact lv_iload hx hb hd (LR.2.2.2 _ _ hl rfl) (kk _ _ _ LR WS)
  | aload_n k =>
    obtain ⟨rfl, h⟩ := mm_if hi
    obtain ⟨x, hl, rfl, rfl, rfl, rfl⟩ := mm_ldr_inv h
    exact lv_aload_n hx hb hd rfl (LR.2.2.2 _ _ hl rfl) (kk _ _ _ LR WS)
  | aload k =>
    obtain ⟨rfl, h⟩ := mm_if hi
    obtain ⟨x, hl, rfl, rfl, rfl, rfl⟩ := mm_ldr_inv h
    exact lv_aload hx hb hd (LR.2.2.2 _ _ hl rfl) (kk _ _ _ LR WS)
  | istore_n k =>
    obtain ⟨rfl, h⟩ := mm_if hi
    obtain ⟨x, rfl, hk, rfl, rfl, rfl⟩ := mm_str_inv h
    exact lv_istore_n hx hb hd rfl LR.has (by rw [← LR.2.1]; exact hk) rfl (fun lsB hB => kk _ _ _ (LR.back (v := .int x) rfl hk hB) WS)
  | istore k =>
    obtain ⟨rfl, h⟩ := mm_if hi
    obtain ⟨x, rfl, hk, rfl, rfl, rfl⟩ := mm_str_inv h
    exact lv_istore hx hb hd LR.has (by rw [← LR.2.1]; exact hk) rfl (fun lsB hB => kk _ _ _ (LR.back (v := .int x) rfl hk hB) WS)
  | astore_n k =>
    obtain ⟨rfl, h⟩ := mm_if hi
    obtain ⟨x, rfl, hk, rfl, rfl, rfl⟩ := mm_strr_inv h
    exact lv_astore_n hx hb hd rfl LR.has (by rw [← LR.2.1]; exact hk) rfl (fun lsB hB => kk _ _ _ (LR.back (v := .ref x) rfl hk hB) WS)
  | astore k =>
    obtain ⟨rfl, h⟩ := mm_if hi
    obtain ⟨x, rfl, hk, rfl, rfl, rfl⟩ := mm_strr_inv h
    exact lv_astore hx hb hd LR.has (by rw [← LR.2.1]; exact hk) rfl (fun lsB hB => kk _ _ _ (LR.back (v := .ref x) rfl hk hB) WS)
  | iinc k cc =>
    obtain ⟨rfl, h⟩ := mm_if hi
    obtain ⟨x, hl, rfl, rfl, rfl, rfl⟩ := mm_inc_inv h
    have hk : k < ls.length := (List.getElem?_eq_some_iff.mp hl).1
    obtain ⟨j, hj⟩ := List.getElem?_of_mem (mm_en_mem (ρ := ρ) (σ := σ) (q := (k, .int x)) |>.mpr ⟨_, hl, rfl, rfl⟩)
    exact lv_iinc hx hb hd LR.has hj rfl (by rw [← LR.2.1]; exact hk) rfl (fun lsB hB => kk _ _ _ (LR.back (v := .int (x + Int32.ofInt cc)) rfl hk hB) WS)
  | iadd =>
    obtain ⟨rfl, h⟩ := mm_if hi
    obtain ⟨a, b, r, rfl, rfl, rfl, rfl, rfl⟩ := mm_bin_inv h
    exact lv_iadd hx hb hd (kk _ _ _ LR WS)
  | isub =>
    obtain ⟨rfl, h⟩ := mm_if hi
    obtain ⟨a, b, r, rfl, rfl, rfl, rfl, rfl⟩ := mm_bin_inv h
    exact lv_isub hx hb hd (kk _ _ _ LR WS)
  | imul =>
    obtain ⟨rfl, h⟩ := mm_if hi
    obtain ⟨a, b, r, rfl, rfl, rfl, rfl, rfl⟩ := mm_bin_inv h
    exact lv_imul hx hb hd (kk _ _ _ LR WS)
  | iand =>
    obtain ⟨rfl, h⟩ := mm_if hi
    obtain ⟨a, b, r, rfl, rfl, rfl, rfl, rfl⟩ := mm_bin_inv h
    exact lv_iand hx hb hd (kk _ _ _ LR WS)
  | ixor =>
    obtain ⟨rfl, h⟩ := mm_if hi
    obtain ⟨a, b, r, rfl, rfl, rfl, rfl, rfl⟩ := mm_bin_inv h
    exact lv_ixor hx hb hd (kk _ _ _ LR WS)
  | ishr =>
    obtain ⟨rfl, h⟩ := mm_if hi
    obtain ⟨a, b, r, rfl, rfl, rfl, rfl, rfl⟩ := mm_bin_inv h
    exact lv_ishr hx hb hd (kk _ _ _ LR WS)
  | ladd =>
    obtain ⟨rfl, h⟩ := mm_if hi
    obtain ⟨a, b, r, rfl, rfl, rfl, rfl, rfl⟩ := mm_binL_inv h
    exact lv_ladd hx hb hd (kk _ _ _ LR WS)
  | lsub =>
    obtain ⟨rfl, h⟩ := mm_if hi
    obtain ⟨a, b, r, rfl, rfl, rfl, rfl, rfl⟩ := mm_binL_inv h
    exact lv_lsub hx hb hd (kk _ _ _ LR WS)
  | lmul =>
    obtain ⟨rfl, h⟩ := mm_if hi
    obtain ⟨a, b, r, rfl, rfl, rfl, rfl, rfl⟩ := mm_binL_inv h
    exact lv_lmul hx hb hd (kk _ _ _ LR WS)
  | idiv =>
    unfold mm_ins at hi
    dsimp only at hi
    split at hi
    · obtain ⟨⟨rfl, hne⟩, h⟩ := mm_if hi
      obtain ⟨rfl, rfl, rfl, rfl⟩ := mm_go_inv h
      exact lv_idiv hx hb hd hne (kk _ _ _ LR WS)
    · cases hi
  | irem =>
    unfold mm_ins at hi
    dsimp only at hi
    split at hi
    · obtain ⟨⟨rfl, hne⟩, h⟩ := mm_if hi
      obtain ⟨rfl, rfl, rfl, rfl⟩ := mm_go_inv h
      exact lv_irem hx hb hd hne (kk _ _ _ LR WS)
    · cases hi
  | lrem =>
    unfold mm_ins at hi
    dsimp only at hi
    split at hi
    · obtain ⟨⟨rfl, hne⟩, h⟩ := mm_if hi
      obtain ⟨rfl, rfl, rfl, rfl⟩ := mm_go_inv h
      exact lv_lrem hx hb hd hne (kk _ _ _ LR WS)
    · cases hi
  | ineg =>
    unfold mm_ins at hi
    dsimp only at hi
    split at hi
    · obtain ⟨rfl, h⟩ := mm_if hi
      obtain ⟨rfl, rfl, rfl, rfl⟩ := mm_go_inv h
      exact lv_ineg hx hb hd (kk _ _ _ LR WS)
    · cases hi
  | i2l =>
    unfold mm_ins at hi
    dsimp only at hi
    split at hi
    · obtain ⟨rfl, h⟩ := mm_if hi
      obtain ⟨rfl, rfl, rfl, rfl⟩ := mm_go_inv h
      exact lv_i2l hx hb hd rfl (kk _ _ _ LR WS)
    · cases hi
  | l2i =>
    unfold mm_ins at hi
    dsimp only at hi
    split at hi
    · obtain ⟨rfl, h⟩ := mm_if hi
      obtain ⟨rfl, rfl, rfl, rfl⟩ := mm_go_inv h
      exact lv_l2i hx hb hd rfl (kk _ _ _ LR WS)
    · cases hi
  | dup =>
    unfold mm_ins at hi
    dsimp only at hi
    split at hi
    · obtain ⟨⟨rfl, h1⟩, h⟩ := mm_if hi
      obtain ⟨rfl, rfl, rfl, rfl⟩ := mm_go_inv h
      exact lv_dup hx hb hd (mm_cat h1) (kk _ _ _ LR WS)
    · cases hi
  | dup2 =>
    unfold mm_ins at hi
    dsimp only at hi
    split at hi
    · obtain ⟨⟨rfl, h1, h2⟩, h⟩ := mm_if hi
      obtain ⟨rfl, rfl, rfl, rfl⟩ := mm_go_inv h
      exact lv_dup2_11 hx hb hd (mm_cat h1) (mm_cat h2) (kk _ _ _ LR WS)
    · cases hi
  | pop =>
    unfold mm_ins at hi
    dsimp only at hi
    split at hi
    · obtain ⟨⟨rfl, h1⟩, h⟩ := mm_if hi
      obtain ⟨rfl, rfl, rfl, rfl⟩ := mm_go_inv h
      exact lv_pop hx hb hd (mm_cat h1) (kk _ _ _ LR WS)
    · cases hi
  | goto off =>
    unfold mm_ins at hi
    dsimp only at hi
    split at hi
    · rename_i t ht
      obtain ⟨rfl, h⟩ := mm_if hi
      obtain ⟨rfl, rfl, rfl, rfl⟩ := mm_go_inv h
      exact lv_goto hx hb hd (mm_tg_inv ht) (kk _ _ _ LR WS)
    · cases hi
  | ifCond cc off =>
    unfold mm_ins at hi
    dsimp only at hi
    split at hi
    · rename_i x r t ht
      obtain ⟨rfl, h⟩ := mm_if hi
      have ht := mm_tg_inv ht
      cases cc with
      | eq => exact lv_if_eq hx hb hd ht (fun q => by rw [if_pos (show mm_cz .eq x = true from decide_eq_true q)] at h; obtain ⟨rfl, rfl, rfl, rfl⟩ := mm_go_inv h; exact kk _ _ _ LR WS) (fun q => by rw [if_neg (show ¬ mm_cz .eq x = true from fun z => q (of_decide_eq_true z))] at h; obtain ⟨rfl, rfl, rfl, rfl⟩ := mm_go_inv h; exact kk _ _ _ LR WS)
      | ne => exact lv_if_ne hx hb hd ht (fun q => by rw [if_pos (show mm_cz .ne x = true from decide_eq_true q)] at h; obtain ⟨rfl, rfl, rfl, rfl⟩ := mm_go_inv h; exact kk _ _ _ LR WS) (fun q => by rw [if_neg (show ¬ mm_cz .ne x = true from fun z => (of_decide_eq_true z) q)] at h; obtain ⟨rfl, rfl, rfl, rfl⟩ := mm_go_inv h; exact kk _ _ _ LR WS)
      | lt => exact lv_if_lt hx hb hd ht (fun q => by rw [if_pos (show mm_cz .lt x = true from decide_eq_true q)] at h; obtain ⟨rfl, rfl, rfl, rfl⟩ := mm_go_inv h; exact kk _ _ _ LR WS) (fun q => by rw [if_neg (show ¬ mm_cz .lt x = true from fun z => q (of_decide_eq_true z))] at h; obtain ⟨rfl, rfl, rfl, rfl⟩ := mm_go_inv h; exact kk _ _ _ LR WS)
      | ge => exact lv_if_ge hx hb hd ht (fun q => by rw [if_pos (show mm_cz .ge x = true from decide_eq_true q)] at h; obtain ⟨rfl, rfl, rfl, rfl⟩ := mm_go_inv h; exact kk _ _ _ LR WS) (fun q => by rw [if_neg (show ¬ mm_cz .ge x = true from fun z => q (of_decide_eq_true z))] at h; obtain ⟨rfl, rfl, rfl, rfl⟩ := mm_go_inv h; exact kk _ _ _ LR WS)
      | gt => exact lv_if_gt hx hb hd ht (fun q => by rw [if_pos (show mm_cz .gt x = true from decide_eq_true q)] at h; obtain ⟨rfl, rfl, rfl, rfl⟩ := mm_go_inv h; exact kk _ _ _ LR WS) (fun q => by rw [if_neg (show ¬ mm_cz .gt x = true from fun z => q (of_decide_eq_true z))] at h; obtain ⟨rfl, rfl, rfl, rfl⟩ := mm_go_inv h; exact kk _ _ _ LR WS)
      | le => exact lv_if_le hx hb hd ht (fun q => by rw [if_pos (show mm_cz .le x = true from decide_eq_true q)] at h; obtain ⟨rfl, rfl, rfl, rfl⟩ := mm_go_inv h; exact kk _ _ _ LR WS) (fun q => by rw [if_neg (show ¬ mm_cz .le x = true from fun z => q (of_decide_eq_true z))] at h; obtain ⟨rfl, rfl, rfl, rfl⟩ := mm_go_inv h; exact kk _ _ _ LR WS)
    · cases hi
  | if_icmp cc off =>
    unfold mm_ins at hi
    dsimp only at hi
    split at hi
    · rename_i b a r t ht
      obtain ⟨rfl, h⟩ := mm_if hi
      have ht := mm_tg_inv ht
      cases cc with
      | eq => exact lv_icmp_eq hx hb hd ht (fun q => by rw [if_pos (show mm_ci .eq a b = true from decide_eq_true q)] at h; obtain ⟨rfl, rfl, rfl, rfl⟩ := mm_go_inv h; exact kk _ _ _ LR WS) (fun q => by rw [if_neg (show ¬ mm_ci .eq a b = true from fun z => q (of_decide_eq_true z))] at h; obtain ⟨rfl, rfl, rfl, rfl⟩ := mm_go_inv h; exact kk _ _ _ LR WS)
      | ne => exact lv_icmp_ne hx hb hd ht (fun q => by rw [if_pos (show mm_ci .ne a b = true from decide_eq_true q)] at h; obtain ⟨rfl, rfl, rfl, rfl⟩ := mm_go_inv h; exact kk _ _ _ LR WS) (fun q => by rw [if_neg (show ¬ mm_ci .ne a b = true from fun z => (of_decide_eq_true z) q)] at h; obtain ⟨rfl, rfl, rfl, rfl⟩ := mm_go_inv h; exact kk _ _ _ LR WS)
      | lt => exact lv_icmp_lt hx hb hd ht (fun q => by rw [if_pos (show mm_ci .lt a b = true from decide_eq_true q)] at h; obtain ⟨rfl, rfl, rfl, rfl⟩ := mm_go_inv h; exact kk _ _ _ LR WS) (fun q => by rw [if_neg (show ¬ mm_ci .lt a b = true from fun z => q (of_decide_eq_true z))] at h; obtain ⟨rfl, rfl, rfl, rfl⟩ := mm_go_inv h; exact kk _ _ _ LR WS)
      | ge => exact lv_icmp_ge hx hb hd ht (fun q => by rw [if_pos (show mm_ci .ge a b = true from decide_eq_true q)] at h; obtain ⟨rfl, rfl, rfl, rfl⟩ := mm_go_inv h; exact kk _ _ _ LR WS) (fun q => by rw [if_neg (show ¬ mm_ci .ge a b = true from fun z => q (of_decide_eq_true z))] at h; obtain ⟨rfl, rfl, rfl, rfl⟩ := mm_go_inv h; exact kk _ _ _ LR WS)
      | gt => exact lv_icmp_gt hx hb hd ht (fun q => by rw [if_pos (show mm_ci .gt a b = true from decide_eq_true q)] at h; obtain ⟨rfl, rfl, rfl, rfl⟩ := mm_go_inv h; exact kk _ _ _ LR WS) (fun q => by rw [if_neg (show ¬ mm_ci .gt a b = true from fun z => q (of_decide_eq_true z))] at h; obtain ⟨rfl, rfl, rfl, rfl⟩ := mm_go_inv h; exact kk _ _ _ LR WS)
      | le => exact lv_icmp_le hx hb hd ht (fun q => by rw [if_pos (show mm_ci .le a b = true from decide_eq_true q)] at h; obtain ⟨rfl, rfl, rfl, rfl⟩ := mm_go_inv h; exact kk _ _ _ LR WS) (fun q => by rw [if_neg (show ¬ mm_ci .le a b = true from fun z => q (of_decide_eq_true z))] at h; obtain ⟨rfl, rfl, rfl, rfl⟩ := mm_go_inv h; exact kk _ _ _ LR WS)
    · cases hi
  | tableswitch d lo hi2 offs =>
    unfold mm_ins at hi
    dsimp only at hi
    split at hi
    · rename_i x r
      by_cases q : x.toInt < lo ∨ hi2 < x.toInt
      · rw [if_pos q] at hi
        split at hi
        · rename_i t ht
          obtain ⟨rfl, rfl, rfl, rfl⟩ := mm_go_inv hi
          exact lv_tableOut hx hb hd q (mm_tg_inv ht) (kk _ _ _ LR WS)
        · cases hi
      · rw [if_neg q] at hi
        split at hi
        · rename_i off ho
          split at hi
          · rename_i t ht
            obtain ⟨rfl, rfl, rfl, rfl⟩ := mm_go_inv hi
            exact lv_tableIn hx hb hd (fun z => q (Or.inl z)) (fun z => q (Or.inr z)) ho (mm_tg_inv ht) (kk _ _ _ LR WS)
          · cases hi
        · cases hi
    · cases hi
  | lookupswitch d ps =>
    unfold mm_ins at hi
    dsimp only at hi
    split at hi
    · obtain ⟨q, hi⟩ := mm_if hi
      split at hi
      · rename_i t ht
        obtain ⟨rfl, rfl, rfl, rfl⟩ := mm_go_inv hi
        exact lv_lookup hx hb hd q rfl (mm_tg_inv ht) (kk _ _ _ LR WS)
      · cases hi
    · cases hi
  | getfield idx =>
    unfold mm_ins at hi
    dsimp only at hi
    split at hi
    · rename_i a r ci k hk
      split at hi
      · rename_i v hv
        obtain ⟨rfl, h⟩ := mm_if hi
        obtain ⟨rfl, rfl, rfl, rfl⟩ := mm_go_inv h
        exact mm_get_sound CX SV WS hk hv hd (kk _ _ _ LR WS)
      · cases hi
    · cases hi
  | putfield idx =>
    unfold mm_ins at hi
    dsimp only at hi
    split at hi
    · rename_i v a r ci k hk
      split at hi
      · rename_i μ1 hv
        obtain ⟨⟨rfl, hn⟩, h⟩ := mm_if hi
        obtain ⟨rfl, rfl, rfl, rfl⟩ := mm_go_inv h
        exact mm_put_sound CX SV WS hk hv hn hd (fun H' locs' WS' => kk _ _ _ LR WS')
      · cases hi
    · cases hi
  | getstatic idx =>
    unfold mm_ins at hi
    dsimp only at hi
    split at hi
    · rename_i t hk
      obtain ⟨⟨rfl, ht⟩, h⟩ := mm_if hi
      obtain ⟨rfl, rfl, rfl, rfl⟩ := mm_go_inv h
      exact mm_gets_sound CX WS hk hd (kk _ _ _ LR WS)
    · cases hi
  | iaload =>
    unfold mm_ins at hi
    dsimp only at hi
    split at hi
    · obtain ⟨⟨rfl, h1⟩, h⟩ := mm_if hi
      obtain ⟨rfl, rfl, rfl, rfl⟩ := mm_go_inv h
      exact mm_ald_sound CX SV WS h1 hd (kk _ _ _ LR WS)
    · obtain ⟨⟨rfl, h1, h2⟩, h⟩ := mm_if hi
      obtain ⟨rfl, rfl, rfl, rfl⟩ := mm_go_inv h
      exact mm_sld_sound CX WS h2 h1 hd (kk _ _ _ LR WS)
    · cases hi
  | iastore =>
    unfold mm_ins at hi
    dsimp only at hi
    split at hi
    · obtain ⟨⟨rfl, h1⟩, h⟩ := mm_if hi
      obtain ⟨rfl, rfl, rfl, rfl⟩ := mm_go_inv h
      exact mm_ast_sound CX SV WS h1 hd (fun H' locs' WS' => kk _ _ _ LR WS')
    · cases hi
  | baload =>
    unfold mm_ins at hi
    dsimp only at hi
    split at hi
    · obtain ⟨⟨rfl, h1⟩, h⟩ := mm_if hi
      obtain ⟨rfl, rfl, rfl, rfl⟩ := mm_go_inv h
      exact mm_bld_sound CX SV WS h1 hd (kk _ _ _ LR WS)
    · cases hi
  | bastore =>
    unfold mm_ins at hi
    dsimp only at hi
    split at hi
    · obtain ⟨⟨rfl, h1, h2⟩, h⟩ := mm_if hi
      obtain ⟨rfl, rfl, rfl, rfl⟩ := mm_go_inv h
      exact mm_bst_sound CX SV WS h1 h2 hd (fun H' locs' WS' => kk _ _ _ LR WS')
    · cases hi
  | invokestatic idx =>
    unfold mm_ins at hi
    dsimp only at hi
    split at hi
    · obtain ⟨rfl, h⟩ := mm_if hi
      unfold mm_cs at h
      obtain ⟨-, h⟩ := mm_if h
      cases h
    · cases hi
    · split at hi
      · rename_i hk
        obtain ⟨rfl, h⟩ := mm_if hi
        unfold mm_acp at h
        split at h
        · obtain ⟨⟨h1, h2, h3, h4, h5, h6, h7⟩, h⟩ := mm_if h
          obtain ⟨rfl, rfl, rfl, rfl⟩ := mm_go_inv h
          exact mm_acp_sound CX SV WS hR LR.1 hk h1 h2 h3 h4 h5 h6 h7 hd (fun H' locs' WS' => kk _ _ _ LR WS')
        · cases h
      · rename_i hk
        obtain ⟨rfl, h⟩ := mm_if hi
        unfold mm_inp at h
        split at h
        · obtain ⟨⟨h1, h2⟩, h⟩ := mm_if h
          obtain ⟨rfl, rfl, rfl, rfl⟩ := mm_go_inv h
          exact mm_inp_sound CX WS hR LR.1 hk h1 h2 hd (fun H' locs' WS' => kk _ _ _ LR WS')
        · cases h
      · cases hi
  | invokevirtual idx =>
    unfold mm_ins at hi
    dsimp only at hi
    split at hi
    · obtain ⟨rfl, h⟩ := mm_if hi
      unfold mm_cv at h
      split at h
      · obtain ⟨-, h⟩ := mm_if h
        cases h
      · cases h
    · cases hi
  | ireturn =>
    unfold mm_ins at hi
    dsimp only at hi
    split at hi
    · obtain ⟨-, h⟩ := mm_if hi
      cases h
    · obtain ⟨-, h⟩ := mm_if hi
      cases h
    · cases hi
  | return_ =>
    unfold mm_ins at hi
    dsimp only at hi
    split at hi
    · obtain ⟨-, h⟩ := mm_if hi
      cases h
    · cases hi
  | _ => exact absurd hi (by unfold mm_ins; exact fun h => by cases h)
end ONE
