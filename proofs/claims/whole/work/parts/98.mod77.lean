/-! ===== constructors ===== -/
def z0 : mm_U := fun _ _ => nI 0
abbrev kw (y : MethodName) (cc : ByteArray) : List Cond := Cond.code y cc 1 none :: mm_tb
def kPc (D : va_G) (cA : Nat → ClassId) (h0 sz : Nat) (e0 : va_E) (NW : State → Prop) : Array Value → State → Prop := va_Pc [.ref h0] (fun U => U.heap.size = sz ∧ va_P D vwCl [(h0, e0)] U.heap ∧ va_K D vwCl (mm_ty cA) U ∧ va_D (fun _ => True) [(h0, e0)] ∧ NW U)
def kB (D : va_G) (cA : Nat → ClassId) (N : Nat) (sh : mm_Sh) (μ : mm_U) (A : Nat → Prop) (ρ : Nat → Nat) (t : State) : Prop := va_P D vwCl (mm_w N ρ cA sh μ) t.heap ∧ va_K D vwCl (mm_ty cA) t ∧ va_D A (mm_w N ρ cA sh μ)
def kQ (D : va_G) (cA : Nat → ClassId) (h0 sz : Nat) (e0 : va_E) (N : Nat) (sh : mm_Sh) (μ : mm_U) : Array Value → State → Outcome → State → Prop := va_Qv (fun ρ : Nat → Nat => ρ 0 = h0) (kB D cA N sh μ (va_A [(h0, e0)] sz)) (va_A [(h0, e0)] sz)
theorem ar_same {D : va_G} {cA : Nat → ClassId} {c' : ClassId} {s : State} (hK : va_K D vwCl (mm_ty cA) s) (hK2 : va_K D vwCl (mm_ty cA ++ [(c', .int)]) s) : c' = cA 0 := by
  have h1 := (hK.2 0 (cA 0, .int) rfl).2
  have h2 := (hK2.2 2 (c', .int) rfl).2
  have h1 : s.vm.findClass ("[" ++ FieldType.int.toString) = some (cA 0) := h1
  have h2 : s.vm.findClass ("[" ++ FieldType.int.toString) = some c' := h2
  rw [h1] at h2
  exact (Option.some.inj h2).symm
theorem ar_sameB {D : va_G} {cA : Nat → ClassId} {c' : ClassId} {s : State} (hK : va_K D vwCl (mm_ty cA) s) (hK2 : va_K D vwCl (mm_ty cA ++ [(c', .boolean)]) s) : c' = cA 1 := by
  have h1 := (hK.2 1 (cA 1, .boolean) rfl).2
  have h2 := (hK2.2 2 (c', .boolean) rfl).2
  have h1 : s.vm.findClass ("[" ++ FieldType.boolean.toString) = some (cA 1) := h1
  have h2 : s.vm.findClass ("[" ++ FieldType.boolean.toString) = some c' := h2
  rw [h1] at h2
  exact (Option.some.inj h2).symm
theorem aw_int : Cond.arrayClass .int ∈ mm_tb := (mm_t1 (mm_tq1 (List.mem_of_getElem? (i := 74) rfl)) rfl)
theorem aw_bool : Cond.arrayClass .boolean ∈ mm_tb := (mm_t1 (mm_tq5 (List.mem_of_getElem? (i := 19) rfl)) rfl)
theorem oi_m : Cond.instanceMethod objectInit ∈ mm_tb := (mm_t1 (mm_tq1 (List.mem_of_getElem? (i := 20) rfl)) rfl)
theorem oi_c : Cond.code objectInit ⟨#[0xb1]⟩ 1 none ∈ mm_tb := (mm_t1 (mm_tq1 (List.mem_of_getElem? (i := 21) rfl)) rfl)
section CTR
variable {p : Program} {l : Launch} {e : Env} {Rm : Room} {s : State} {m : MethodId} {args : Array Value} {below : List Frame} {meth : Method} {c : Code} {Q : State → Prop} {D : va_G} {cA : Nat → ClassId} {A : Nat → Prop} {cc : ByteArray}
/-- 'this.k = new int[n]' in a constructor -/
theorem ct_arr {ci N idx k pc n0 cells slots h0 : Nat} {C : String} {T : u_T} {ty0 : Nat → FieldType} {fs rest : List Value} {tl : va_W} {ls : Array Slot} {H : Heap} {locs : List Loc} (hx : p.tables.exec = Jvm.exec) (hb : c.code = cc) (hts : ∀ w ∈ mm_tb, w.before args s = true) (hown : s.vm.findClass C = some m.cls) (hin : meth.name = "<init>") (hK : va_K D vwCl (mm_ty cA) s) (hA : ∀ q, s.heap.size ≤ q → A q)
    (hc : vwCl[ci]? = some (C, T, N)) (huw : ∀ w ∈ u_ws C T N, w ∈ mm_tb) (hty : ∀ k, k < N → parseFieldDescriptor (T k).2.2.1 = some (ty0 k)) (hnm : ∀ a, a < N → ∀ b, b < N → a ≠ b → (T a).2.1 ≠ (T b).2.1)
    (hk : k < N) (hlk : Cond.fieldLink C idx C (T k).2.1 (T k).2.2.1 ∈ mm_tb) (hcl : (T k).1 = C) (hfin : (T k).2.2.2 = true) (hta : ty0 k = .array .int) (hfl : k < fs.length) (hn : n0 < 2 ^ 20) (hcs : cells + 1 ≤ Rm.cells ∧ slots + n0 ≤ Rm.slots)
    (dn : decode cc pc = .ok (.newarray .int, 2)) (dp : decode cc (pc + 2) = .ok (.putfield idx, 3))
    (hP : va_P D vwCl ((h0, .inr (ci, fs)) :: tl) H) (hD : va_D A ((h0, .inr (ci, fs)) :: tl)) (hS : va_S A s.heap H locs)
    (kk : ∀ (q : Nat) (H1 : Heap) (locs1 : List Loc), va_P D vwCl ((h0, .inr (ci, fs.set k (.ref q))) :: (tl ++ [(q, .inl (cA 0, n0, .inl (fun _ => nI 0)))])) H1 → va_D A ((h0, .inr (ci, fs.set k (.ref q))) :: (tl ++ [(q, .inl (cA 0, n0, .inl (fun _ => nI 0)))])) → va_S A s.heap H1 locs1 → W p l e Rm s m args below meth c H1 locs1 (cells + 1) (slots + n0) Q (F0 m (pc + 5) ls rest)) :
    W p l e Rm s m args below meth c H locs cells slots Q (F0 m pc ls (.int (nI n0) :: .ref h0 :: rest)) := by
  refine va_newa (atype := .int) (ty := .int) (a0 := (n0, .inl (fun _ => nI 0))) hx hb (hts _ aw_int) rfl hK hP hD hS hA (fun cA => rfl) (nI_pos (by omega)) (nI_clamp (by omega)) ?_ hcs.1 hcs.2 dn (fun q c' H1 hK2 hP hD hS => ?_)
  · show n0 * 4 ≤ 536870912
    omega
  have ec := ar_same hK hK2
  subst ec
  have hd : parseFieldDescriptor (T k).2.2.1 = some (.array .int) := by rw [hty k hk, hta]
  refine va_putF (ci := ci) (v := .ref q) (ty := .array .int) (C := C) (T := T) (N := N) (ref := C) hx hb hts huw ty0 hty hnm hown hK hP hD hS 0 rfl hc k hk (hts _ hlk) (fun _ h9 => by rw [← hcl]; exact h9) hfin hin hcl hd rfl rfl hfl dp (fun H locs hP hD hS => ?_)
  exact kk q H locs hP hD hS
end CTR
