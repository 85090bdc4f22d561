section CTS
variable {p : Program} {l : Launch} {e : Env} {Rm : Room} {s : State} {m : MethodId} {args : Array Value} {below : List Frame} {meth : Method} {c : Code} {Q : State → Prop} {D : va_G} {cA : Nat → ClassId} {A : Nat → Prop} {cc : ByteArray}
theorem ct_ast {pc cells slots a n i0 : Nat} {x : Int32} {f : Nat → Int32} {pre post : va_W} {ls : Array Slot} {H : Heap} {locs : List Loc} {rest : List Value} (hx : p.tables.exec = Jvm.exec) (hb : c.code = cc) (hK : va_K D vwCl (mm_ty cA) s) (hi : i0 < n) (hn : n < 2 ^ 20) (hd : decode cc pc = .ok (.iastore, 1)) (hP : va_P D vwCl (pre ++ (a, .inl (cA 0, n, .inl f)) :: post) H) (hD : va_D A (pre ++ (a, .inl (cA 0, n, .inl f)) :: post)) (hS : va_S A s.heap H locs)
    (kk : ∀ (H1 : Heap) (locs1 : List Loc), va_P D vwCl (pre ++ (a, .inl (cA 0, n, .inl (upd f i0 x))) :: post) H1 → va_D A (pre ++ (a, .inl (cA 0, n, .inl (upd f i0 x))) :: post) → va_S A s.heap H1 locs1 → W p l e Rm s m args below meth c H1 locs1 cells slots Q (F0 m (pc + 1) ls rest)) : W p l e Rm s m args below meth c H locs cells slots Q (F0 m pc ls (.int x :: .int (nI i0) :: .ref a :: rest)) := by
  have at' : ∀ z : Nat × va_E, (pre ++ z :: post)[pre.length]? = some z := fun z => by
    rw [List.getElem?_append_right (Nat.le_refl _), Nat.sub_self]
    rfl
  refine va_iast hx hb hK hP hD hS pre.length 0 (at' _) rfl (vp_in_nI hi (by omega)) hd (fun H1 locs1 h1 h2 h3 => ?_)
  rw [nI_clamp (by omega)] at h1 h2
  rw [List.set_append_right _ _ (Nat.le_refl _), Nat.sub_self] at h1 h2
  exact kk H1 locs1 h1 h2 h3
end CTS
def stFx : Nat → Int32 := (upd (upd (upd (upd (upd (upd (fun _ => nI 0) 0 (1)) 1 (0)) 2 (-1)) 3 (-1)) 4 (0)) 5 (1))
def stFy : Nat → Int32 := (upd (upd (upd (upd (upd (upd (fun _ => nI 0) 0 (0)) 1 (1)) 2 (1)) 3 (0)) 4 (-1)) 5 (-1))
def μM0 : mm_U := fun a => if a = 1 then upd (fun _ => nI 0) 2 (nI 1) else if a = 5 then stFx else if a = 6 then stFy else z0 a
theorem stM : StA μM0 0 := by
  refine ⟨fun k hk => ?_, fun k hk => ?_⟩
  · have : k = 0 ∨ k = 1 ∨ k = 2 ∨ k = 3 ∨ k = 4 ∨ k = 5 := by omega
    rcases this with rfl | rfl | rfl | rfl | rfl | rfl <;> decide
  · have : k = 0 ∨ k = 1 ∨ k = 2 ∨ k = 3 ∨ k = 4 ∨ k = 5 := by omega
    rcases this with rfl | rfl | rfl | rfl | rfl | rfl <;> decide
def mQ (D : va_G) (cA : Nat → ClassId) (h0 sz : Nat) : Array Value → State → Outcome → State → Prop := va_Qv (fun u : (Nat → Nat) × mm_U => u.1 0 = h0 ∧ RepM (fBg sI 4 4) u.2 0 ∧ u.2 0 7 = nI 0 ∧ StA u.2 0 ∧ KeR (fun _ => none) u.2 0) (fun u t => va_P D vwCl (mm_w 10 u.1 cA (shL (moL 0)) u.2) t.heap ∧ va_K D vwCl (mm_ty cA) t ∧ va_D (va_A [(h0, .inr (6, [.int (nI 0), .null, .null, .null, .null, .null, .null, .int (nI 0), .long (nI 0).toInt64, .null, .null, .null]))] sz) (mm_w 10 u.1 cA (shL (moL 0)) u.2)) (va_A [(h0, .inr (6, [.int (nI 0), .null, .null, .null, .null, .null, .null, .int (nI 0), .long (nI 0).toInt64, .null, .null, .null]))] sz)
set_option maxHeartbeats 4000000 in
set_option maxRecDepth 100000 in
theorem k_M (l : Launch) (D : va_G) (cA : Nat → ClassId) (σ : Nat → Nat) (h0 sz : Nat) : Met l yX6_init (kw yX6_init cX6_init) { frames := 8, cells := 9, slots := 8454, locals := 300 } (kPc D cA h0 sz (.inr (6, [.int (nI 0), .null, .null, .null, .null, .null, .null, .int (nI 0), .long (nI 0).toInt64, .null, .null, .null])) (fun U => mm_Z σ (va_A [(h0, .inr (6, [.int (nI 0), .null, .null, .null, .null, .null, .null, .int (nI 0), .long (nI 0).toInt64, .null, .null, .null]))] sz) U U.heap)) (mQ D cA h0 sz) 9 8454 (va_A [(h0, .inr (6, [.int (nI 0), .null, .null, .null, .null, .null, .null, .int (nI 0), .long (nI 0).toInt64, .null, .null, .null]))] sz) := by
  refine Met.ofWF (cc := cX6_init) (maxL := 1) (ret := none) (pl6 rfl) rfl ?_
  intro p e s m args below meth c s₁ B hml hv
  obtain ⟨rfl, hsz, hP, hK, hD0, hZ⟩ := hv
  have hx := B.exec
  have hb := B.bytes
  have hr := B.returns
  have hts0 := atoms_spec (ws := kw yX6_init cX6_init) B.pre
  have hts : ∀ w ∈ mm_tb, w.before _ s = true := fun w hw => hts0 w (List.mem_cons_of_mem _ hw)
  have hown : s.vm.findClass RX6 = some m.cls := findClass_of_methodNamed B.named
  have hin : meth.name = "<init>" := (name_of_methodNamed B.named B.method).1
  subst hsz
  have hD := hD0.self (sz := s.heap.size)
  generalize hAe : va_A [(h0, .inr (6, [.int (nI 0), .null, .null, .null, .null, .null, .null, .int (nI 0), .long (nI 0).toInt64, .null, .null, .null]))] s.heap.size = A at hD hZ ⊢
  have hA : ∀ q : Nat, s.heap.size ≤ q → A q := fun q h => by rw [← hAe]; exact Or.inr h
  have hS : va_S A s.heap s.heap [] := va_S.rf
  have hl := lv_entry ([.ref h0]) (n := 1) (Nat.le_of_ble_eq_true rfl)
  rw [lg_entry_eq]
  generalize (lg_sl ([.ref h0]) ++ List.replicate (1 - (lg_sl ([.ref h0])).length) Slot.unset).toArray = ls at hl ⊢
  have hl : lv_has ls 1 [(0, .ref h0)] := hl
  refine lv_aload_n hx hb dX6_init_0 rfl (lv_at hl 0 rfl) ?_
  refine W.objInit hx hb hown (hts (.methodLink RX6 3 objectInit) (mm_t1 (mm_tq4 (List.mem_of_getElem? (i := 206) rfl)) rfl)) (hts _ oi_m) (hts _ oi_c) rfl (by rw [hml]; exact hl.1) rfl dX6_init_1 (Nat.le_of_ble_eq_true rfl) (Nat.le_of_ble_eq_true rfl) ?_
  refine W.eq (g2 := F0 m 4 ls []) rfl ?_
  refine lv_aload_n hx hb dX6_init_4 rfl (lv_at hl 0 rfl) ?_
  refine lv_sipush (v := nI 1786) hx hb dX6_init_5 (by decide) ?_
  refine ct_arr (ci := 6) (k := 1) (ty0 := tyX6) hx hb hts hown hin hK hA rfl mm_uw6 tyX6_ok nmX6 (by decide) (mm_t1 (mm_tq4 (List.mem_of_getElem? (i := 223) rfl)) rfl) rfl rfl rfl (Nat.le_of_ble_eq_true rfl) (by decide) ⟨Nat.le_of_ble_eq_true rfl, Nat.le_of_ble_eq_true rfl⟩ dX6_init_8 dX6_init_10 hP hD hS (fun q1 H locs hP hD hS => ?_)
  refine lv_aload_n hx hb dX6_init_13 rfl (lv_at hl 0 rfl) ?_
  refine lv_sipush (v := nI 1786) hx hb dX6_init_14 (by decide) ?_
  refine ct_arr (ci := 6) (k := 2) (ty0 := tyX6) hx hb hts hown hin hK hA rfl mm_uw6 tyX6_ok nmX6 (by decide) (mm_t1 (mm_tq4 (List.mem_of_getElem? (i := 224) rfl)) rfl) rfl rfl rfl (Nat.le_of_ble_eq_true rfl) (by decide) ⟨Nat.le_of_ble_eq_true rfl, Nat.le_of_ble_eq_true rfl⟩ dX6_init_17 dX6_init_19 hP hD hS (fun q2 H locs hP hD hS => ?_)
  refine lv_aload_n hx hb dX6_init_22 rfl (lv_at hl 0 rfl) ?_
  refine lv_sipush (v := nI 3572) hx hb dX6_init_23 (by decide) ?_
  refine ct_arr (ci := 6) (k := 3) (ty0 := tyX6) hx hb hts hown hin hK hA rfl mm_uw6 tyX6_ok nmX6 (by decide) (mm_t1 (mm_tq4 (List.mem_of_getElem? (i := 225) rfl)) rfl) rfl rfl rfl (Nat.le_of_ble_eq_true rfl) (by decide) ⟨Nat.le_of_ble_eq_true rfl, Nat.le_of_ble_eq_true rfl⟩ dX6_init_26 dX6_init_28 hP hD hS (fun q3 H locs hP hD hS => ?_)
  refine lv_aload_n hx hb dX6_init_31 rfl (lv_at hl 0 rfl) ?_
  refine lv_iconst (v := nI 2) hx hb dX6_init_32 (by decide) ?_
  refine va_newa (atype := .boolean) (ty := .boolean) (a0 := (2, .inl (fun _ => nI 0))) hx hb (hts _ aw_bool) rfl hK hP hD hS hA (fun cA => rfl) (by decide) (by decide) (by decide) (Nat.le_of_ble_eq_true rfl) (Nat.le_of_ble_eq_true rfl) dX6_init_33 (fun q4 c' H hK2 hP hD hS => ?_)
  have ec := ar_sameB hK hK2
  subst ec
  refine va_putF (ci := 6) (v := .ref q4) (ty := .array .boolean) (C := RX6) (T := TX6) (N := 12) (ref := RX6) hx hb hts mm_uw6 tyX6 tyX6_ok nmX6 hown hK hP hD hS 0 rfl rfl 4 (by decide) (hts _ (mm_t1 (mm_tq4 (List.mem_of_getElem? (i := 226) rfl)) rfl)) (fun _ h9 => h9) rfl hin rfl (tyX6_ok 4 (by decide)) rfl rfl (Nat.le_of_ble_eq_true rfl) dX6_init_35 (fun H locs hP hD hS => ?_)
  have hP : va_P D vwCl ([(h0, .inr (6, [.int (nI 0), .ref q1, .ref q2, .ref q3, .ref q4, .null, .null, .int (nI 0), .long (nI 0).toInt64, .null, .null, .null])), (q1, .inl (cA 0, 1786, .inl (fun _ => nI 0))), (q2, .inl (cA 0, 1786, .inl (fun _ => nI 0))), (q3, .inl (cA 0, 3572, .inl (fun _ => nI 0))), (q4, .inl (cA 1, 2, .inl (fun _ => nI 0)))]) H := hP
  have hD : va_D A ([(h0, .inr (6, [.int (nI 0), .ref q1, .ref q2, .ref q3, .ref q4, .null, .null, .int (nI 0), .long (nI 0).toInt64, .null, .null, .null])), (q1, .inl (cA 0, 1786, .inl (fun _ => nI 0))), (q2, .inl (cA 0, 1786, .inl (fun _ => nI 0))), (q3, .inl (cA 0, 3572, .inl (fun _ => nI 0))), (q4, .inl (cA 1, 2, .inl (fun _ => nI 0)))]) := hD
  refine lv_aload_n hx hb dX6_init_38 rfl (lv_at hl 0 rfl) ?_
  refine lv_bipush (v := nI 6) hx hb dX6_init_39 (by decide) ?_
  refine va_newa (atype := .int) (ty := .int) (a0 := (6, .inl (fun _ => nI 0))) hx hb (hts _ aw_int) rfl hK hP hD hS hA (fun cA => rfl) (by decide) (by decide) (by decide) (Nat.le_of_ble_eq_true rfl) (Nat.le_of_ble_eq_true rfl) dX6_init_41 (fun q5 c' H hK2 hP hD hS => ?_)
  have ec := ar_same hK hK2
  subst ec
  have hP : va_P D vwCl ([(h0, .inr (6, [.int (nI 0), .ref q1, .ref q2, .ref q3, .ref q4, .null, .null, .int (nI 0), .long (nI 0).toInt64, .null, .null, .null])), (q1, .inl (cA 0, 1786, .inl (fun _ => nI 0))), (q2, .inl (cA 0, 1786, .inl (fun _ => nI 0))), (q3, .inl (cA 0, 3572, .inl (fun _ => nI 0))), (q4, .inl (cA 1, 2, .inl (fun _ => nI 0)))] ++ (q5, .inl (cA 0, 6, .inl (fun _ => nI 0))) :: []) H := hP
  have hD : va_D A ([(h0, .inr (6, [.int (nI 0), .ref q1, .ref q2, .ref q3, .ref q4, .null, .null, .int (nI 0), .long (nI 0).toInt64, .null, .null, .null])), (q1, .inl (cA 0, 1786, .inl (fun _ => nI 0))), (q2, .inl (cA 0, 1786, .inl (fun _ => nI 0))), (q3, .inl (cA 0, 3572, .inl (fun _ => nI 0))), (q4, .inl (cA 1, 2, .inl (fun _ => nI 0)))] ++ (q5, .inl (cA 0, 6, .inl (fun _ => nI 0))) :: []) := hD
  refine lv_dup hx hb dX6_init_43 rfl ?_
  refine lv_iconst (v := nI 0) hx hb dX6_init_44 (by decide) ?_
  refine lv_iconst (v := 1) hx hb dX6_init_45 (by decide) ?_
  refine ct_ast (i0 := 0) hx hb hK (by decide) (by decide) dX6_init_46 hP hD hS (fun H locs hP hD hS => ?_)
  refine lv_dup hx hb dX6_init_47 rfl ?_
  refine lv_iconst (v := nI 1) hx hb dX6_init_48 (by decide) ?_
  refine lv_iconst (v := 0) hx hb dX6_init_49 (by decide) ?_
  refine ct_ast (i0 := 1) hx hb hK (by decide) (by decide) dX6_init_50 hP hD hS (fun H locs hP hD hS => ?_)
  refine lv_dup hx hb dX6_init_51 rfl ?_
  refine lv_iconst (v := nI 2) hx hb dX6_init_52 (by decide) ?_
  refine lv_iconst (v := -1) hx hb dX6_init_53 (by decide) ?_
  refine ct_ast (i0 := 2) hx hb hK (by decide) (by decide) dX6_init_54 hP hD hS (fun H locs hP hD hS => ?_)
  refine lv_dup hx hb dX6_init_55 rfl ?_
  refine lv_iconst (v := nI 3) hx hb dX6_init_56 (by decide) ?_
  refine lv_iconst (v := -1) hx hb dX6_init_57 (by decide) ?_
  refine ct_ast (i0 := 3) hx hb hK (by decide) (by decide) dX6_init_58 hP hD hS (fun H locs hP hD hS => ?_)
  refine lv_dup hx hb dX6_init_59 rfl ?_
  refine lv_iconst (v := nI 4) hx hb dX6_init_60 (by decide) ?_
  refine lv_iconst (v := 0) hx hb dX6_init_61 (by decide) ?_
  refine ct_ast (i0 := 4) hx hb hK (by decide) (by decide) dX6_init_62 hP hD hS (fun H locs hP hD hS => ?_)
  refine lv_dup hx hb dX6_init_63 rfl ?_
  refine lv_iconst (v := nI 5) hx hb dX6_init_64 (by decide) ?_
  refine lv_iconst (v := 1) hx hb dX6_init_65 (by decide) ?_
  refine ct_ast (i0 := 5) hx hb hK (by decide) (by decide) dX6_init_66 hP hD hS (fun H locs hP hD hS => ?_)
  refine va_putF (ci := 6) (v := .ref q5) (ty := .array .int) (C := RX6) (T := TX6) (N := 12) (ref := RX6) hx hb hts mm_uw6 tyX6 tyX6_ok nmX6 hown hK hP hD hS 0 rfl rfl 5 (by decide) (hts _ (mm_t1 (mm_tq4 (List.mem_of_getElem? (i := 227) rfl)) rfl)) (fun _ h9 => h9) rfl hin rfl (tyX6_ok 5 (by decide)) rfl rfl (Nat.le_of_ble_eq_true rfl) dX6_init_67 (fun H locs hP hD hS => ?_)
  have hP : va_P D vwCl ([(h0, .inr (6, [.int (nI 0), .ref q1, .ref q2, .ref q3, .ref q4, .ref q5, .null, .int (nI 0), .long (nI 0).toInt64, .null, .null, .null])), (q1, .inl (cA 0, 1786, .inl (fun _ => nI 0))), (q2, .inl (cA 0, 1786, .inl (fun _ => nI 0))), (q3, .inl (cA 0, 3572, .inl (fun _ => nI 0))), (q4, .inl (cA 1, 2, .inl (fun _ => nI 0))), (q5, .inl (cA 0, 6, .inl stFx))]) H := hP
  have hD : va_D A ([(h0, .inr (6, [.int (nI 0), .ref q1, .ref q2, .ref q3, .ref q4, .ref q5, .null, .int (nI 0), .long (nI 0).toInt64, .null, .null, .null])), (q1, .inl (cA 0, 1786, .inl (fun _ => nI 0))), (q2, .inl (cA 0, 1786, .inl (fun _ => nI 0))), (q3, .inl (cA 0, 3572, .inl (fun _ => nI 0))), (q4, .inl (cA 1, 2, .inl (fun _ => nI 0))), (q5, .inl (cA 0, 6, .inl stFx))]) := hD
  refine lv_aload_n hx hb dX6_init_70 rfl (lv_at hl 0 rfl) ?_
  refine lv_bipush (v := nI 6) hx hb dX6_init_71 (by decide) ?_
  refine va_newa (atype := .int) (ty := .int) (a0 := (6, .inl (fun _ => nI 0))) hx hb (hts _ aw_int) rfl hK hP hD hS hA (fun cA => rfl) (by decide) (by decide) (by decide) (Nat.le_of_ble_eq_true rfl) (Nat.le_of_ble_eq_true rfl) dX6_init_73 (fun q6 c' H hK2 hP hD hS => ?_)
  have ec := ar_same hK hK2
  subst ec
  have hP : va_P D vwCl ([(h0, .inr (6, [.int (nI 0), .ref q1, .ref q2, .ref q3, .ref q4, .ref q5, .null, .int (nI 0), .long (nI 0).toInt64, .null, .null, .null])), (q1, .inl (cA 0, 1786, .inl (fun _ => nI 0))), (q2, .inl (cA 0, 1786, .inl (fun _ => nI 0))), (q3, .inl (cA 0, 3572, .inl (fun _ => nI 0))), (q4, .inl (cA 1, 2, .inl (fun _ => nI 0))), (q5, .inl (cA 0, 6, .inl stFx))] ++ (q6, .inl (cA 0, 6, .inl (fun _ => nI 0))) :: []) H := hP
  have hD : va_D A ([(h0, .inr (6, [.int (nI 0), .ref q1, .ref q2, .ref q3, .ref q4, .ref q5, .null, .int (nI 0), .long (nI 0).toInt64, .null, .null, .null])), (q1, .inl (cA 0, 1786, .inl (fun _ => nI 0))), (q2, .inl (cA 0, 1786, .inl (fun _ => nI 0))), (q3, .inl (cA 0, 3572, .inl (fun _ => nI 0))), (q4, .inl (cA 1, 2, .inl (fun _ => nI 0))), (q5, .inl (cA 0, 6, .inl stFx))] ++ (q6, .inl (cA 0, 6, .inl (fun _ => nI 0))) :: []) := hD
  refine lv_dup hx hb dX6_init_75 rfl ?_
  refine lv_iconst (v := nI 0) hx hb dX6_init_76 (by decide) ?_
  refine lv_iconst (v := 0) hx hb dX6_init_77 (by decide) ?_
  refine ct_ast (i0 := 0) hx hb hK (by decide) (by decide) dX6_init_78 hP hD hS (fun H locs hP hD hS => ?_)
  refine lv_dup hx hb dX6_init_79 rfl ?_
  refine lv_iconst (v := nI 1) hx hb dX6_init_80 (by decide) ?_
  refine lv_iconst (v := 1) hx hb dX6_init_81 (by decide) ?_
  refine ct_ast (i0 := 1) hx hb hK (by decide) (by decide) dX6_init_82 hP hD hS (fun H locs hP hD hS => ?_)
  refine lv_dup hx hb dX6_init_83 rfl ?_
  refine lv_iconst (v := nI 2) hx hb dX6_init_84 (by decide) ?_
  refine lv_iconst (v := 1) hx hb dX6_init_85 (by decide) ?_
  refine ct_ast (i0 := 2) hx hb hK (by decide) (by decide) dX6_init_86 hP hD hS (fun H locs hP hD hS => ?_)
  refine lv_dup hx hb dX6_init_87 rfl ?_
  refine lv_iconst (v := nI 3) hx hb dX6_init_88 (by decide) ?_
  refine lv_iconst (v := 0) hx hb dX6_init_89 (by decide) ?_
  refine ct_ast (i0 := 3) hx hb hK (by decide) (by decide) dX6_init_90 hP hD hS (fun H locs hP hD hS => ?_)
  refine lv_dup hx hb dX6_init_91 rfl ?_
  refine lv_iconst (v := nI 4) hx hb dX6_init_92 (by decide) ?_
  refine lv_iconst (v := -1) hx hb dX6_init_93 (by decide) ?_
  refine ct_ast (i0 := 4) hx hb hK (by decide) (by decide) dX6_init_94 hP hD hS (fun H locs hP hD hS => ?_)
  refine lv_dup hx hb dX6_init_95 rfl ?_
  refine lv_iconst (v := nI 5) hx hb dX6_init_96 (by decide) ?_
  refine lv_iconst (v := -1) hx hb dX6_init_97 (by decide) ?_
  refine ct_ast (i0 := 5) hx hb hK (by decide) (by decide) dX6_init_98 hP hD hS (fun H locs hP hD hS => ?_)
  refine va_putF (ci := 6) (v := .ref q6) (ty := .array .int) (C := RX6) (T := TX6) (N := 12) (ref := RX6) hx hb hts mm_uw6 tyX6 tyX6_ok nmX6 hown hK hP hD hS 0 rfl rfl 6 (by decide) (hts _ (mm_t1 (mm_tq4 (List.mem_of_getElem? (i := 228) rfl)) rfl)) (fun _ h9 => h9) rfl hin rfl (tyX6_ok 6 (by decide)) rfl rfl (Nat.le_of_ble_eq_true rfl) dX6_init_99 (fun H locs hP hD hS => ?_)
  have hP : va_P D vwCl ((h0, .inr (6, [.int (nI 0), .ref q1, .ref q2, .ref q3, .ref q4, .ref q5, .ref q6, .int (nI 0), .long (nI 0).toInt64, .null, .null, .null])) :: [(q1, .inl (cA 0, 1786, .inl (fun _ => nI 0))), (q2, .inl (cA 0, 1786, .inl (fun _ => nI 0))), (q3, .inl (cA 0, 3572, .inl (fun _ => nI 0))), (q4, .inl (cA 1, 2, .inl (fun _ => nI 0))), (q5, .inl (cA 0, 6, .inl stFx)), (q6, .inl (cA 0, 6, .inl stFy))]) H := hP
  have hD : va_D A ((h0, .inr (6, [.int (nI 0), .ref q1, .ref q2, .ref q3, .ref q4, .ref q5, .ref q6, .int (nI 0), .long (nI 0).toInt64, .null, .null, .null])) :: [(q1, .inl (cA 0, 1786, .inl (fun _ => nI 0))), (q2, .inl (cA 0, 1786, .inl (fun _ => nI 0))), (q3, .inl (cA 0, 3572, .inl (fun _ => nI 0))), (q4, .inl (cA 1, 2, .inl (fun _ => nI 0))), (q5, .inl (cA 0, 6, .inl stFx)), (q6, .inl (cA 0, 6, .inl stFy))]) := hD
  refine lv_aload_n hx hb dX6_init_102 rfl (lv_at hl 0 rfl) ?_
  refine lv_bipush (v := nI 48) hx hb dX6_init_103 (by decide) ?_
  refine ct_arr (ci := 6) (k := 9) (ty0 := tyX6) hx hb hts hown hin hK hA rfl mm_uw6 tyX6_ok nmX6 (by decide) (mm_t1 (mm_tq4 (List.mem_of_getElem? (i := 231) rfl)) rfl) rfl rfl rfl (Nat.le_of_ble_eq_true rfl) (by decide) ⟨Nat.le_of_ble_eq_true rfl, Nat.le_of_ble_eq_true rfl⟩ dX6_init_105 dX6_init_107 hP hD hS (fun q7 H locs hP hD hS => ?_)
  refine lv_aload_n hx hb dX6_init_110 rfl (lv_at hl 0 rfl) ?_
  refine lv_sipush (v := nI 1200) hx hb dX6_init_111 (by decide) ?_
  refine ct_arr (ci := 6) (k := 10) (ty0 := tyX6) hx hb hts hown hin hK hA rfl mm_uw6 tyX6_ok nmX6 (by decide) (mm_t1 (mm_tq4 (List.mem_of_getElem? (i := 232) rfl)) rfl) rfl rfl rfl (Nat.le_of_ble_eq_true rfl) (by decide) ⟨Nat.le_of_ble_eq_true rfl, Nat.le_of_ble_eq_true rfl⟩ dX6_init_114 dX6_init_116 hP hD hS (fun q8 H locs hP hD hS => ?_)
  refine lv_aload_n hx hb dX6_init_119 rfl (lv_at hl 0 rfl) ?_
  refine lv_bipush (v := nI 48) hx hb dX6_init_120 (by decide) ?_
  refine ct_arr (ci := 6) (k := 11) (ty0 := tyX6) hx hb hts hown hin hK hA rfl mm_uw6 tyX6_ok nmX6 (by decide) (mm_t1 (mm_tq4 (List.mem_of_getElem? (i := 233) rfl)) rfl) rfl rfl rfl (Nat.le_of_ble_eq_true rfl) (by decide) ⟨Nat.le_of_ble_eq_true rfl, Nat.le_of_ble_eq_true rfl⟩ dX6_init_122 dX6_init_124 hP hD hS (fun q9 H locs hP hD hS => ?_)
  have hP : va_P D vwCl ((h0, .inr (6, [.int (nI 0), .ref q1, .ref q2, .ref q3, .ref q4, .ref q5, .ref q6, .int (nI 0), .long (nI 0).toInt64, .ref q7, .ref q8, .ref q9])) :: [(q1, .inl (cA 0, 1786, .inl (fun _ => nI 0))), (q2, .inl (cA 0, 1786, .inl (fun _ => nI 0))), (q3, .inl (cA 0, 3572, .inl (fun _ => nI 0))), (q4, .inl (cA 1, 2, .inl (fun _ => nI 0))), (q5, .inl (cA 0, 6, .inl stFx)), (q6, .inl (cA 0, 6, .inl stFy)), (q7, .inl (cA 0, 48, .inl (fun _ => nI 0))), (q8, .inl (cA 0, 1200, .inl (fun _ => nI 0))), (q9, .inl (cA 0, 48, .inl (fun _ => nI 0)))]) H := hP
  have hD : va_D A ((h0, .inr (6, [.int (nI 0), .ref q1, .ref q2, .ref q3, .ref q4, .ref q5, .ref q6, .int (nI 0), .long (nI 0).toInt64, .ref q7, .ref q8, .ref q9])) :: [(q1, .inl (cA 0, 1786, .inl (fun _ => nI 0))), (q2, .inl (cA 0, 1786, .inl (fun _ => nI 0))), (q3, .inl (cA 0, 3572, .inl (fun _ => nI 0))), (q4, .inl (cA 1, 2, .inl (fun _ => nI 0))), (q5, .inl (cA 0, 6, .inl stFx)), (q6, .inl (cA 0, 6, .inl stFy)), (q7, .inl (cA 0, 48, .inl (fun _ => nI 0))), (q8, .inl (cA 0, 1200, .inl (fun _ => nI 0))), (q9, .inl (cA 0, 48, .inl (fun _ => nI 0)))]) := hD
  refine lv_aload_n hx hb dX6_init_127 rfl (lv_at hl 0 rfl) ?_
  refine va_get (ci := 6) (v := .ref q1) (C := RX6) (T := TX6) (N := 12) (ref := RX6) hx hb hts mm_uw6 hown hK hP 0 rfl rfl 1 (by decide) (hts _ (mm_t1 (mm_tq4 (List.mem_of_getElem? (i := 223) rfl)) rfl)) (fun _ h9 => h9) rfl dX6_init_128 ?_
  refine lv_iconst (v := nI 2) hx hb dX6_init_131 (by decide) ?_
  refine lv_iconst (v := nI 1) hx hb dX6_init_132 (by decide) ?_
  have hP : va_P D vwCl ([(h0, .inr (6, [.int (nI 0), .ref q1, .ref q2, .ref q3, .ref q4, .ref q5, .ref q6, .int (nI 0), .long (nI 0).toInt64, .ref q7, .ref q8, .ref q9]))] ++ (q1, .inl (cA 0, 1786, .inl (fun _ => nI 0))) :: [(q2, .inl (cA 0, 1786, .inl (fun _ => nI 0))), (q3, .inl (cA 0, 3572, .inl (fun _ => nI 0))), (q4, .inl (cA 1, 2, .inl (fun _ => nI 0))), (q5, .inl (cA 0, 6, .inl stFx)), (q6, .inl (cA 0, 6, .inl stFy)), (q7, .inl (cA 0, 48, .inl (fun _ => nI 0))), (q8, .inl (cA 0, 1200, .inl (fun _ => nI 0))), (q9, .inl (cA 0, 48, .inl (fun _ => nI 0)))]) H := hP
  have hD : va_D A ([(h0, .inr (6, [.int (nI 0), .ref q1, .ref q2, .ref q3, .ref q4, .ref q5, .ref q6, .int (nI 0), .long (nI 0).toInt64, .ref q7, .ref q8, .ref q9]))] ++ (q1, .inl (cA 0, 1786, .inl (fun _ => nI 0))) :: [(q2, .inl (cA 0, 1786, .inl (fun _ => nI 0))), (q3, .inl (cA 0, 3572, .inl (fun _ => nI 0))), (q4, .inl (cA 1, 2, .inl (fun _ => nI 0))), (q5, .inl (cA 0, 6, .inl stFx)), (q6, .inl (cA 0, 6, .inl stFy)), (q7, .inl (cA 0, 48, .inl (fun _ => nI 0))), (q8, .inl (cA 0, 1200, .inl (fun _ => nI 0))), (q9, .inl (cA 0, 48, .inl (fun _ => nI 0)))]) := hD
  refine ct_ast (i0 := 2) hx hb hK (by decide) (by decide) dX6_init_133 hP hD hS (fun H locs hP hD hS => ?_)
  have hP : va_P D vwCl (mm_w 10 (fun a => [h0, q1, q2, q3, q4, q5, q6, q7, q8, q9].getD a 0) cA (shL (moL 0)) μM0 ++ []) H := hP
  have hD : va_D A (mm_w 10 (fun a => [h0, q1, q2, q3, q4, q5, q6, q7, q8, q9].getD a 0) cA (shL (moL 0)) μM0 ++ []) := hD
  refine lv_aload_n hx hb dX6_init_134 rfl (lv_at hl 0 rfl) ?_
  refine lv_iconst (v := nI 4) hx hb dX6_init_135 (by decide) ?_
  refine lv_iconst (v := nI 4) hx hb dX6_init_136 (by decide) ?_
  refine mm_goV (own := RX6) (idx := 40) (z := zX6_lay) (a := 0) (as := [.int (nI 4), .int (nI 4)]) (rest := []) (ρ := fun a => [h0, q1, q2, q3, q4, q5, q6, q7, q8, q9].getD a 0) (σ := σ) ⟨hx, hb, hml, hts, hown, hK, hA, hZ⟩ (mm_LK.vk lk6_40) svM (m_lay shM_ok stM (w := 4) (h := 4) (by omega) (by omega) (by omega) (by omega)) rfl rfl rfl (by decide) ⟨by decide, by decide⟩ ⟨Nat.le_of_ble_eq_true rfl, Nat.le_of_ble_eq_true rfl⟩ hl.1 (Nat.le_of_ble_eq_true rfl) dX6_init_137 hP hD hS (fun r μ' H1 locs1 hq hP hD hS => ?_)
  obtain ⟨rfl, F1, L⟩ := hq
  rw [List.append_nil] at hP hD
  have m0 : μ' 0 = μM0 0 := F1 0 (by omega)
  have m7 : μ' 0 7 = nI 0 := by rw [m0]; rfl
  have facts : RepM (fBg sI 4 4) μ' 0 ∧ μ' 0 7 = nI 0 ∧ StA μ' 0 ∧ KeR (fun _ => none) μ' 0 := by
    refine ⟨⟨L.mer (by omega) (by omega) (by omega) (by omega), ?_⟩, m7, ⟨fun k hk => ?_, fun k hk => ?_⟩, KeR.mk (fun j _ => ?_) (fun j t q => ?_)⟩
    · rw [m7]
      refine L.otr (s := sI) rfl (fun k hk => ?_)
      have : k = 0 ∨ k = 1 ∨ k = 2 ∨ k = 3 := by omega
      rcases this with rfl | rfl | rfl | rfl <;> rfl
    · rw [F1 (0 + 5) (by omega)]
      exact stM.1 k hk
    · rw [F1 (0 + 6) (by omega)]
      exact stM.2 k hk
    · rw [F1 (0 + 4) (by omega)]
      rfl
    · cases q
  refine W.widen (k := 9) (n := 8454) (Nat.le_of_ble_eq_true rfl) (Nat.le_of_ble_eq_true rfl) ?_
  exact W.vret hx hb hr (fun t ht hW => ⟨⟨((fun a => [h0, q1, q2, q3, q4, q5, q6, q7, q8, q9].getD a 0), μ'), rfl, ⟨rfl, facts⟩, by rw [ht]; exact hP, va_K.moved hW.alike hK, by rw [hAe]; exact hD⟩, by rw [hAe]; exact hS.F ht⟩) hS.2.2 dX6_init_140
