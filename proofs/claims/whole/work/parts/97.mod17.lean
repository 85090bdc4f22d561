section MEX
variable {M N : Ms} {r : Nat → Int32} {D : Nat → Prop}
/-- a row that holds a mesh but for some places -/
def MeX (M : Ms) (r : Nat → Int32) (D : Nat → Prop) : Prop := ∃ r', MeR M r' ∧ ∀ x, ¬ D x → r' x = r x
theorem MeR.mex (A : MeR M r) : MeX M r (fun _ => False) := ⟨r, A, fun _ _ => rfl⟩
theorem MeX.fin (A : MeX M r D) (h : ∀ x, ¬ D x) : MeR M r := by
  obtain ⟨r', A, e⟩ := A
  have : r' = r := funext (fun x => e x (h x))
  rw [← this]
  exact A
theorem MeX.w (A : MeX M r D) (k : Nat) (v : Int32) {D' : Nat → Prop} (h : ∀ r', MeR M r' → MeR N (upd r' k v)) (hd : ∀ x, D x → x ≠ k → D' x) : MeX N (upd r k v) D' := by
  obtain ⟨r', A, e⟩ := A
  refine ⟨upd r' k v, h r' A, fun x hx => ?_⟩
  by_cases z : x = k
  · rw [z, upd_s, upd_s]
  · rw [upd_n _ _ z, upd_n _ _ z]
    exact e x (fun d => hx (hd x d z))
theorem MeX.g (A : MeX M r D) (k : Nat) (v : Int32) {D' : Nat → Prop} (h : ∀ r', MeR M r' → MeR N (upd r' k v)) (hd : ∀ x, D x → D' x) (hk : D' k) : MeX N r D' := by
  obtain ⟨r', A, e⟩ := A
  refine ⟨upd r' k v, h r' A, fun x hx => ?_⟩
  rw [upd_n _ _ (fun z => hx (by rw [z]; exact hk))]
  exact e x (fun d => hx (hd x d))
theorem MeX.mono (A : MeX M r D) {D' : Nat → Prop} (hd : ∀ x, D x → D' x) : MeX M r D' := by
  obtain ⟨r', A, e⟩ := A
  exact ⟨r', A, fun x hx => e x (fun d => hx (hd x d))⟩
/-- the places of halves (and of one cell's area) -/
def DX (XN XP XO XR XQ : Hf → Prop) (XA : Ce → Prop) (x : Nat) : Prop := (∃ h : Hf, XN h ∧ x = 16 + h.val) ∨ (∃ h : Hf, XP h ∧ x = 304 + h.val) ∨ (∃ h : Hf, XO h ∧ x = 592 + h.val) ∨ (∃ h : Hf, XR h ∧ x = 880 + h.val) ∨ (∃ h : Hf, XQ h ∧ x = 1168 + h.val) ∨ ∃ c : Ce, XA c ∧ x = 1600 + c.val
variable {XN XP XO XR XQ : Hf → Prop} {XA : Ce → Prop}
theorem DX_n {h : Hf} (hx : ¬ XN h) : ¬ DX XN XP XO XR XQ XA (16 + h.val) := by
  rintro (⟨k, z, e⟩ | ⟨k, z, e⟩ | ⟨k, z, e⟩ | ⟨k, z, e⟩ | ⟨k, z, e⟩ | ⟨k, z, e⟩)
  · exact hx (by rw [show h = k from Fin.ext (by omega)]; exact z)
  all_goals omega
theorem DX_p {h : Hf} (hx : ¬ XP h) : ¬ DX XN XP XO XR XQ XA (304 + h.val) := by
  rintro (⟨k, z, e⟩ | ⟨k, z, e⟩ | ⟨k, z, e⟩ | ⟨k, z, e⟩ | ⟨k, z, e⟩ | ⟨k, z, e⟩)
  · omega
  · exact hx (by rw [show h = k from Fin.ext (by omega)]; exact z)
  all_goals omega
theorem DX_o {h : Hf} (hx : ¬ XO h) : ¬ DX XN XP XO XR XQ XA (592 + h.val) := by
  rintro (⟨k, z, e⟩ | ⟨k, z, e⟩ | ⟨k, z, e⟩ | ⟨k, z, e⟩ | ⟨k, z, e⟩ | ⟨k, z, e⟩)
  · omega
  · omega
  · exact hx (by rw [show h = k from Fin.ext (by omega)]; exact z)
  all_goals omega
theorem DX_r {h : Hf} (hx : ¬ XR h) : ¬ DX XN XP XO XR XQ XA (880 + h.val) := by
  rintro (⟨k, z, e⟩ | ⟨k, z, e⟩ | ⟨k, z, e⟩ | ⟨k, z, e⟩ | ⟨k, z, e⟩ | ⟨k, z, e⟩)
  · omega
  · omega
  · omega
  · exact hx (by rw [show h = k from Fin.ext (by omega)]; exact z)
  all_goals omega
theorem DX_q {h : Hf} (hx : ¬ XQ h) : ¬ DX XN XP XO XR XQ XA (1168 + h.val) := by
  rintro (⟨k, z, e⟩ | ⟨k, z, e⟩ | ⟨k, z, e⟩ | ⟨k, z, e⟩ | ⟨k, z, e⟩ | ⟨k, z, e⟩)
  · omega
  · omega
  · omega
  · omega
  · exact hx (by rw [show h = k from Fin.ext (by omega)]; exact z)
  · omega
theorem DX_a {c : Ce} (hx : ¬ XA c) : ¬ DX XN XP XO XR XQ XA (1600 + c.val) := by
  rintro (⟨k, z, e⟩ | ⟨k, z, e⟩ | ⟨k, z, e⟩ | ⟨k, z, e⟩ | ⟨k, z, e⟩ | ⟨k, z, e⟩)
  · omega
  · omega
  · omega
  · omega
  · omega
  · exact hx (by rw [show c = k from Fin.ext (by omega)]; exact z)
theorem DX_l (w : Wa) : ¬ DX XN XP XO XR XQ XA (1456 + w.val) := by
  rintro (⟨k, z, e⟩ | ⟨k, z, e⟩ | ⟨k, z, e⟩ | ⟨k, z, e⟩ | ⟨k, z, e⟩ | ⟨k, z, e⟩)
  all_goals omega
theorem DX_s (c : Ce) : ¬ DX XN XP XO XR XQ XA (1648 + c.val) := by
  rintro (⟨k, z, e⟩ | ⟨k, z, e⟩ | ⟨k, z, e⟩ | ⟨k, z, e⟩ | ⟨k, z, e⟩ | ⟨k, z, e⟩)
  all_goals omega
theorem MeX.nx_ (A : MeX M r (DX XN XP XO XR XQ XA)) {h : Hf} (lh : LvH M h) (hx : ¬ XN h) : r (16 + h.val) = nI (nx M h).val := by
  obtain ⟨r', A, e⟩ := A
  rw [← e _ (DX_n hx)]; exact (A.1 h lh).1
theorem MeX.pv_ (A : MeX M r (DX XN XP XO XR XQ XA)) {h : Hf} (lh : LvH M h) (hx : ¬ XP h) : r (304 + h.val) = nI (pv M h).val := by
  obtain ⟨r', A, e⟩ := A
  rw [← e _ (DX_p hx)]; exact (A.1 h lh).2.1
theorem MeX.ow_ (A : MeX M r (DX XN XP XO XR XQ XA)) {h : Hf} (lh : LvH M h) (hx : ¬ XO h) : r (592 + h.val) = nI (ow M h).val := by
  obtain ⟨r', A, e⟩ := A
  rw [← e _ (DX_o hx)]; exact (A.1 h lh).2.2.1
theorem MeX.rx_ (A : MeX M r (DX XN XP XO XR XQ XA)) {h : Hf} (lh : LvH M h) (hx : ¬ XR h) : r (880 + h.val) = rx M h := by
  obtain ⟨r', A, e⟩ := A
  rw [← e _ (DX_r hx)]; exact (A.1 h lh).2.2.2.1
theorem MeX.ry_ (A : MeX M r (DX XN XP XO XR XQ XA)) {h : Hf} (lh : LvH M h) (hx : ¬ XQ h) : r (1168 + h.val) = ry M h := by
  obtain ⟨r', A, e⟩ := A
  rw [← e _ (DX_q hx)]; exact (A.1 h lh).2.2.2.2
theorem MeX.ln_ (A : MeX M r (DX XN XP XO XR XQ XA)) (w : Wa) : r (1456 + w.val) = if lv M w = true then ln M w else -1 := by
  obtain ⟨r', A, e⟩ := A
  rw [← e _ (DX_l w)]; exact A.2.1 w
theorem MeX.sd_ (A : MeX M r (DX XN XP XO XR XQ XA)) (c : Ce) : r (1648 + c.val) = nI (sd M c) := by
  obtain ⟨r', A, e⟩ := A
  rw [← e _ (DX_s c)]; exact A.2.2.1 c
theorem MeX.ar_ (A : MeX M r (DX XN XP XO XR XQ XA)) {c : Ce} (hc : 0 < sd M c) (hx : ¬ XA c) : r (1600 + c.val) = ar M c := by
  obtain ⟨r', A, e⟩ := A
  rw [← e _ (DX_a hx)]; exact A.2.2.2 c hc
theorem MeX.wNx (A : MeX M r (DX XN XP XO XR XQ XA)) (h v : Hf) : MeX (sNx M h v) (upd r (16 + h.val) (nI v.val)) (DX (fun k => XN k ∧ k ≠ h) XP XO XR XQ XA) := A.w _ _ (fun _ A => A.wNx h v) (fun x d n => by
  rcases d with ⟨k, z, e⟩ | d
  · exact Or.inl ⟨k, ⟨z, fun q => n (by rw [e, q])⟩, e⟩
  · exact Or.inr d)
theorem MeX.wPv (A : MeX M r (DX XN XP XO XR XQ XA)) (h v : Hf) : MeX (sPv M h v) (upd r (304 + h.val) (nI v.val)) (DX XN (fun k => XP k ∧ k ≠ h) XO XR XQ XA) := A.w _ _ (fun _ A => A.wPv h v) (fun x d n => by
  rcases d with d | ⟨k, z, e⟩ | d
  · exact Or.inl d
  · exact Or.inr (Or.inl ⟨k, ⟨z, fun q => n (by rw [e, q])⟩, e⟩)
  · exact Or.inr (Or.inr d))
theorem MeX.wOw (A : MeX M r (DX XN XP XO XR XQ XA)) (h : Hf) (v : Ce) : MeX (sOw M h v) (upd r (592 + h.val) (nI v.val)) (DX XN XP (fun k => XO k ∧ k ≠ h) XR XQ XA) := A.w _ _ (fun _ A => A.wOw h v) (fun x d n => by
  rcases d with d | d | ⟨k, z, e⟩ | d
  · exact Or.inl d
  · exact Or.inr (Or.inl d)
  · exact Or.inr (Or.inr (Or.inl ⟨k, ⟨z, fun q => n (by rw [e, q])⟩, e⟩))
  · exact Or.inr (Or.inr (Or.inr d)))
theorem MeX.wRx (A : MeX M r (DX XN XP XO XR XQ XA)) (h : Hf) (v : Int32) : MeX (sRx M h v) (upd r (880 + h.val) v) (DX XN XP XO (fun k => XR k ∧ k ≠ h) XQ XA) := A.w _ _ (fun _ A => A.wRx h v) (fun x d n => by
  rcases d with d | d | d | ⟨k, z, e⟩ | d
  · exact Or.inl d
  · exact Or.inr (Or.inl d)
  · exact Or.inr (Or.inr (Or.inl d))
  · exact Or.inr (Or.inr (Or.inr (Or.inl ⟨k, ⟨z, fun q => n (by rw [e, q])⟩, e⟩)))
  · exact Or.inr (Or.inr (Or.inr (Or.inr d))))
theorem MeX.wRy (A : MeX M r (DX XN XP XO XR XQ XA)) (h : Hf) (v : Int32) : MeX (sRy M h v) (upd r (1168 + h.val) v) (DX XN XP XO XR (fun k => XQ k ∧ k ≠ h) XA) := A.w _ _ (fun _ A => A.wRy h v) (fun x d n => by
  rcases d with d | d | d | d | ⟨k, z, e⟩ | d
  · exact Or.inl d
  · exact Or.inr (Or.inl d)
  · exact Or.inr (Or.inr (Or.inl d))
  · exact Or.inr (Or.inr (Or.inr (Or.inl d)))
  · exact Or.inr (Or.inr (Or.inr (Or.inr (Or.inl ⟨k, ⟨z, fun q => n (by rw [e, q])⟩, e⟩))))
  · exact Or.inr (Or.inr (Or.inr (Or.inr (Or.inr d)))))
theorem MeX.wAr (A : MeX M r (DX XN XP XO XR XQ XA)) (c : Ce) (v : Int32) : MeX (sAr M c v) (upd r (1600 + c.val) v) (DX XN XP XO XR XQ (fun k => XA k ∧ k ≠ c)) := A.w _ _ (fun _ A => A.wAr c v) (fun x d n => by
  rcases d with d | d | d | d | d | ⟨k, z, e⟩
  · exact Or.inl d
  · exact Or.inr (Or.inl d)
  · exact Or.inr (Or.inr (Or.inl d))
  · exact Or.inr (Or.inr (Or.inr (Or.inl d)))
  · exact Or.inr (Or.inr (Or.inr (Or.inr (Or.inl d))))
  · exact Or.inr (Or.inr (Or.inr (Or.inr (Or.inr ⟨k, ⟨z, fun q => n (by rw [e, q])⟩, e⟩)))))
theorem MeX.wSd (A : MeX M r (DX XN XP XO XR XQ XA)) (c : Ce) (v : Nat) (hc : 0 < sd M c) : MeX (sSd M c v) (upd r (1648 + c.val) (nI v)) (DX XN XP XO XR XQ XA) := A.w _ _ (fun r' A => A.wSd c v (fun _ => A.2.2.2 c hc)) (fun _ d _ => d)
/-- a cell that comes: its area is not known yet -/
theorem MeX.wSdN (A : MeX M r (DX XN XP XO XR XQ XA)) (c : Ce) (v : Nat) (x : Int32) : MeX (sSd (sAr M c x) c v) (upd r (1648 + c.val) (nI v)) (DX XN XP XO XR XQ (fun k => XA k ∨ k = c)) := by
  have A1 : MeX (sAr M c x) r (DX XN XP XO XR XQ (fun k => XA k ∨ k = c)) := A.g (1600 + c.val) x (fun _ A => A.wAr c x) (fun y d => by
    rcases d with d | d | d | d | d | ⟨k, z, e⟩
    · exact Or.inl d
    · exact Or.inr (Or.inl d)
    · exact Or.inr (Or.inr (Or.inl d))
    · exact Or.inr (Or.inr (Or.inr (Or.inl d)))
    · exact Or.inr (Or.inr (Or.inr (Or.inr (Or.inl d))))
    · exact Or.inr (Or.inr (Or.inr (Or.inr (Or.inr ⟨k, Or.inl z, e⟩))))) (Or.inr (Or.inr (Or.inr (Or.inr (Or.inr ⟨c, Or.inr rfl, rfl⟩)))))
  obtain ⟨r', B, e⟩ := A
  refine ⟨upd (upd r' (1600 + c.val) x) (1648 + c.val) (nI v), (B.wAr c x).wSd c v (fun _ => ?_), fun y hy => ?_⟩
  · rw [upd_s]
    exact (fu_s _ _ _).symm
  · by_cases z : y = 1648 + c.val
    · rw [z, upd_s, upd_s]
    · rw [upd_n _ _ z, upd_n _ _ z, upd_n _ _ (fun q => hy (Or.inr (Or.inr (Or.inr (Or.inr (Or.inr ⟨c, Or.inr rfl, q⟩))))))]
      refine e y (fun d => hy ?_)
      rcases d with d | d | d | d | d | ⟨k, z, e⟩
      · exact Or.inl d
      · exact Or.inr (Or.inl d)
      · exact Or.inr (Or.inr (Or.inl d))
      · exact Or.inr (Or.inr (Or.inr (Or.inl d)))
      · exact Or.inr (Or.inr (Or.inr (Or.inr (Or.inl d))))
      · exact Or.inr (Or.inr (Or.inr (Or.inr (Or.inr ⟨k, Or.inl z, e⟩))))
theorem MeX.wLn (A : MeX M r (DX XN XP XO XR XQ XA)) (w : Wa) (v : Int32) (hw : lv M w = true) : MeX (sLn M w v) (upd r (1456 + w.val) v) (DX XN XP XO XR XQ XA) := A.w _ _ (fun _ A => A.wLn w v hw) (fun _ d _ => d)
/-- a row in which a half says what the mesh says -/
def pat (M : Ms) (h : Hf) (r : Nat → Int32) : Nat → Int32 := upd (upd (upd (upd (upd r (16 + h.val) (nI (nx M h).val)) (304 + h.val) (nI (pv M h).val)) (592 + h.val) (nI (ow M h).val)) (880 + h.val) (rx M h)) (1168 + h.val) (ry M h)
theorem pat_n {h : Hf} {x : Nat} (e1 : x ≠ 16 + h.val) (e2 : x ≠ 304 + h.val) (e3 : x ≠ 592 + h.val) (e4 : x ≠ 880 + h.val) (e5 : x ≠ 1168 + h.val) : pat M h r x = r x := by
  unfold pat
  rw [upd_n _ _ e5, upd_n _ _ e4, upd_n _ _ e3, upd_n _ _ e2, upd_n _ _ e1]
theorem pat_s (h : Hf) : pat M h r (16 + h.val) = nI (nx M h).val ∧ pat M h r (304 + h.val) = nI (pv M h).val ∧ pat M h r (592 + h.val) = nI (ow M h).val ∧ pat M h r (880 + h.val) = rx M h ∧ pat M h r (1168 + h.val) = ry M h := by
  unfold pat
  refine ⟨?_, ?_, ?_, ?_, ?_⟩
  · rw [upd_n _ _ (by omega), upd_n _ _ (by omega), upd_n _ _ (by omega), upd_n _ _ (by omega), upd_s]
  · rw [upd_n _ _ (by omega), upd_n _ _ (by omega), upd_n _ _ (by omega), upd_s]
  · rw [upd_n _ _ (by omega), upd_n _ _ (by omega), upd_s]
  · rw [upd_n _ _ (by omega), upd_s]
  · rw [upd_s]
/-- a wall comes: what its halves' places hold is not known yet -/
theorem MeX.new (A : MeX M r (DX XN XP XO XR XQ XA)) (j : Wa) (v : Int32) : MeX (sLn (sLv M j true) j v) (upd r (1456 + j.val) v) (DX (fun k => XN k ∨ wl k = j) (fun k => XP k ∨ wl k = j) (fun k => XO k ∨ wl k = j) (fun k => XR k ∨ wl k = j) (fun k => XQ k ∨ wl k = j) XA) := by
  obtain ⟨r', A, e⟩ := A
  have ne : (h1 j).val ≠ (h0 j).val := by unfold h1 h0; simp only; omega
  refine ⟨upd (pat M (h1 j) (pat M (h0 j) r')) (1456 + j.val) v, ⟨fun g lg => ?_, fun w => ?_, fun c => ?_, fun c hc => ?_⟩, fun x hx => ?_⟩
  · have b := (h1 j).isLt
    rw [upd_n _ _ (by omega), upd_n _ _ (by omega), upd_n _ _ (by omega), upd_n _ _ (by omega), upd_n _ _ (by omega)]
    by_cases z : wl g = j
    · rcases wl2 g j z with z | z
      · rw [z]
        have b0 := (h0 j).isLt
        rw [pat_n (h := h1 j) (by omega) (by omega) (by omega) (by omega) (by omega), pat_n (h := h1 j) (by omega) (by omega) (by omega) (by omega) (by omega), pat_n (h := h1 j) (by omega) (by omega) (by omega) (by omega) (by omega), pat_n (h := h1 j) (by omega) (by omega) (by omega) (by omega) (by omega), pat_n (h := h1 j) (by omega) (by omega) (by omega) (by omega) (by omega)]
        exact pat_s (h0 j)
      · rw [z]
        exact pat_s (h1 j)
    · have n0 : g.val ≠ (h0 j).val := fun q => z (by rw [show g = h0 j from Fin.ext q, wl_h0])
      have n1 : g.val ≠ (h1 j).val := fun q => z (by rw [show g = h1 j from Fin.ext q, wl_h1])
      have b0 := (h0 j).isLt
      have bg := g.isLt
      rw [pat_n (by omega) (by omega) (by omega) (by omega) (by omega), pat_n (by omega) (by omega) (by omega) (by omega) (by omega), pat_n (by omega) (by omega) (by omega) (by omega) (by omega), pat_n (by omega) (by omega) (by omega) (by omega) (by omega), pat_n (by omega) (by omega) (by omega) (by omega) (by omega)]
      rw [pat_n (by omega) (by omega) (by omega) (by omega) (by omega), pat_n (by omega) (by omega) (by omega) (by omega) (by omega), pat_n (by omega) (by omega) (by omega) (by omega) (by omega), pat_n (by omega) (by omega) (by omega) (by omega) (by omega), pat_n (by omega) (by omega) (by omega) (by omega) (by omega)]
      have lg : fu (lv M) j true (wl g) = true := lg
      rw [fu_n _ _ z] at lg
      exact A.1 g lg
  · show upd (pat M (h1 j) (pat M (h0 j) r')) (1456 + j.val) v (1456 + w.val) = if fu (lv M) j true w = true then fu (ln M) j v w else -1
    by_cases z : w = j
    · rw [z, upd_s, fu_s, fu_s, if_pos rfl]
    · have n0 : w.val ≠ j.val := fun q => z (Fin.ext q)
      have b0 := (h0 j).isLt
      have b := (h1 j).isLt
      rw [upd_n _ _ (by omega), fu_n _ _ z, fu_n _ _ z, pat_n (by omega) (by omega) (by omega) (by omega) (by omega), pat_n (by omega) (by omega) (by omega) (by omega) (by omega)]
      exact A.2.1 w
  · have b0 := (h0 j).isLt
    have b := (h1 j).isLt
    rw [upd_n _ _ (by omega), pat_n (by omega) (by omega) (by omega) (by omega) (by omega), pat_n (by omega) (by omega) (by omega) (by omega) (by omega)]
    exact A.2.2.1 c
  · have b0 := (h0 j).isLt
    have b := (h1 j).isLt
    rw [upd_n _ _ (by omega), pat_n (by omega) (by omega) (by omega) (by omega) (by omega), pat_n (by omega) (by omega) (by omega) (by omega) (by omega)]
    exact A.2.2.2 c hc
  · by_cases z : x = 1456 + j.val
    · rw [z, upd_s, upd_s]
    · rw [upd_n _ _ z, upd_n _ _ z]
      have w1 : wl (h1 j) = j := wl_h1 j
      have w0 : wl (h0 j) = j := wl_h0 j
      rw [pat_n (fun q => hx (Or.inl ⟨h1 j, Or.inr w1, q⟩)) (fun q => hx (Or.inr (Or.inl ⟨h1 j, Or.inr w1, q⟩))) (fun q => hx (Or.inr (Or.inr (Or.inl ⟨h1 j, Or.inr w1, q⟩)))) (fun q => hx (Or.inr (Or.inr (Or.inr (Or.inl ⟨h1 j, Or.inr w1, q⟩))))) (fun q => hx (Or.inr (Or.inr (Or.inr (Or.inr (Or.inl ⟨h1 j, Or.inr w1, q⟩)))))), pat_n (fun q => hx (Or.inl ⟨h0 j, Or.inr w0, q⟩)) (fun q => hx (Or.inr (Or.inl ⟨h0 j, Or.inr w0, q⟩))) (fun q => hx (Or.inr (Or.inr (Or.inl ⟨h0 j, Or.inr w0, q⟩)))) (fun q => hx (Or.inr (Or.inr (Or.inr (Or.inl ⟨h0 j, Or.inr w0, q⟩))))) (fun q => hx (Or.inr (Or.inr (Or.inr (Or.inr (Or.inl ⟨h0 j, Or.inr w0, q⟩))))))]
      refine e x (fun d => hx ?_)
      rcases d with ⟨k, z, e⟩ | ⟨k, z, e⟩ | ⟨k, z, e⟩ | ⟨k, z, e⟩ | ⟨k, z, e⟩ | d
      · exact Or.inl ⟨k, Or.inl z, e⟩
      · exact Or.inr (Or.inl ⟨k, Or.inl z, e⟩)
      · exact Or.inr (Or.inr (Or.inl ⟨k, Or.inl z, e⟩))
      · exact Or.inr (Or.inr (Or.inr (Or.inl ⟨k, Or.inl z, e⟩)))
      · exact Or.inr (Or.inr (Or.inr (Or.inr (Or.inl ⟨k, Or.inl z, e⟩))))
      · exact Or.inr (Or.inr (Or.inr (Or.inr (Or.inr d))))
end MEX
