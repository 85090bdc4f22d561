/-! ===== cycles ===== -/
def itn {α : Type} (f : α → α) : Nat → α → α
  | 0, a => a
  | k + 1, a => itn f k (f a)
theorem itn_s {α : Type} (f : α → α) : ∀ (k : Nat) (a : α), itn f (k + 1) a = f (itn f k a)
  | 0, _ => rfl
  | k + 1, a => itn_s f k (f a)
theorem itn_add {α : Type} (f : α → α) : ∀ (j k : Nat) (a : α), itn f (j + k) a = itn f k (itn f j a)
  | 0, k, a => by rw [Nat.zero_add]; rfl
  | j + 1, k, a => by
    rw [show j + 1 + k = (j + k) + 1 by omega]
    show itn f (j + k) (f a) = itn f k (itn f j (f a))
    exact itn_add f j k (f a)
theorem nxi_itn (M : Ms) : ∀ (k : Nat) (h : Hf), nxi M k h = itn (nx M) k h
  | 0, _ => rfl
  | k + 1, h => nxi_itn M k (nx M h)
def PP (L : Hf → Prop) (n p : Hf → Hf) : Prop := ∀ h, L h → L (n h) ∧ L (p h) ∧ n (p h) = h ∧ p (n h) = h
def Rc (n : Hf → Hf) (h g : Hf) : Prop := ∃ k, itn n k h = g
theorem Rc.refl (n : Hf → Hf) (h : Hf) : Rc n h h := ⟨0, rfl⟩
theorem Rc.step (n : Hf → Hf) (h : Hf) : Rc n h (n h) := ⟨1, rfl⟩
theorem Rc.trans {n : Hf → Hf} {h g k : Hf} (h1 : Rc n h g) (h2 : Rc n g k) : Rc n h k := by
  obtain ⟨a, ha⟩ := h1
  obtain ⟨b, hb⟩ := h2
  exact ⟨a + b, by rw [itn_add, ha, hb]⟩
def Cy (L : Hf → Prop) (n p : Hf → Hf) (o : Hf → Ce) : Prop := PP L n p ∧ (∀ h, L h → o (n h) = o h) ∧ ∀ h g, L h → L g → o g = o h → Rc n h g
theorem RcMap {L : Hf → Prop} {n m : Hf → Hf} (hL : ∀ h, L h → L (n h)) (hm : ∀ h, L h → Rc m h (n h)) {h g : Hf} (hl : L h) (r : Rc n h g) : Rc m h g := by
  obtain ⟨k, hk⟩ := r
  have key : ∀ k h, L h → Rc m h (itn n k h) := by
    intro k
    induction k with
    | zero => intro h _; exact Rc.refl _ _
    | succ k ih => intro h hl; exact (hm h hl).trans (ih (n h) (hL h hl))
  rw [← hk]
  exact key k h hl
section CYC
variable {L L' : Hf → Prop} {n p n' p' : Hf → Hf} {o o' : Hf → Ce}
theorem Cy.on (C : Cy L n p o) {h : Hf} (hl : L h) : o (n h) = o h := C.2.1 h hl
theorem Cy.op (C : Cy L n p o) {h : Hf} (hl : L h) : o (p h) = o h := by
  have := C.2.1 (p h) (C.1 h hl).2.1
  rw [(C.1 h hl).2.2.1] at this
  exact this.symm
theorem Cy.inj (C : Cy L n p o) {h g : Hf} (hl : L h) (gl : L g) (e : n h = n g) : h = g := by
  rw [← (C.1 h hl).2.2.2, ← (C.1 g gl).2.2.2, e]
theorem Cy.cg (C : Cy L n p o) (hL : ∀ h, L' h ↔ L h) (hn : ∀ h, L h → n' h = n h) (hp : ∀ h, L h → p' h = p h) (ho : ∀ h, L h → o' h = o h) : Cy L' n' p' o' := by
  refine ⟨fun h hl => ?_, fun h hl => ?_, fun h g hl gl e => ?_⟩
  · have hl := (hL h).mp hl
    obtain ⟨a, b, c, d⟩ := C.1 h hl
    rw [hn h hl, hp h hl]
    exact ⟨(hL _).mpr a, (hL _).mpr b, by rw [hn _ b]; exact c, by rw [hp _ a]; exact d⟩
  · have hl := (hL h).mp hl
    rw [hn h hl, ho _ (C.1 h hl).1, ho h hl]
    exact C.2.1 h hl
  · have hl := (hL h).mp hl
    have gl := (hL g).mp gl
    rw [ho h hl, ho g gl] at e
    exact RcMap (L := L) (fun h hl => (C.1 h hl).1) (fun h hl => by rw [← hn h hl]; exact Rc.step n' h) hl (C.2.2 h g hl gl e)
theorem Cy.un (C : Cy L n p o) {a : Hf} (ha : L a) (hn : n a ≠ a) : Cy (fun h => L h ∧ h ≠ a) (fu n (p a) (n a)) (fu p (n a) (p a)) o := by
  obtain ⟨a1, a2, a3, a4⟩ := C.1 a ha
  have hp : p a ≠ a := fun e => hn (by rw [e] at a3; exact a3)
  have n1 : ∀ h, L h → h ≠ a → fu n (p a) (n a) h ≠ a := by
    intro h hl hh e
    unfold fu at e
    split at e
    · exact hn e
    · rename_i z
      apply z
      rw [← (C.1 h hl).2.2.2, e]
  have p1 : ∀ h, L h → h ≠ a → fu p (n a) (p a) h ≠ a := by
    intro h hl hh e
    unfold fu at e
    split at e
    · exact hp e
    · rename_i z
      apply z
      rw [← (C.1 h hl).2.2.1, e]
  refine ⟨fun h hl => ?_, fun h hl => ?_, fun h g hl gl e => ?_⟩
  · obtain ⟨hl, hh⟩ := hl
    obtain ⟨b1, b2, b3, b4⟩ := C.1 h hl
    refine ⟨⟨?_, n1 h hl hh⟩, ⟨?_, p1 h hl hh⟩, ?_, ?_⟩
    · unfold fu
      split
      · exact a1
      · exact b1
    · unfold fu
      split
      · exact a2
      · exact b2
    · by_cases z : h = n a
      · rw [z, fu_s, fu_s]
      · rw [fu_n p _ z]
        have : p h ≠ p a := fun e => hh (by rw [← b3, e, a3])
        rw [fu_n n _ this]
        exact b3
    · by_cases z : h = p a
      · rw [z, fu_s, fu_s]
      · rw [fu_n n _ z]
        have : n h ≠ n a := fun e => hh (by rw [← b4, e, a4])
        rw [fu_n p _ this]
        exact b4
  · unfold fu
    split
    · rename_i z
      rw [z, C.on ha, C.op ha]
    · exact C.on hl.1
  · have key : ∀ k h, L h → h ≠ a → (itn n k h ≠ a → Rc (fu n (p a) (n a)) h (itn n k h)) ∧ (itn n k h = a → Rc (fu n (p a) (n a)) h (p a)) ∧ L (itn n k h) := by
      intro k
      induction k with
      | zero => intro h hl hh; exact ⟨fun _ => Rc.refl _ _, fun z => absurd z hh, hl⟩
      | succ k ih =>
        intro h hl hh
        obtain ⟨i1, i2, i3⟩ := ih h hl hh
        rw [itn_s]
        refine ⟨fun z => ?_, fun z => ?_, (C.1 _ i3).1⟩
        · by_cases y : itn n k h = a
          · rw [y]
            have := (i2 y).trans (Rc.step (fu n (p a) (n a)) (p a))
            rw [fu_s] at this
            exact this
          · have hx : itn n k h ≠ p a := fun q => z (by rw [q, a3])
            have := (i1 y).trans (Rc.step (fu n (p a) (n a)) (itn n k h))
            rw [fu_n n _ hx] at this
            exact this
        · have hx : itn n k h = p a := by rw [← (C.1 _ i3).2.2.2, z]
          have := i1 (fun q => hp (hx.symm.trans q))
          rw [hx] at this
          exact this
    obtain ⟨k, hk⟩ := C.2.2 h g hl.1 gl.1 e
    have := (key k h hl.1 hl.2).1
    rw [hk] at this
    exact this gl.2
theorem Cy.ins (C : Cy L n p o) {a t : Hf} (ha : ¬ L a) (ht : L t) : Cy (fun h => L h ∨ h = a) (fu (fu n t a) a (n t)) (fu (fu p a t) (n t) a) (fu o a (o t)) := by
  obtain ⟨t1, t2, t3, t4⟩ := C.1 t ht
  have ne : ∀ h, L h → h ≠ a := fun h hl e => ha (by rw [← e]; exact hl)
  have nA : fu (fu n t a) a (n t) a = n t := fu_s _ _ _
  have nT : fu (fu n t a) a (n t) t = a := by rw [fu_n _ _ (ne t ht), fu_s]
  have nO : ∀ h, L h → h ≠ t → fu (fu n t a) a (n t) h = n h := fun h hl z => by rw [fu_n _ _ (ne h hl), fu_n _ _ z]
  have pA : fu (fu p a t) (n t) a a = t := by rw [fu_n _ _ (fun e => ne _ t1 e.symm), fu_s]
  have pU : fu (fu p a t) (n t) a (n t) = a := fu_s _ _ _
  have pO : ∀ h, L h → h ≠ n t → fu (fu p a t) (n t) a h = p h := fun h hl z => by rw [fu_n _ _ z, fu_n _ _ (ne h hl)]
  have oA : fu o a (o t) a = o t := fu_s _ _ _
  have oO : ∀ h, L h → fu o a (o t) h = o h := fun h hl => fu_n _ _ (ne h hl)
  have m : ∀ h, L h → Rc (fu (fu n t a) a (n t)) h (n h) := by
    intro h hl
    by_cases z : h = t
    · rw [z]
      refine ⟨2, ?_⟩
      show fu (fu n t a) a (n t) (fu (fu n t a) a (n t) t) = n t
      rw [nT, nA]
    · rw [← nO h hl z]
      exact Rc.step _ _
  have mm : ∀ h g, L h → Rc n h g → Rc (fu (fu n t a) a (n t)) h g := fun h g hl r => RcMap (L := L) (fun h hl => (C.1 h hl).1) m hl r
  refine ⟨fun h hl => ?_, fun h hl => ?_, fun h g hl gl e => ?_⟩
  · rcases hl with hl | rfl
    · obtain ⟨b1, b2, b3, b4⟩ := C.1 h hl
      refine ⟨?_, ?_, ?_, ?_⟩
      · by_cases z : h = t
        · rw [z, nT]; exact Or.inr rfl
        · rw [nO h hl z]; exact Or.inl b1
      · by_cases z : h = n t
        · rw [z, pU]; exact Or.inr rfl
        · rw [pO h hl z]; exact Or.inl b2
      · by_cases z : h = n t
        · rw [z, pU, nA]
        · rw [pO h hl z, nO _ b2 (fun e => z (by rw [← e, b3]))]
          exact b3
      · by_cases z : h = t
        · rw [z, nT, pA]
        · rw [nO h hl z, pO _ b1 (fun e => z (C.inj hl ht e))]
          exact b4
    · rw [nA, pA]
      exact ⟨Or.inl t1, Or.inl ht, nT, pU⟩
  · rcases hl with hl | rfl
    · by_cases z : h = t
      · rw [z, nT, oA, oO t ht]
      · rw [nO h hl z, oO _ (C.1 h hl).1, oO h hl]
        exact C.on hl
    · rw [nA, oO _ t1, oA]
      exact C.on ht
  · rcases hl with hl | rfl
    · rcases gl with gl | rfl
      · rw [oO h hl, oO g gl] at e
        exact mm h g hl (C.2.2 h g hl gl e)
      · rw [oA, oO h hl] at e
        have r := mm h t hl (C.2.2 h t hl ht e)
        have := r.trans (Rc.step _ t)
        rw [nT] at this
        exact this
    · rcases gl with gl | rfl
      · rw [oA, oO g gl] at e
        have r := mm (n t) g t1 (C.2.2 (n t) g t1 gl (by rw [e, C.on ht]))
        have s := Rc.step (fu (fu n t h) h (n t)) h
        rw [nA] at s
        exact s.trans r
      · exact Rc.refl _ _
theorem Cy.res (C : Cy L n p o) (c : Ce) : Cy (fun h => L h ∧ o h ≠ c) n p o := by
  refine ⟨fun h hl => ?_, fun h hl => C.on hl.1, fun h g hl gl e => C.2.2 h g hl.1 gl.1 e⟩
  obtain ⟨b1, b2, b3, b4⟩ := C.1 h hl.1
  exact ⟨⟨b1, by rw [C.on hl.1]; exact hl.2⟩, ⟨b2, by rw [C.op hl.1]; exact hl.2⟩, b3, b4⟩
end CYC
/-! ===== counting ===== -/
def sm : Nat → (Nat → Nat) → Nat
  | 0, _ => 0
  | k + 1, f => sm k f + f k
theorem sm_congr {f g : Nat → Nat} : ∀ (n : Nat), (∀ j, j < n → f j = g j) → sm n f = sm n g
  | 0, _ => rfl
  | n + 1, h => by
    show sm n f + f n = sm n g + g n
    rw [sm_congr n (fun j hj => h j (by omega)), h n (by omega)]
theorem sm_upd {f g : Nat → Nat} {i : Nat} : ∀ (n : Nat), i < n → (∀ j, j < n → j ≠ i → f j = g j) → sm n f + g i = sm n g + f i
  | 0, h, _ => by omega
  | n + 1, h, e => by
    show sm n f + f n + g i = sm n g + g n + f i
    by_cases z : i = n
    · subst z
      have := sm_congr (f := f) (g := g) i (fun j hj => e j (by omega) (by omega))
      omega
    · have := sm_upd (f := f) (g := g) (i := i) n (by omega) (fun j hj => e j (by omega))
      have := e n (by omega) (fun q => z q.symm)
      omega
theorem sm_le {f : Nat → Nat} {b : Nat} : ∀ (n : Nat), (∀ j, j < n → f j ≤ b) → sm n f ≤ n * b
  | 0, _ => by show 0 ≤ _; omega
  | n + 1, h => by
    show sm n f + f n ≤ (n + 1) * b
    have := sm_le (f := f) (b := b) n (fun j hj => h j (by omega))
    have := h n (by omega)
    rw [Nat.add_mul]
    omega
theorem sm_pos {f : Nat → Nat} : ∀ (n : Nat), 0 < sm n f → ∃ j, j < n ∧ 0 < f j
  | 0, h => absurd h (Nat.lt_irrefl _)
  | n + 1, h => by
    by_cases z : 0 < f n
    · exact ⟨n, by omega, z⟩
    · have h' : 0 < sm n f + f n := h
      obtain ⟨j, hj, hf⟩ := sm_pos (f := f) n (by omega)
      exact ⟨j, by omega, hf⟩
theorem sm_ge {f : Nat → Nat} {i : Nat} : ∀ (n : Nat), i < n → f i ≤ sm n f
  | 0, h => by omega
  | n + 1, h => by
    show f i ≤ sm n f + f n
    by_cases z : i = n
    · rw [z]; omega
    · have := sm_ge (f := f) (i := i) n (by omega)
      omega
def b1 (p : Bool) : Nat := if p = true then 1 else 0
def cH (P : Hf → Bool) : Nat := sm 288 (fun i => b1 (P (hI i)))
theorem b1_le (p : Bool) : b1 p ≤ 1 := by unfold b1; split <;> omega
theorem cH_congr {P P' : Hf → Bool} (h : ∀ x, P x = P' x) : cH P = cH P' := by rw [show P = P' from funext h]
theorem cH_le (P : Hf → Bool) : cH P ≤ 288 := sm_le (b := 1) 288 (fun j _ => b1_le _)
theorem cH_upd {P P' : Hf → Bool} (a : Hf) (h : ∀ x, x ≠ a → P x = P' x) : cH P + b1 (P' a) = cH P' + b1 (P a) := by
  have := sm_upd (f := fun i => b1 (P (hI i))) (g := fun i => b1 (P' (hI i))) (i := a.val) 288 a.isLt (fun j hj hne => by
    show b1 (P (hI j)) = b1 (P' (hI j))
    rw [h (hI j) (fun e => hne (by rw [← e, hI_lt hj]))])
  rw [hI_val] at this
  exact this
theorem cH_add {P P' : Hf → Bool} (a : Hf) (h : ∀ x, x ≠ a → P x = P' x) (h0 : P a = false) (h1 : P' a = true) : cH P' = cH P + 1 := by
  have := cH_upd a h
  rw [h0, h1] at this
  have e1 : b1 true = 1 := rfl
  have e0 : b1 false = 0 := rfl
  omega
theorem cH_pos {P : Hf → Bool} (h : 0 < cH P) : ∃ x, P x = true := by
  obtain ⟨j, hj, hf⟩ := sm_pos 288 h
  refine ⟨hI j, ?_⟩
  cases e : P (hI j) with
  | true => rfl
  | false =>
    have hf : 0 < b1 (P (hI j)) := hf
    rw [e] at hf
    exact absurd hf (by decide)
theorem cH_ge {P : Hf → Bool} (a : Hf) (h : P a = true) : 1 ≤ cH P := by
  have := sm_ge (f := fun i => b1 (P (hI i))) (i := a.val) 288 a.isLt
  rw [hI_val, h] at this
  exact this
theorem cH_none {P : Hf → Bool} (h : ∀ x, P x = false) : cH P = 0 := by
  cases e : cH P with
  | zero => rfl
  | succ k =>
    obtain ⟨x, hx⟩ := cH_pos (P := P) (by omega)
    rw [h x] at hx
    cases hx
noncomputable def oP (n : Hf → Hf) (h : Hf) (k : Nat) (g : Hf) : Bool := @decide (∃ j, j < k ∧ itn n j h = g) (Classical.propDecidable _)
theorem oP_iff {n : Hf → Hf} {h : Hf} {k : Nat} {g : Hf} : oP n h k g = true ↔ ∃ j, j < k ∧ itn n j h = g := by
  unfold oP
  exact @decide_eq_true_iff _ (Classical.propDecidable _)
def Dst (n : Hf → Hf) (h : Hf) (k : Nat) : Prop := ∀ i j, i < j → j < k → itn n i h ≠ itn n j h
theorem oP_count {n : Hf → Hf} {h : Hf} : ∀ (k : Nat), Dst n h k → cH (oP n h k) = k
  | 0, _ => cH_none (fun x => by
      cases e : oP n h 0 x with
      | false => rfl
      | true => obtain ⟨j, hj, _⟩ := oP_iff.mp e; omega)
  | k + 1, D => by
    have ih := oP_count (n := n) (h := h) k (fun i j a b => D i j a (by omega))
    rw [cH_add (P := oP n h k) (P' := oP n h (k + 1)) (itn n k h), ih]
    · intro x hx
      cases e : oP n h k x with
      | true =>
        obtain ⟨j, hj, ej⟩ := oP_iff.mp e
        exact (oP_iff.mpr ⟨j, by omega, ej⟩).symm
      | false =>
        cases e' : oP n h (k + 1) x with
        | false => rfl
        | true =>
          obtain ⟨j, hj, ej⟩ := oP_iff.mp e'
          have : j < k := by
            have : j ≠ k := fun z => hx (by rw [← ej, z])
            omega
          rw [oP_iff.mpr ⟨j, this, ej⟩] at e
          cases e
    · cases e : oP n h k (itn n k h) with
      | false => rfl
      | true =>
        obtain ⟨j, hj, ej⟩ := oP_iff.mp e
        exact absurd ej (D j k hj (by omega))
    · exact oP_iff.mpr ⟨k, by omega, rfl⟩
theorem itn_mod {n : Hf → Hf} {h : Hf} {m : Nat} (e : itn n m h = h) (hm : 0 < m) : ∀ (q r : Nat), itn n (q * m + r) h = itn n r h
  | 0, r => by rw [Nat.zero_mul, Nat.zero_add]
  | q + 1, r => by
    rw [show (q + 1) * m + r = m + (q * m + r) by rw [Nat.add_mul]; omega, itn_add, e]
    exact itn_mod e hm q r
theorem Cy.lit {L : Hf → Prop} {n p : Hf → Hf} {o : Hf → Ce} (C : Cy L n p o) : ∀ (k : Nat) (h : Hf), L h → L (itn n k h) ∧ o (itn n k h) = o h
  | 0, h, hl => ⟨hl, rfl⟩
  | k + 1, h, hl => by
    have := Cy.lit C k (n h) (C.1 h hl).1
    exact ⟨this.1, this.2.trans (C.on hl)⟩
theorem Cy.itn_inj {L : Hf → Prop} {n p : Hf → Hf} {o : Hf → Ce} (C : Cy L n p o) : ∀ (k : Nat) (h g : Hf), L h → L g → itn n k h = itn n k g → h = g
  | 0, _, _, _, _, e => e
  | k + 1, h, g, hl, gl, e => C.inj hl gl (Cy.itn_inj C k (n h) (n g) (C.1 h hl).1 (C.1 g gl).1 e)
theorem Cy.per {L : Hf → Prop} {n p : Hf → Hf} {o : Hf → Ce} (C : Cy L n p o) (h : Hf) (hl : L h) : ∃ m, 0 < m ∧ itn n m h = h ∧ Dst n h m := by
  have key : ∀ k, 0 < k → Dst n h k ∨ ∃ m, 0 < m ∧ itn n m h = h ∧ Dst n h m := by
    intro k hk
    induction k with
    | zero => omega
    | succ k ih =>
      by_cases k0 : k = 0
      · subst k0
        exact Or.inl (fun i j a b => by omega)
      · rcases ih (by omega) with D | E
        · by_cases z : oP n h k (itn n k h) = true
          · obtain ⟨j, hj, ej⟩ := oP_iff.mp z
            have e : itn n (k - j) h = h := by
              refine (C.itn_inj j h _ hl (C.lit (k - j) h hl).1 ?_).symm
              rw [← itn_add, show k - j + j = k by omega]
              exact ej
            by_cases j0 : j = 0
            · subst j0
              exact Or.inr ⟨k, by omega, e, D⟩
            · exact absurd e.symm (D 0 (k - j) (by omega) (by omega))
          · refine Or.inl (fun i j a b e => ?_)
            by_cases jk : j = k
            · subst jk
              exact z (oP_iff.mpr ⟨i, a, e⟩)
            · exact D i j a (by omega) e
        · exact Or.inr E
  rcases key 289 (by decide) with D | E
  · have := oP_count 289 D
    have := cH_le (oP n h 289)
    omega
  · exact E
/-- a cell's halves, told from one on -/
theorem Cy.orb {L : Hf → Prop} {n p : Hf → Hf} {o : Hf → Ce} (C : Cy L n p o) (h : Hf) (hl : L h) (P : Hf → Bool) (hP : ∀ g, P g = true ↔ L g ∧ o g = o h) : 0 < cH P ∧ itn n (cH P) h = h ∧ Dst n h (cH P) ∧ ∀ g, L g → o g = o h → ∃ k, k < cH P ∧ itn n k h = g := by
  obtain ⟨m, m0, e, D⟩ := C.per h hl
  have all : ∀ g, L g → o g = o h → ∃ k, k < m ∧ itn n k h = g := by
    intro g gl eg
    obtain ⟨k, hk⟩ := C.2.2 h g hl gl eg
    refine ⟨k % m, Nat.mod_lt _ m0, ?_⟩
    have := itn_mod e m0 (k / m) (k % m)
    rw [Nat.mul_comm, Nat.div_add_mod, hk] at this
    exact this.symm
  have em : cH P = m := by
    rw [cH_congr (P' := oP n h m), oP_count m D]
    intro x
    cases eo : oP n h m x with
    | true =>
      obtain ⟨j, _, ej⟩ := oP_iff.mp eo
      have := C.lit j h hl
      rw [ej] at this
      exact (hP x).mpr this
    | false =>
      cases ep : P x with
      | false => rfl
      | true =>
        obtain ⟨a, b⟩ := (hP x).mp ep
        obtain ⟨k, hk, ek⟩ := all x a b
        rw [oP_iff.mpr ⟨k, hk, ek⟩] at eo
        cases eo
  rw [em]
  exact ⟨m0, e, D, all⟩
