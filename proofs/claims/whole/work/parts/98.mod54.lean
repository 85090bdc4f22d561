/-! ===== pieces ===== -/
section PCS
variable {M : Ms} {n : Int32}
def gdC (M : Ms) (n : Int32) (c : Ce) : Prop := 0 < sd M c ∧ ¬ nI (sd M c) < n
/-- linked through cells of enough sides -/
def Cn (M : Ms) (n : Int32) (u v : Ce) : Prop := ∀ S : Ce → Prop, S u → (∀ a b, S a → GrM M n a b → S b) → S v
theorem Cn.refl (u : Ce) : Cn M n u u := fun _ h _ => h
theorem Cn.step {u v w : Ce} (h : Cn M n u v) (g : GrM M n v w) : Cn M n u w := fun S h1 h2 => h2 v w (h S h1 h2) g
theorem Cn.trans {u v w : Ce} (h : Cn M n u v) (g : Cn M n v w) : Cn M n u w := g (Cn M n u) h (fun _ _ q e => q.step e)
theorem Inv.grgd (J : Inv M) {u v : Ce} (g : GrM M n u v) : gdC M n v := by
  obtain ⟨h, lh, _, rfl, q⟩ := g
  exact ⟨J.owl _ (LvH_tw.mpr lh), q⟩
theorem GrM.symm {u v : Ce} (g : GrM M n u v) (hu : gdC M n u) : GrM M n v u := by
  obtain ⟨h, lh, ou, ov, _⟩ := g
  exact ⟨tw h, LvH_tw.mpr lh, ov, by rw [tw_tw]; exact ou, hu.2⟩
theorem Inv.cngd (J : Inv M) {u v : Ce} (h : Cn M n u v) (hu : gdC M n u) : gdC M n v := h (gdC M n) hu (fun _ _ _ e => J.grgd e)
theorem Inv.cnsy (J : Inv M) {u v : Ce} (h : Cn M n u v) (hu : gdC M n u) : Cn M n v u := by
  refine (h (fun x => Cn M n x u ∧ gdC M n x) ⟨Cn.refl u, hu⟩ (fun a b q e => ⟨?_, J.grgd e⟩)).1
  exact ((Cn.refl b).step (e.symm q.2)).trans q.1
/-- each cell's number is the least of its piece -/
def PcO (M : Ms) (n : Int32) (p : Ce → Option Nat) : Prop := (∀ c, p c ≠ none ↔ gdC M n c) ∧ (∀ c l, p c = some l → l ≤ c.val ∧ Cn M n (cI l) c ∧ gdC M n (cI l)) ∧ (∀ u v, GrM M n u v → gdC M n u → p u = p v)
theorem PcO.cn (J : Inv M) {p : Ce → Option Nat} (P : PcO M n p) {u v : Ce} (h : Cn M n u v) (hu : gdC M n u) : p v = p u := (h (fun x => p x = p u ∧ gdC M n x) ⟨rfl, hu⟩ (fun a b q e => ⟨(P.2.2 a b e q.2).symm.trans q.1, J.grgd e⟩)).1
/-- how many have a number -/
def cnP (p : Ce → Option Nat) (i : Nat) : Nat := sm 48 (fun o => b1 (decide (p (cI o) = some i)))
theorem cnP_le (p : Ce → Option Nat) (i : Nat) : cnP p i ≤ 48 := by
  have := sm_le (f := fun o => b1 (decide (p (cI o) = some i))) (b := 1) 48 (fun j _ => b1_le _)
  unfold cnP
  omega
theorem len_cnt : ∀ (l : List Ce), l.Nodup → l.length = sm 48 (fun i => b1 (decide (cI i ∈ l)))
  | [], _ => by
    have : sm 48 (fun i => b1 (decide (cI i ∈ ([] : List Ce)))) ≤ 48 * 0 := sm_le 48 (fun j _ => by
      rw [decide_eq_false List.not_mem_nil]
      exact Nat.le_refl _)
    show 0 = _
    omega
  | a :: l, h => by
    obtain ⟨h1, h2⟩ := List.nodup_cons.mp h
    rw [List.length_cons, len_cnt l h2]
    refine (sm_rm _ _ a.val a.isLt (fun j hj ne => ?_) ?_ ?_).symm
    · have : cI j ≠ a := fun q => ne (by rw [← q, cI_lt hj])
      by_cases z : cI j ∈ l
      · rw [decide_eq_true z, decide_eq_true (List.mem_cons_of_mem _ z)]
      · rw [decide_eq_false z, decide_eq_false (fun q => (List.mem_cons.mp q).elim this z)]
    · rw [cI_val, decide_eq_true (List.mem_cons_self ..)]
      rfl
    · rw [cI_val, decide_eq_false h1]
      rfl
/-- what the first i cells' pieces are -/
def VsP (M : Ms) (n : Int32) (i : Nat) (d : Ce → Option Nat) : Prop := ∀ v, d v ≠ none ↔ ∃ j, j < i ∧ gdC M n (cI j) ∧ Cn M n (cI j) v
theorem Inv.piece (J : Inv M) {i : Nat} (hi : i < 48) {d : Ce → Option Nat} (V : VsP M n i d) (hg : gdC M n (cI i)) (hd : d (cI i) = none) : (spF M n (cI i) d).2.Nodup ∧ (∀ v, v ∈ (spF M n (cI i) d).2 ↔ Cn M n (cI i) v) ∧ VsP M n (i + 1) (spF M n (cI i) d).1 := by
  obtain ⟨K, B, hK⟩ := J.spf (least := n) (cI i) d hd
  generalize spF M n (cI i) d = t at B hK
  have sub : ∀ x v, v ∈ t.2 → t.1 v = some x → Cn M n (cI i) v := by
    intro x
    induction x with
    | zero =>
      intro v hv q
      by_cases z : v = cI i
      · rw [z]; exact Cn.refl _
      · obtain ⟨u, _, e, _, q2, _⟩ := B.2.2.2.2.1 v hv z
        rw [q] at q2
        cases q2
    | succ x ih =>
      intro v hv q
      by_cases z : v = cI i
      · rw [z]; exact Cn.refl _
      · obtain ⟨u, hu, e, q1, q2, g⟩ := B.2.2.2.2.1 v hv z
        rw [q] at q2
        cases q2
        exact (ih u hu q1).step g
  have sup : ∀ v, Cn M n (cI i) v → v ∈ t.2 := fun v h => (h (fun x => x ∈ t.2 ∧ gdC M n x) ⟨B.2.2.1.1, hg⟩ (fun a b q e => by
    refine ⟨?_, J.grgd e⟩
    rcases B.ends hK q.1 e with z | z
    · obtain ⟨j, hj, gj, cj⟩ := (V b).mp z
      exact absurd (B.2.2.2.1 a q.1).1 ((V a).mpr ⟨j, hj, gj, cj.step (e.symm q.2)⟩)
    · exact z.1)).1
  have mem : ∀ v, v ∈ t.2 ↔ Cn M n (cI i) v := fun v => ⟨fun hv => by
    cases q : t.1 v with
    | none => exact absurd q (B.2.2.2.1 v hv).2
    | some x => exact sub x v hv q, sup v⟩
  refine ⟨B.1, mem, fun v => ?_⟩
  by_cases z : v ∈ t.2
  · exact ⟨fun _ => ⟨i, by omega, hg, (mem v).mp z⟩, fun _ => (B.2.2.2.1 v z).2⟩
  · rw [B.2.1 v z, V v]
    constructor
    · rintro ⟨j, hj, a, b⟩
      exact ⟨j, by omega, a, b⟩
    · rintro ⟨j, hj, a, b⟩
      by_cases e : j = i
      · subst e
        exact absurd ((mem v).mpr b) z
      · exact ⟨j, by omega, a, b⟩
/-- one cell more -/
theorem gp_step (J : Inv M) {p : Ce → Option Nat} (P : PcO M n p) {i : Nat} (hi : i < 48) (a : Pc) (V : VsP M n i a.1) : VsP M n (i + 1) (gpS M n i a).1 ∧ ((0 < cnP p i ∧ (gpS M n i a).2 = (a.2.1 + nI 1, if a.2.2.1 < nI (cnP p i) then nI (cnP p i) else a.2.2.1, if a.2.2.1 < nI (cnP p i) then nI i else a.2.2.2)) ∨ (cnP p i = 0 ∧ (gpS M n i a).2 = a.2)) := by
  have iv := cI_lt hi
  by_cases fresh : gdC M n (cI i) ∧ a.1 (cI i) = none
  · obtain ⟨hg, hd⟩ := fresh
    obtain ⟨nd, mem, V2⟩ := J.piece hi V hg hd
    have e : gpS M n i a = gpN M n i a := by
      unfold gpS
      rw [if_pos hg.1, if_neg hg.2, if_pos hd]
    rw [e]
    have pi : p (cI i) = some i := by
      cases q : p (cI i) with
      | none => exact absurd q ((P.1 _).mpr hg)
      | some l =>
        obtain ⟨l1, l2, l3⟩ := P.2.1 _ l q
        rw [iv] at l1
        by_cases z : l = i
        · rw [z]
        · exact absurd hd ((V _).mpr ⟨l, by omega, l3, l2⟩)
    have cnt : (spF M n (cI i) a.1).2.length = cnP p i := by
      rw [len_cnt _ nd]
      unfold cnP
      refine sm_congr 48 (fun o ho => ?_)
      congr 1
      by_cases z : Cn M n (cI i) (cI o)
      · rw [decide_eq_true ((mem _).mpr z), decide_eq_true ((P.cn J z hg).trans pi)]
      · rw [decide_eq_false (fun q => z ((mem _).mp q)), decide_eq_false (fun q => z (P.2.1 _ i q).2.1)]
    refine ⟨V2, Or.inl ⟨?_, ?_⟩⟩
    · rw [← cnt]
      exact List.length_pos_of_mem ((mem (cI i)).mpr (Cn.refl _))
    · rw [← cnt]
      rfl
  · have e : gpS M n i a = a := by
      unfold gpS
      by_cases h1 : 0 < sd M (cI i)
      · rw [if_pos h1]
        by_cases h2 : nI (sd M (cI i)) < n
        · rw [if_pos h2]
        · rw [if_neg h2, if_neg (fun q => fresh ⟨⟨h1, h2⟩, q⟩)]
      · rw [if_neg h1]
    rw [e]
    have np : p (cI i) ≠ some i := fun q => by
      have hg : gdC M n (cI i) := (P.1 _).mp (by rw [q]; exact fun z => by cases z)
      have hd : a.1 (cI i) ≠ none := fun z => fresh ⟨hg, z⟩
      obtain ⟨j, hj, gj, cj⟩ := (V _).mp hd
      have pj := P.cn J cj gj
      rw [q] at pj
      have := (P.2.1 _ i pj.symm).1
      rw [cI_lt (by omega)] at this
      omega
    refine ⟨fun v => ?_, Or.inr ⟨?_, rfl⟩⟩
    · rw [V v]
      constructor
      · rintro ⟨j, hj, x, y⟩
        exact ⟨j, by omega, x, y⟩
      · rintro ⟨j, hj, x, y⟩
        by_cases z : j = i
        · subst z
          have hd : a.1 (cI j) ≠ none := fun q => fresh ⟨x, q⟩
          obtain ⟨k, hk, gk, ck⟩ := (V _).mp hd
          exact ⟨k, hk, gk, ck.trans y⟩
        · exact ⟨j, by omega, x, y⟩
    · have : sm 48 (fun o => b1 (decide (p (cI o) = some i))) ≤ 48 * 0 := sm_le 48 (fun o _ => by
        rw [decide_eq_false (fun q => np (by
          obtain ⟨_, q2, q3⟩ := P.2.1 _ i q
          exact (P.cn J q2 q3).symm.trans q))]
        exact Nat.le_refl _)
      unfold cnP
      omega
end PCS
