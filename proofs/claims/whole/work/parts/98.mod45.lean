/-! ===== how far: graphs over Fin N ===== -/
theorem nd_len : ∀ (n : Nat) (l : List Nat), l.Nodup → (∀ x, x ∈ l → x < n) → l.length ≤ n
  | 0, l, _, h => by
    cases l with
    | nil => exact Nat.le_refl _
    | cons a l => exact absurd (h a (List.mem_cons_self ..)) (Nat.not_lt_zero _)
  | n + 1, l, hd, h => by
    have h2 := nd_len n (l.erase n) (hd.erase n) (fun x hx => by
      obtain ⟨a, b⟩ := (List.Nodup.mem_erase_iff hd).mp hx
      have := h x b
      omega)
    have := List.length_erase (l := l) (a := n)
    split at this <;> omega
theorem nd_lt {N : Nat} {l : List (Fin N)} {o : Fin N} (hd : l.Nodup) (ho : o ∉ l) : l.length < N := by
  have h1 : (o :: l).Nodup := List.nodup_cons.mpr ⟨ho, hd⟩
  have h2 := nd_len N ((o :: l).map Fin.val) (by
    refine List.Pairwise.map _ (fun a b q e => q (Fin.ext e)) h1) (fun x hx => by
      obtain ⟨a, _, rfl⟩ := List.mem_map.mp hx
      exact a.isLt)
  rw [List.length_map, List.length_cons] at h2
  omega
theorem ge_app {α : Type} {l : List α} {o a : α} {i : Nat} (h : (l ++ [o])[i]? = some a) : l[i]? = some a ∨ (i = l.length ∧ a = o) := by
  by_cases z : i < l.length
  · rw [List.getElem?_append_left z] at h
    exact Or.inl h
  · have hk' := (List.getElem?_eq_some_iff.mp h).1
    rw [List.length_append] at hk'
    have zz : i = l.length := by
      have : ([o] : List α).length = 1 := rfl
      omega
    subst zz
    rw [List.getElem?_append_right (Nat.le_refl _), Nat.sub_self] at h
    cases h
    exact Or.inr ⟨rfl, rfl⟩
section GRA
variable {N : Nat} {G : Fin N → Fin N → Prop} {c : Fin N} {f g d0 : Fin N → Option Nat}
def DsG (G : Fin N → Fin N → Prop) (c : Fin N) (f : Fin N → Option Nat) : Prop := (∀ v, f v = some 0 ↔ v = c) ∧ (∀ v d, f v = some (d + 1) → ∃ u, f u = some d ∧ G u v) ∧ (∀ u v d, f u = some d → G u v → ∃ e, e ≤ d + 1 ∧ f v = some e)
theorem DsG.le (A : DsG G c f) (B : DsG G c g) : ∀ (d : Nat) (v : Fin N), f v = some d → ∃ e, e ≤ d ∧ g v = some e
  | 0, v, h => ⟨0, Nat.le_refl _, (B.1 v).mpr ((A.1 v).mp h)⟩
  | d + 1, v, h => by
    obtain ⟨u, hu, e⟩ := A.2.1 v d h
    obtain ⟨k, hk, gu⟩ := DsG.le A B d u hu
    obtain ⟨j, hj, gv⟩ := B.2.2 u v k gu e
    exact ⟨j, by omega, gv⟩
theorem DsG.uniq (A : DsG G c f) (B : DsG G c g) : f = g := by
  funext v
  cases hf : f v with
  | none =>
    cases hg : g v with
    | none => rfl
    | some d =>
      obtain ⟨e, _, q⟩ := B.le A d v hg
      rw [hf] at q
      cases q
  | some d =>
    obtain ⟨e, he, q⟩ := A.le B d v hf
    obtain ⟨e', he', q'⟩ := B.le A e v q
    rw [hf] at q'
    cases q'
    rw [q, show e = d by omega]
/-- the spread with a queue -/
def gpu (t : (Fin N → Option Nat) × List (Fin N)) (o : Fin N) (f : Nat) : (Fin N → Option Nat) × List (Fin N) := if t.1 o = none then (if t.2.length < N then (fu t.1 o (some f), t.2 ++ [o]) else t) else t
def gst (g : Fin N → Nat → Option (Fin N)) (c : Fin N) (i : Nat) (t : (Fin N → Option Nat) × List (Fin N)) : (Fin N → Option Nat) × List (Fin N) := match g c i with
  | none => t
  | some o => gpu t o ((t.1 c).getD 0 + 1)
def gpr (g : Fin N → Nat → Option (Fin N)) (deg : Fin N → Nat) (c : Fin N) (t : (Fin N → Option Nat) × List (Fin N)) : (Fin N → Option Nat) × List (Fin N) := it (gst g c) (deg c) 0 t
def gbf (g : Fin N → Nat → Option (Fin N)) (deg : Fin N → Nat) : Nat → Nat → (Fin N → Option Nat) × List (Fin N) → (Fin N → Option Nat) × List (Fin N)
  | 0, _, t => t
  | f + 1, k, t => match t.2[k]? with
    | none => t
    | some c => gbf g deg f (k + 1) (gpr g deg c t)
/-- what holds when k of the queue are done -/
def BI (G : Fin N → Fin N → Prop) (c : Fin N) (d0 : Fin N → Option Nat) (k : Nat) (t : (Fin N → Option Nat) × List (Fin N)) : Prop :=
  t.2.Nodup ∧ (∀ v, v ∉ t.2 → t.1 v = d0 v) ∧ (c ∈ t.2 ∧ t.1 c = some 0) ∧ (∀ v, v ∈ t.2 → d0 v = none ∧ t.1 v ≠ none)
  ∧ (∀ v, v ∈ t.2 → v ≠ c → ∃ u, u ∈ t.2 ∧ ∃ d, t.1 u = some d ∧ t.1 v = some (d + 1) ∧ G u v)
  ∧ (∀ (i j : Nat) (a b : Fin N) (x y : Nat), i ≤ j → t.2[i]? = some a → t.2[j]? = some b → t.1 a = some x → t.1 b = some y → x ≤ y)
  ∧ (∀ a x, t.2[k]? = some a → t.1 a = some x → ∀ v, v ∈ t.2 → ∀ y, t.1 v = some y → y ≤ x + 1)
  ∧ (∀ (i : Nat) (a : Fin N), i < k → t.2[i]? = some a → ∀ v, G a v → d0 v ≠ none ∨ (v ∈ t.2 ∧ ∀ x y, t.1 a = some x → t.1 v = some y → y ≤ x + 1))
theorem BI.push {k : Nat} {t : (Fin N → Option Nat) × List (Fin N)} {a o : Fin N} {x : Nat} (B : BI G c d0 k t) (ha : t.2[k]? = some a) (hx : t.1 a = some x) (e : G a o) : BI G c d0 k (gpu t o (x + 1)) ∧ (gpu t o (x + 1)).2[k]? = some a ∧ (gpu t o (x + 1)).1 a = some x ∧ (d0 o ≠ none ∨ o ∈ (gpu t o (x + 1)).2) ∧ (∀ v, v ∈ t.2 → v ∈ (gpu t o (x + 1)).2) := by
  obtain ⟨nd, vs, ⟨cm, c0⟩, mm, pa, sr, cu, dn⟩ := B
  unfold gpu
  by_cases ho : t.1 o = none
  · have om : o ∉ t.2 := fun q => (mm o q).2 ho
    have hl := nd_lt nd om
    have d0o : d0 o = none := by rw [← vs o om]; exact ho
    rw [if_pos ho, if_pos hl]
    have am : a ∈ t.2 := List.mem_of_getElem? ha
    have ne : ∀ v, v ∈ t.2 → v ≠ o := fun v hv q => om (q ▸ hv)
    have old : ∀ v, v ∈ t.2 → fu t.1 o (some (x + 1)) v = t.1 v := fun v hv => fu_n _ _ (ne v hv)
    have mo : ∀ v, v ∈ t.2 ++ [o] → v ∈ t.2 ∨ v = o := fun v hv => by
      rcases List.mem_append.mp hv with z | z
      · exact Or.inl z
      · exact Or.inr (List.mem_singleton.mp z)
    have ol : o ∈ t.2 ++ [o] := List.mem_append.mpr (Or.inr (List.mem_singleton.mpr rfl))
    have il : ∀ v, v ∈ t.2 → v ∈ t.2 ++ [o] := fun v hv => List.mem_append.mpr (Or.inl hv)
    have kl := (List.getElem?_eq_some_iff.mp ha).1
    refine ⟨⟨?_, fun v hv => ?_, ⟨il c cm, (old c cm).trans c0⟩, fun v hv => ?_, fun v hv vc => ?_, fun i j a1 b1 x1 y1 hij h1 h2 h3 h4 => ?_, fun a1 x1 h1 h2 v hv y hy => ?_, fun i a1 hi h1 v hg => ?_⟩, ?_, ?_, Or.inr ol, il⟩
    · refine List.nodup_append.mpr ⟨nd, List.nodup_cons.mpr ⟨List.not_mem_nil, List.nodup_nil⟩, fun p hp q hq => ?_⟩
      rw [List.mem_singleton.mp hq]
      exact ne p hp
    · show fu t.1 o (some (x + 1)) v = d0 v
      have vo : v ≠ o := fun q => hv (by rw [q]; exact ol)
      rw [fu_n _ _ vo]
      exact vs v (fun q => hv (il v q))
    · show _ ∧ fu t.1 o (some (x + 1)) v ≠ none
      rcases mo v hv with z | rfl
      · rw [old v z]
        exact mm v z
      · rw [fu_s]
        exact ⟨d0o, fun q => by cases q⟩
    · show ∃ u, u ∈ t.2 ++ [o] ∧ ∃ d, fu t.1 o (some (x + 1)) u = some d ∧ fu t.1 o (some (x + 1)) v = some (d + 1) ∧ G u v
      rcases mo v hv with z | rfl
      · obtain ⟨u, hu, d, p1, p2, p3⟩ := pa v z vc
        exact ⟨u, il u hu, d, by rw [old u hu]; exact p1, by rw [old v z]; exact p2, p3⟩
      · exact ⟨a, il a am, x, by rw [old a am]; exact hx, fu_s _ _ _, e⟩
    · have h3 : fu t.1 o (some (x + 1)) a1 = some x1 := h3
      have h4 : fu t.1 o (some (x + 1)) b1 = some y1 := h4
      rcases ge_app h1 with z1 | ⟨z1, zo1⟩
      · have m1 := List.mem_of_getElem? z1
        rw [old a1 m1] at h3
        rcases ge_app h2 with z2 | ⟨z2, zo⟩
        · rw [old b1 (List.mem_of_getElem? z2)] at h4
          exact sr i j a1 b1 x1 y1 hij z1 z2 h3 h4
        · rw [zo, fu_s] at h4
          cases h4
          exact cu a x ha hx a1 m1 x1 h3
      · rcases ge_app h2 with z2 | ⟨z2, zo⟩
        · have := (List.getElem?_eq_some_iff.mp z2).1
          omega
        · rw [zo1, fu_s] at h3
          rw [zo, fu_s] at h4
          cases h3
          cases h4
          exact Nat.le_refl _
    · rcases ge_app h1 with z1 | ⟨z1, rfl⟩
      · rw [ha] at z1
        cases z1
        have h2 : fu t.1 o (some (x + 1)) a = some x1 := h2
        rw [old a am, hx] at h2
        cases h2
        have hy : fu t.1 o (some (x + 1)) v = some y := hy
        rcases mo v hv with z | rfl
        · rw [old v z] at hy
          exact cu a x ha hx v z y hy
        · rw [fu_s] at hy
          cases hy
          exact Nat.le_refl _
      · omega
    · have h1' : t.2[i]? = some a1 := by
        rcases ge_app h1 with z1 | ⟨z1, _⟩
        · exact z1
        · omega
      have m1 := List.mem_of_getElem? h1'
      rcases dn i a1 hi h1' v hg with q | ⟨q1, q2⟩
      · exact Or.inl q
      · refine Or.inr ⟨il v q1, fun x1 y1 p1 p2 => ?_⟩
        have p1 : fu t.1 o (some (x + 1)) a1 = some x1 := p1
        have p2 : fu t.1 o (some (x + 1)) v = some y1 := p2
        rw [old a1 m1] at p1
        rw [old v q1] at p2
        exact q2 x1 y1 p1 p2
    · show (t.2 ++ [o])[k]? = some a
      rw [List.getElem?_append_left kl]
      exact ha
    · show fu t.1 o (some (x + 1)) a = some x
      rw [old a am]
      exact hx
  · rw [if_neg ho]
    refine ⟨⟨nd, vs, ⟨cm, c0⟩, mm, pa, sr, cu, dn⟩, ha, hx, ?_, fun v hv => hv⟩
    by_cases om : o ∈ t.2
    · exact Or.inr om
    · exact Or.inl (by rw [← vs o om]; exact ho)
/-- one of the queue is done -/
theorem BI.proc {k : Nat} {t : (Fin N → Option Nat) × List (Fin N)} {a : Fin N} {gg : Fin N → Nat → Option (Fin N)} {deg : Fin N → Nat} (hG : ∀ u v, G u v ↔ ∃ i, i < deg u ∧ gg u i = some v) (B : BI G c d0 k t) (ha : t.2[k]? = some a) : BI G c d0 (k + 1) (gpr gg deg a t) := by
  obtain ⟨x, hx⟩ : ∃ x, t.1 a = some x := by
    cases h : t.1 a with
    | none => exact absurd h (B.2.2.2.1 a (List.mem_of_getElem? ha)).2
    | some x => exact ⟨x, rfl⟩
  have key : ∀ d i (t : (Fin N → Option Nat) × List (Fin N)), i + d = deg a → BI G c d0 k t → t.2[k]? = some a → t.1 a = some x → (∀ j v, j < i → gg a j = some v → d0 v ≠ none ∨ v ∈ t.2) → BI G c d0 k (it (gst gg a) d i t) ∧ (it (gst gg a) d i t).2[k]? = some a ∧ (it (gst gg a) d i t).1 a = some x ∧ (∀ j v, j < deg a → gg a j = some v → d0 v ≠ none ∨ v ∈ (it (gst gg a) d i t).2) := by
    intro d
    induction d with
    | zero => intro i t hi B ha hx hn; exact ⟨B, ha, hx, fun j v hj => hn j v (by omega)⟩
    | succ d ih =>
      intro i t hi B ha hx hn
      have e0 : it (gst gg a) (d + 1) i t = it (gst gg a) d (i + 1) (gst gg a i t) := rfl
      rw [e0]
      cases hg : gg a i with
      | none =>
        have e : gst gg a i t = t := by unfold gst; rw [hg]
        rw [e]
        exact ih (i + 1) t (by omega) B ha hx (fun j v hj q => by
          by_cases z : j = i
          · rw [z, hg] at q
            cases q
          · exact hn j v (by omega) q)
      | some o =>
        have e : gst gg a i t = gpu t o (x + 1) := by unfold gst; rw [hg, hx]; rfl
        rw [e]
        obtain ⟨p1, p2, p3, p4, p5⟩ := B.push ha hx ((hG a o).mpr ⟨i, by omega, hg⟩)
        exact ih (i + 1) _ (by omega) p1 p2 p3 (fun j v hj q => by
          by_cases z : j = i
          · rw [z, hg] at q
            cases q
            exact p4
          · exact (hn j v (by omega) q).imp id (p5 v))
  obtain ⟨B1, a1, x1, n1⟩ := key (deg a) 0 t (by omega) B ha hx (fun j v hj => absurd hj (Nat.not_lt_zero _))
  show BI G c d0 (k + 1) (it (gst gg a) (deg a) 0 t)
  generalize it (gst gg a) (deg a) 0 t = T at B1 a1 x1 n1
  obtain ⟨nd, vs, cc, mm, pa, sr, cu, dn⟩ := B1
  refine ⟨nd, vs, cc, mm, pa, sr, fun b y hb hy v hv z hz => ?_, fun i b hi hb v hg => ?_⟩
  · have h1 := cu a x a1 x1 v hv z hz
    have h2 := sr k (k + 1) a b x y (by omega) a1 hb x1 hy
    omega
  · by_cases e : i = k
    · subst e
      rw [a1] at hb
      cases hb
      obtain ⟨j, hj, q⟩ := (hG a v).mp hg
      rcases n1 j v hj q with z | z
      · exact Or.inl z
      · refine Or.inr ⟨z, fun x' y' e1 e2 => ?_⟩
        exact cu a x' a1 e1 v z y' e2
    · exact dn i b (by omega) hb v hg
theorem BI.run {gg : Fin N → Nat → Option (Fin N)} {deg : Fin N → Nat} (hG : ∀ u v, G u v ↔ ∃ i, i < deg u ∧ gg u i = some v) : ∀ (d k : Nat) (t : (Fin N → Option Nat) × List (Fin N)), k + d = N → BI G c d0 k t → ∃ K, BI G c d0 K (gbf gg deg d k t) ∧ (gbf gg deg d k t).2.length ≤ K
  | 0, k, t, hk, B => ⟨k, B, by
    have := nd_len N (t.2.map Fin.val) (List.Pairwise.map _ (fun a b q e => q (Fin.ext e)) B.1) (fun x hx => by
      obtain ⟨a, _, rfl⟩ := List.mem_map.mp hx
      exact a.isLt)
    rw [List.length_map] at this
    show t.2.length ≤ k
    omega⟩
  | d + 1, k, t, hk, B => by
    show ∃ K, BI G c d0 K (match t.2[k]? with
      | none => t
      | some c => gbf gg deg d (k + 1) (gpr gg deg c t)) ∧ (match t.2[k]? with
      | none => t
      | some c => gbf gg deg d (k + 1) (gpr gg deg c t)).2.length ≤ K
    cases h : t.2[k]? with
    | none => exact ⟨k, B, List.getElem?_eq_none_iff.mp h⟩
    | some a => exact BI.run hG d (k + 1) _ (by omega) (B.proc hG h)
theorem BI.start (hc : d0 c = none) : BI G c d0 0 (fu d0 c (some 0), [c]) := by
  refine ⟨List.nodup_cons.mpr ⟨List.not_mem_nil, List.nodup_nil⟩, fun v hv => fu_n _ _ (fun q => hv (List.mem_singleton.mpr q)), ⟨List.mem_singleton.mpr rfl, fu_s _ _ _⟩, fun v hv => ?_, fun v hv vc => absurd (List.mem_singleton.mp hv) vc, fun i j a b x y hij h1 h2 h3 h4 => ?_, fun a x h1 h2 v hv y hy => ?_, fun i a hi => absurd hi (Nat.not_lt_zero _)⟩
  · rw [List.mem_singleton.mp hv]
    exact ⟨hc, by show fu d0 c (some 0) c ≠ none; rw [fu_s]; exact fun q => by cases q⟩
  · have e1 := List.mem_singleton.mp (List.mem_of_getElem? h1)
    have e2 := List.mem_singleton.mp (List.mem_of_getElem? h2)
    rw [e1] at h3
    rw [e2, h3] at h4
    cases h4
    exact Nat.le_refl _
  · have hy : fu d0 c (some 0) v = some y := hy
    rw [List.mem_singleton.mp hv, fu_s] at hy
    cases hy
    exact Nat.zero_le _
theorem BI.ends {K : Nat} {t : (Fin N → Option Nat) × List (Fin N)} (B : BI G c d0 K t) (h : t.2.length ≤ K) {a : Fin N} (am : a ∈ t.2) {v : Fin N} (e : G a v) : d0 v ≠ none ∨ (v ∈ t.2 ∧ ∀ x y, t.1 a = some x → t.1 v = some y → y ≤ x + 1) := by
  obtain ⟨i, hi⟩ := List.getElem?_of_mem am
  have := (List.getElem?_eq_some_iff.mp hi).1
  exact B.2.2.2.2.2.2.2 i a (by omega) hi v e
theorem BI.dsg {K : Nat} {t : (Fin N → Option Nat) × List (Fin N)} (B : BI G c (fun _ => none) K t) (h : t.2.length ≤ K) : DsG G c t.1 := by
  have mem : ∀ v x, t.1 v = some x → v ∈ t.2 := fun v x q => by
    by_cases z : v ∈ t.2
    · exact z
    · rw [B.2.1 v z] at q
      cases q
  refine ⟨fun v => ⟨fun q => ?_, fun q => ?_⟩, fun v d q => ?_, fun u v d hu e => ?_⟩
  · by_cases z : v = c
    · exact z
    · obtain ⟨u, _, d, _, q2, _⟩ := B.2.2.2.2.1 v (mem v 0 q) z
      rw [q] at q2
      cases q2
  · rw [q]
    exact B.2.2.1.2
  · by_cases z : v = c
    · rw [z, B.2.2.1.2] at q
      cases q
    · obtain ⟨u, _, d', q1, q2, q3⟩ := B.2.2.2.2.1 v (mem v _ q) z
      rw [q] at q2
      cases q2
      exact ⟨u, q1, q3⟩
  · rcases B.ends h (mem u d hu) e with z | ⟨z1, z2⟩
    · exact absurd rfl z
    · cases hv : t.1 v with
      | none => exact absurd hv (B.2.2.2.1 v z1).2
      | some y => exact ⟨y, z2 d y hu hv, rfl⟩
/-- layer upon layer: all from below d are done -/
def LyG (G : Fin N → Fin N → Prop) (c : Fin N) (d : Nat) (f : Fin N → Option Nat) : Prop := (∀ v, f v = some 0 ↔ v = c) ∧ (∀ v d, f v = some (d + 1) → ∃ u, f u = some d ∧ G u v) ∧ (∀ u v e, f u = some e → e < d → G u v → ∃ e', e' ≤ e + 1 ∧ f v = some e') ∧ (∀ v e, f v = some e → e ≤ d + 1)
theorem LyG.start : LyG G c 0 (fu (fun _ => none) c (some 0)) := by
  have key : ∀ v e, fu (fun _ => none) c (some 0) v = some e → v = c ∧ e = 0 := fun v e q => by
    by_cases z : v = c
    · rw [z, fu_s] at q
      cases q
      exact ⟨z, rfl⟩
    · rw [fu_n _ _ z] at q
      cases q
  refine ⟨fun v => ⟨fun q => (key v 0 q).1, fun q => by rw [q, fu_s]⟩, fun v d q => ?_, fun u v e q h => absurd h (Nat.not_lt_zero _), fun v e q => ?_⟩
  · exact absurd (key v _ q).2 (Nat.succ_ne_zero _)
  · have := (key v e q).2
    omega
theorem LyG.put {d : Nat} {u v : Fin N} (L : LyG G c d f) (hu : f u = some d) (e : G u v) (hv : f v = none) : LyG G c d (fu f v (some (d + 1))) := by
  obtain ⟨a, b, cc, dd⟩ := L
  have ne : ∀ w e, f w = some e → w ≠ v := fun w e q z => by rw [z, hv] at q; cases q
  have old : ∀ w e, f w = some e → fu f v (some (d + 1)) w = some e := fun w e q => by rw [fu_n _ _ (ne w e q)]; exact q
  have nw : ∀ w e, fu f v (some (d + 1)) w = some e → f w = some e ∨ (w = v ∧ e = d + 1) := fun w e q => by
    by_cases z : w = v
    · rw [z, fu_s] at q
      cases q
      exact Or.inr ⟨z, rfl⟩
    · rw [fu_n _ _ z] at q
      exact Or.inl q
  refine ⟨fun w => ⟨fun q => ?_, fun q => ?_⟩, fun w e1 q => ?_, fun w w2 e1 q he g => ?_, fun w e1 q => ?_⟩
  · rcases nw w 0 q with z | ⟨_, z⟩
    · exact (a w).mp z
    · cases z
  · exact old w 0 ((a w).mpr q)
  · rcases nw w _ q with z | ⟨z1, z2⟩
    · obtain ⟨u', p1, p2⟩ := b w e1 z
      exact ⟨u', old _ _ p1, p2⟩
    · cases z2
      exact ⟨u, old _ _ hu, by rw [z1]; exact e⟩
  · rcases nw w _ q with z | ⟨z1, z2⟩
    · obtain ⟨e', p1, p2⟩ := cc w w2 e1 z he g
      exact ⟨e', p1, old _ _ p2⟩
    · omega
  · rcases nw w _ q with z | ⟨z1, z2⟩
    · exact dd w e1 z
    · omega
theorem LyG.next {d : Nat} (L : LyG G c d f) (h : ∀ u v, f u = some d → G u v → f v ≠ none) : LyG G c (d + 1) f := by
  obtain ⟨a, b, cc, dd⟩ := L
  refine ⟨a, b, fun u v e q he g => ?_, fun v e q => by have := dd v e q; omega⟩
  by_cases z : e < d
  · exact cc u v e q z g
  · have : e = d := by omega
    subst this
    cases hv : f v with
    | none => exact absurd hv (h u v q g)
    | some x => exact ⟨x, dd v x hv, rfl⟩
theorem LyG.dsg {d : Nat} (L : LyG G c d f) (h : ∀ v e, f v = some e → e < d) : DsG G c f := ⟨L.1, L.2.1, fun u v e q g => L.2.2.1 u v e q (h u e q) g⟩
end GRA
