/-! ===== the small machine: a memory of numbered cells, int contents; it runs the same bytes =====
cells: .inl (t, n) an array of n (t 0 int, 1 boolean); .inr (ci, fs) an object of class ci with its fields: none an int, some (.inl t) a reference to cell t, some (.inr none) a long that fits an int, some (.inr (some v)) what the small machine doesn't touch -/
abbrev mm_U : Type := Nat → Nat → Int32
abbrev mm_D : Type := Option (Nat ⊕ Option Value)
abbrev mm_Sh : Type := Nat → (Nat × Nat) ⊕ (Nat × List mm_D)
abbrev mm_Cf : Type := Nat × List Value × List Value × mm_U
abbrev mm_R : Type := mm_Cf ⊕ ((Option Value × mm_U) ⊕ (mm_Y × List Value × Nat × List Value × List Value))
def mu (μ : mm_U) (a : Nat) (f : Nat → Int32) : mm_U := fun b => if b = a then f else μ b
def mm_in (i : Int32) (n : Nat) : Bool := decide (¬ (i < 0 ∨ n ≤ i.toNatClampNeg))
def mm_al (sh : mm_Sh) (a : Nat) : Nat := match sh a with
  | .inl (0, n) => n
  | _ => 0
def mm_bl (sh : mm_Sh) (a : Nat) : Nat := match sh a with
  | .inl (1, n) => n
  | _ => 0
def mm_oc (sh : mm_Sh) (a ci : Nat) : Bool := match sh a with
  | .inr (c, _) => c == ci
  | _ => false
def mm_fd (sh : mm_Sh) (a k : Nat) : Option mm_D := match sh a with
  | .inr (_, fs) => fs[k]?
  | _ => none
def mm_fv0 (μ : mm_U) (a k : Nat) (d : mm_D) : Option Value := match d with
  | none => some (.int (μ a k))
  | some (.inl t) => some (.ref t)
  | some (.inr none) => some (.long (μ a k).toInt64)
  | some (.inr (some _)) => none
def mm_gf (sh : mm_Sh) (μ : mm_U) (a ci k : Nat) : Option Value := if mm_oc sh a ci = true then (mm_fd sh a k).bind (mm_fv0 μ a k) else none
/-- a store into a field: the memory then -/
def mm_pf (sh : mm_Sh) (μ : mm_U) (a ci k : Nat) (v : Value) : Option mm_U := if mm_oc sh a ci = true then match mm_fd sh a k, v with
  | some none, .int x => some (mu μ a (upd (μ a) k x))
  | some (some (.inr none)), .long x => if x.toInt32.toInt64 = x then some (mu μ a (upd (μ a) k x.toInt32)) else none
  | _, _ => none
  else none
def mm_nf (ci k : Nat) : Bool := match vwCl[ci]? with
  | some q => decide (k < q.2.2) && !(q.2.1 k).2.2.2
  | none => false
def mm_toX (k : Nat) : Int32 := ([1, 0, -1, -1, 0, 1] : List Int32).getD k 0
def mm_toY (k : Nat) : Int32 := ([0, 1, 1, 0, -1, -1] : List Int32).getD k 0
def mm_to (t k : Nat) : Int32 := if t = 0 then mm_toX k else mm_toY k
def mm_tg (pc : Nat) (off : Int) : Option Nat := match (pc : Int) + off with
  | .ofNat t => some t
  | _ => none
def mm_cz (c : Jvm.ClassFile.Cond) (x : Int32) : Bool := match c with
  | .eq => decide (x = 0)
  | .ne => decide (¬ x = 0)
  | .lt => decide (x < 0)
  | .ge => decide (0 ≤ x)
  | .gt => decide (0 < x)
  | .le => decide (x ≤ 0)
def mm_ci (c : Jvm.ClassFile.Cond) (x y : Int32) : Bool := match c with
  | .eq => decide (x = y)
  | .ne => decide (¬ x = y)
  | .lt => decide (x < y)
  | .ge => decide (y ≤ x)
  | .gt => decide (y < x)
  | .le => decide (x ≤ y)
def mm_go (pc : Nat) (ls st : List Value) (μ : mm_U) : Option mm_R := some (.inl (pc, ls, st, μ))
def mm_bin (f : Int32 → Int32 → Int32) (pc : Nat) (ls st : List Value) (μ : mm_U) : Option mm_R := match st with
  | .int b :: .int a :: r => mm_go pc ls (.int (f a b) :: r) μ
  | _ => none
def mm_binL (f : Int64 → Int64 → Int64) (pc : Nat) (ls st : List Value) (μ : mm_U) : Option mm_R := match st with
  | .long b :: .long a :: r => mm_go pc ls (.long (f a b) :: r) μ
  | _ => none
def mm_ld (k pc : Nat) (ls st : List Value) (μ : mm_U) : Option mm_R := match ls[k]? with
  | some (.int x) => mm_go pc ls (.int x :: st) μ
  | _ => none
def mm_ldr (k pc : Nat) (ls st : List Value) (μ : mm_U) : Option mm_R := match ls[k]? with
  | some (.ref x) => mm_go pc ls (.ref x :: st) μ
  | _ => none
def mm_str (k pc : Nat) (ls st : List Value) (μ : mm_U) : Option mm_R := match st with
  | .int x :: r => if k < ls.length then mm_go pc (ls.set k (.int x)) r μ else none
  | _ => none
def mm_strr (k pc : Nat) (ls st : List Value) (μ : mm_U) : Option mm_R := match st with
  | .ref x :: r => if k < ls.length then mm_go pc (ls.set k (.ref x)) r μ else none
  | _ => none
def mm_inc (k : Nat) (c : Int) (pc : Nat) (ls st : List Value) (μ : mm_U) : Option mm_R := match ls[k]? with
  | some (.int x) => mm_go pc (ls.set k (.int (x + Int32.ofInt c))) st μ
  | _ => none
/-- what stands under a call's arguments is small -/
def mm_ok : List Value → Bool
  | [] => true
  | [_] => true
  | [_, _] => true
  | [_, _, _] => true
  | [_, _, _, _] => true
  | _ => false
def mm_ir : Value → Bool
  | .int _ => true
  | .ref _ => true
  | _ => false
def mm_pd (n : Nat) (as : List Value) : List Value := as ++ List.replicate (n - as.length) .null
def mm_cv (sh : mm_Sh) (z y : mm_Y) (pc : Nat) (ls st : List Value) : Option mm_R := match (st.take (yn z)).reverse with
  | .ref a :: as => if as.length + 1 = yn z ∧ mm_oc sh a (yo z) = true ∧ as.all mm_ir = true ∧ mm_ok (st.drop (yn z)) = true ∧ yr z < yr y ∧ yn z ≤ yl z then some (.inr (.inr (z, mm_pd (yl z) (.ref a :: as), pc + 3, ls, st.drop (yn z)))) else none
  | _ => none
def mm_cs (z y : mm_Y) (pc : Nat) (ls st : List Value) : Option mm_R :=
  if (st.take (yn z)).reverse.length = yn z ∧ (st.take (yn z)).reverse.all mm_ir = true ∧ mm_ok (st.drop (yn z)) = true ∧ yr z < yr y ∧ yn z ≤ yl z then some (.inr (.inr (z, mm_pd (yl z) (st.take (yn z)).reverse, pc + 3, ls, st.drop (yn z)))) else none
def mm_acp (sh : mm_Sh) (y : mm_Y) (pc : Nat) (ls st : List Value) (μ : mm_U) : Option mm_R := match st with
  | [.int n, .int dp, .ref a, .int sp, .ref a0] => if ¬ sp < 0 ∧ ¬ dp < 0 ∧ ¬ n < 0 ∧ sp.toNatClampNeg + n.toNatClampNeg ≤ mm_al sh a0 ∧ dp.toNatClampNeg + n.toNatClampNeg ≤ mm_al sh a ∧ 0 < yr y ∧ 0 < n.toNatClampNeg then mm_go (pc + 3) ls [] (mu μ a (va_cpy (μ a0) (μ a) sp.toNatClampNeg dp.toNatClampNeg n.toNatClampNeg)) else none
  | _ => none
def mm_isin (v lo hi : Int64) : Int32 := if lo ≤ v ∧ v ≤ hi then 1 else 0
def mm_inp (y : mm_Y) (pc : Nat) (ls st : List Value) (μ : mm_U) : Option mm_R := match st with
  | .long hi :: .long lo :: .long v :: r => if mm_ok r = true ∧ 0 < yr y then mm_go (pc + 3) ls (.int (mm_isin v lo hi) :: r) μ else none
  | _ => none
def mm_ins (sh : mm_Sh) (i : Instr) (n : Nat) (y : mm_Y) (pc : Nat) (ls st : List Value) (μ : mm_U) : Option mm_R := match i with
  | .iconst k => if n = 1 then mm_go (pc + 1) ls (.int (Int32.ofInt k) :: st) μ else none
  | .bipush k => if n = 2 then mm_go (pc + 2) ls (.int (Int8.ofInt k).toInt32 :: st) μ else none
  | .sipush k => if n = 3 then mm_go (pc + 3) ls (.int (Int16.ofInt k).toInt32 :: st) μ else none
  | .lconst k => if n = 1 then mm_go (pc + 1) ls (.long (Int64.ofNat (k : Nat)) :: st) μ else none
  | .ldc idx => match mm_lk (mm_C (yo y)) idx with
    | some v => if n = 2 then mm_go (pc + 2) ls (.int v :: st) μ else none
    | none => none
  | .ldc_w idx => match mm_lk (mm_C (yo y)) idx with
    | some v => if n = 3 then mm_go (pc + 3) ls (.int v :: st) μ else none
    | none => none
  | .ldc2_w idx => match mm_lk (mm_L (yo y)) idx with
    | some v => if n = 3 then mm_go (pc + 3) ls (.long v :: st) μ else none
    | none => none
  | .iload_n k => if n = 1 then mm_ld (k : Nat) (pc + 1) ls st μ else none
  | .iload k => if n = 2 then mm_ld k (pc + 2) ls st μ else none
  | .aload_n k => if n = 1 then mm_ldr (k : Nat) (pc + 1) ls st μ else none
  | .aload k => if n = 2 then mm_ldr k (pc + 2) ls st μ else none
  | .istore_n k => if n = 1 then mm_str (k : Nat) (pc + 1) ls st μ else none
  | .istore k => if n = 2 then mm_str k (pc + 2) ls st μ else none
  | .astore_n k => if n = 1 then mm_strr (k : Nat) (pc + 1) ls st μ else none
  | .astore k => if n = 2 then mm_strr k (pc + 2) ls st μ else none
  | .iinc k c => if n = 3 then mm_inc k c (pc + 3) ls st μ else none
  | .iadd => if n = 1 then mm_bin (fun a b => a + b) (pc + 1) ls st μ else none
  | .isub => if n = 1 then mm_bin (fun a b => a - b) (pc + 1) ls st μ else none
  | .imul => if n = 1 then mm_bin (fun a b => a * b) (pc + 1) ls st μ else none
  | .iand => if n = 1 then mm_bin (fun a b => a &&& b) (pc + 1) ls st μ else none
  | .ixor => if n = 1 then mm_bin (fun a b => a ^^^ b) (pc + 1) ls st μ else none
  | .ishr => if n = 1 then mm_bin (fun a b => a >>> (b &&& 31)) (pc + 1) ls st μ else none
  | .idiv => match st with
    | .int b :: .int a :: r => if n = 1 ∧ ¬ b = 0 then mm_go (pc + 1) ls (.int (a / b) :: r) μ else none
    | _ => none
  | .irem => match st with
    | .int b :: .int a :: r => if n = 1 ∧ ¬ b = 0 then mm_go (pc + 1) ls (.int (a - a / b * b) :: r) μ else none
    | _ => none
  | .ladd => if n = 1 then mm_binL (fun a b => a + b) (pc + 1) ls st μ else none
  | .lsub => if n = 1 then mm_binL (fun a b => a - b) (pc + 1) ls st μ else none
  | .lmul => if n = 1 then mm_binL (fun a b => a * b) (pc + 1) ls st μ else none
  | .lrem => match st with
    | .long b :: .long a :: r => if n = 1 ∧ ¬ b = 0 then mm_go (pc + 1) ls (.long (a - a / b * b) :: r) μ else none
    | _ => none
  | .ineg => match st with
    | .int a :: r => if n = 1 then mm_go (pc + 1) ls (.int (-a) :: r) μ else none
    | _ => none
  | .i2l => match st with
    | .int a :: r => if n = 1 then mm_go (pc + 1) ls (.long a.toInt64 :: r) μ else none
    | _ => none
  | .l2i => match st with
    | .long a :: r => if n = 1 then mm_go (pc + 1) ls (.int a.toInt32 :: r) μ else none
    | _ => none
  | .dup => match st with
    | v :: r => if n = 1 ∧ mm_ir v = true then mm_go (pc + 1) ls (v :: v :: r) μ else none
    | _ => none
  | .dup2 => match st with
    | v :: w :: r => if n = 1 ∧ mm_ir v = true ∧ mm_ir w = true then mm_go (pc + 1) ls (v :: w :: v :: w :: r) μ else none
    | _ => none
  | .pop => match st with
    | v :: r => if n = 1 ∧ mm_ir v = true then mm_go (pc + 1) ls r μ else none
    | _ => none
  | .ifCond c off => match st, mm_tg pc off with
    | .int x :: r, some t => if n = 3 then (if mm_cz c x = true then mm_go t ls r μ else mm_go (pc + 3) ls r μ) else none
    | _, _ => none
  | .if_icmp c off => match st, mm_tg pc off with
    | .int b :: .int a :: r, some t => if n = 3 then (if mm_ci c a b = true then mm_go t ls r μ else mm_go (pc + 3) ls r μ) else none
    | _, _ => none
  | .goto off => match mm_tg pc off with
    | some t => if n = 3 then mm_go t ls st μ else none
    | none => none
  | .tableswitch d lo hi offs => match st with
    | .int x :: r => if x.toInt < lo ∨ hi < x.toInt then (match mm_tg pc d with
        | some t => mm_go t ls r μ
        | none => none) else (match offs[(x.toInt - lo).toNat]? with
        | some off => (match mm_tg pc off with
          | some t => mm_go t ls r μ
          | none => none)
        | none => none)
    | _ => none
  | .lookupswitch d ps => match st with
    | .int x :: r => if (ps.toList.zip (ps.toList.drop 1)).all (fun (a, next) => a.1 < next.1) = true then (match mm_tg pc (Op.lookupswitch.offset ps.toList d x.toInt) with
        | some t => mm_go t ls r μ
        | none => none) else none
    | _ => none
  | .getfield idx => match st, mm_lk (mm_F (yo y)) idx with
    | .ref a :: r, some (ci, k) => match mm_gf sh μ a ci k with
      | some v => if n = 3 then mm_go (pc + 3) ls (v :: r) μ else none
      | none => none
    | _, _ => none
  | .putfield idx => match st, mm_lk (mm_F (yo y)) idx with
    | v :: .ref a :: r, some (ci, k) => match mm_pf sh μ a ci k v with
      | some μ' => if n = 3 ∧ mm_nf ci k = true then mm_go (pc + 3) ls r μ' else none
      | none => none
    | _, _ => none
  | .getstatic idx => match mm_lk (mm_S (yo y)) idx with
    | some t => if n = 3 ∧ t < 2 then mm_go (pc + 3) ls (.retAddr t :: st) μ else none
    | none => none
  | .iaload => match st with
    | .int i :: .ref a :: r => if n = 1 ∧ mm_in i (mm_al sh a) = true then mm_go (pc + 1) ls (.int (μ a i.toNatClampNeg) :: r) μ else none
    | .int i :: .retAddr t :: r => if n = 1 ∧ mm_in i 6 = true ∧ t < 2 then mm_go (pc + 1) ls (.int (mm_to t i.toNatClampNeg) :: r) μ else none
    | _ => none
  | .iastore => match st with
    | .int v :: .int i :: .ref a :: r => if n = 1 ∧ mm_in i (mm_al sh a) = true then mm_go (pc + 1) ls r (mu μ a (upd (μ a) i.toNatClampNeg v)) else none
    | _ => none
  | .baload => match st with
    | .int i :: .ref a :: r => if n = 1 ∧ mm_in i (mm_bl sh a) = true then mm_go (pc + 1) ls (.int (μ a i.toNatClampNeg) :: r) μ else none
    | _ => none
  | .bastore => match st with
    | .int v :: .int i :: .ref a :: r => if n = 1 ∧ mm_in i (mm_bl sh a) = true ∧ (v = 0 ∨ v = 1) then mm_go (pc + 1) ls r (mu μ a (upd (μ a) i.toNatClampNeg v)) else none
    | _ => none
  | .invokevirtual idx => match mm_lk (mm_M (yo y)) idx with
    | some (true, z) => if n = 3 then mm_cv sh z y pc ls st else none
    | _ => none
  | .invokestatic idx => match mm_lk (mm_M (yo y)) idx with
    | some (false, z) => if n = 3 then mm_cs z y pc ls st else none
    | some (true, _) => none
    | none => match mm_lk (mm_P (yo y)) idx with
      | some 0 => if n = 3 then mm_acp sh y pc ls st μ else none
      | some 1 => if n = 3 then mm_inp y pc ls st μ else none
      | _ => none
  | .ireturn => match st, yt y with
    | [.int v], some .int => if n = 1 then some (.inr (.inl (some (.int v), μ))) else none
    | [.int v], some .boolean => if n = 1 ∧ (v = 0 ∨ v = 1) then some (.inr (.inl (some (.int v), μ))) else none
    | _, _ => none
  | .return_ => match st, yt y with
    | [], none => if n = 1 then some (.inr (.inl (none, μ))) else none
    | _, _ => none
  | _ => none
def mm_stp (sh : mm_Sh) (y : mm_Y) (pc : Nat) (ls st : List Value) (μ : mm_U) : Option mm_R := match decode (yc y) pc with
  | .ok (i, n) => mm_ins sh i n y pc ls st μ
  | .error _ => none
def mm_rc (r : Option Value) (st : List Value) : List Value := match r with
  | some v => v :: st
  | none => st
def mm_ex (sh : mm_Sh) : Nat → mm_Y → Nat → List Value → List Value → mm_U → Option (Option Value × mm_U)
  | 0, _, _, _, _, _ => none
  | n + 1, y, pc, ls, st, μ => match mm_stp sh y pc ls st μ with
    | none => none
    | some (.inl (pc', ls', st', μ')) => mm_ex sh n y pc' ls' st' μ'
    | some (.inr (.inl r)) => some r
    | some (.inr (.inr (z, as, pc', ls', st'))) => match mm_ex sh n z 0 as [] μ with
      | none => none
      | some (r, μ') => mm_ex sh n y pc' ls' (mm_rc r st') μ'
theorem mm_ex_s (sh : mm_Sh) (n : Nat) (y : mm_Y) (pc : Nat) (ls st : List Value) (μ : mm_U) : mm_ex sh (n + 1) y pc ls st μ = match mm_stp sh y pc ls st μ with
    | none => none
    | some (.inl (pc', ls', st', μ')) => mm_ex sh n y pc' ls' st' μ'
    | some (.inr (.inl r)) => some r
    | some (.inr (.inr (z, as, pc', ls', st'))) => match mm_ex sh n z 0 as [] μ with
      | none => none
      | some (r, μ') => mm_ex sh n y pc' ls' (mm_rc r st') μ' := rfl
theorem mm_mono1 (sh : mm_Sh) : ∀ (n : Nat) (y : mm_Y) (pc : Nat) (ls st : List Value) (μ : mm_U) (x : Option Value × mm_U), mm_ex sh n y pc ls st μ = some x → mm_ex sh (n + 1) y pc ls st μ = some x := by
  intro n
  induction n with
  | zero => intro y pc ls st μ x h; cases h
  | succ n ih =>
    intro y pc ls st μ x h
    rw [mm_ex_s] at h
    rw [mm_ex_s]
    cases hs : mm_stp sh y pc ls st μ with
    | none => rw [hs] at h; cases h
    | some q =>
      rw [hs] at h
      rcases q with ⟨pc', ls', st', μ'⟩ | r | ⟨z, as, pc', ls', st'⟩
      · exact ih _ _ _ _ _ _ h
      · exact h
      · dsimp only at h ⊢
        cases h1 : mm_ex sh n z 0 as [] μ with
        | none => rw [h1] at h; cases h
        | some q =>
          rw [h1] at h
          rw [ih _ _ _ _ _ _ h1]
          exact ih _ _ _ _ _ _ h
theorem mm_mono {sh : mm_Sh} {n m : Nat} (hm : n ≤ m) {y : mm_Y} {pc : Nat} {ls st : List Value} {μ : mm_U} {x : Option Value × mm_U} (h : mm_ex sh n y pc ls st μ = some x) : mm_ex sh m y pc ls st μ = some x := by
  induction hm with
  | refl => exact h
  | step _ ih => exact mm_mono1 sh _ _ _ _ _ _ _ ih
/-- the machine comes to an end at which Q holds -/
def wp (sh : mm_Sh) (y : mm_Y) (pc : Nat) (ls st : List Value) (μ : mm_U) (Q : Option Value → mm_U → Prop) : Prop := ∃ n r μ', mm_ex sh n y pc ls st μ = some (r, μ') ∧ Q r μ'
def mm_wr (sh : mm_Sh) (y : mm_Y) (μ : mm_U) (Q : Option Value → mm_U → Prop) (r : Option mm_R) : Prop := match r with
  | none => False
  | some (.inl (pc', ls', st', μ')) => wp sh y pc' ls' st' μ' Q
  | some (.inr (.inl (r, μ'))) => Q r μ'
  | some (.inr (.inr (z, as, pc', ls', st'))) => wp sh z 0 as [] μ (fun r μ' => wp sh y pc' ls' (mm_rc r st') μ' Q)
theorem wp_unf (sh : mm_Sh) (y : mm_Y) (pc : Nat) (ls st : List Value) (μ : mm_U) (Q : Option Value → mm_U → Prop) : wp sh y pc ls st μ Q = mm_wr sh y μ Q (mm_stp sh y pc ls st μ) := by
  apply propext
  constructor
  · rintro ⟨n, r, μ', h, hq⟩
    cases n with
    | zero => cases h
    | succ n =>
      rw [mm_ex_s] at h
      cases hs : mm_stp sh y pc ls st μ with
      | none => rw [hs] at h; cases h
      | some q =>
        rw [hs] at h
        rcases q with ⟨pc', ls', st', μ1⟩ | ⟨r1, μ1⟩ | ⟨z, as, pc', ls', st'⟩
        · exact ⟨n, r, μ', h, hq⟩
        · cases h
          exact hq
        · dsimp only at h
          cases h1 : mm_ex sh n z 0 as [] μ with
          | none => rw [h1] at h; cases h
          | some q =>
            obtain ⟨r1, μ1⟩ := q
            rw [h1] at h
            exact ⟨n, r1, μ1, h1, n, r, μ', h, hq⟩
  · intro h
    cases hs : mm_stp sh y pc ls st μ with
    | none => rw [hs] at h; exact h.elim
    | some q =>
      rw [hs] at h
      rcases q with ⟨pc', ls', st', μ1⟩ | ⟨r1, μ1⟩ | ⟨z, as, pc', ls', st'⟩
      · obtain ⟨n, r, μ', h, hq⟩ := h
        exact ⟨n + 1, r, μ', by rw [mm_ex_s, hs]; exact h, hq⟩
      · exact ⟨1, r1, μ1, by rw [mm_ex_s, hs], h⟩
      · obtain ⟨n, r1, μ1, h1, k, r, μ', h2, hq⟩ := h
        refine ⟨max n k + 1, r, μ', ?_, hq⟩
        rw [mm_ex_s, hs]
        dsimp only
        rw [mm_mono (Nat.le_max_left n k) h1]
        exact mm_mono (Nat.le_max_right n k) h2
theorem wp_d {sh : mm_Sh} {y : mm_Y} {pc : Nat} {i : Instr} {n : Nat} (hd : decode (yc y) pc = .ok (i, n)) (ls st : List Value) (μ : mm_U) (Q : Option Value → mm_U → Prop) : wp sh y pc ls st μ Q = mm_wr sh y μ Q (mm_ins sh i n y pc ls st μ) := by
  rw [wp_unf]
  unfold mm_stp
  rw [hd]
theorem wp_mono {sh : mm_Sh} {y : mm_Y} {pc : Nat} {ls st : List Value} {μ : mm_U} {Q R : Option Value → mm_U → Prop} (h : wp sh y pc ls st μ Q) (hQ : ∀ r μ', Q r μ' → R r μ') : wp sh y pc ls st μ R := by
  obtain ⟨n, r, μ', h1, h2⟩ := h
  exact ⟨n, r, μ', h1, hQ r μ' h2⟩
/-- a call of a method -/
def cl (sh : mm_Sh) (z : mm_Y) (as : List Value) (μ : mm_U) (Q : Option Value → mm_U → Prop) : Prop := wp sh z 0 (mm_pd (yl z) as) [] μ Q
theorem cl_mono {sh : mm_Sh} {z : mm_Y} {as : List Value} {μ : mm_U} {Q R : Option Value → mm_U → Prop} (h : cl sh z as μ Q) (hQ : ∀ r μ', Q r μ' → R r μ') : cl sh z as μ R := wp_mono h hQ
def mm_op {α : Type} (v : Option α) (K : α → Prop) : Prop := match v with
  | some v => K v
  | none => False
theorem mm_op_some {α : Type} (v : α) (K : α → Prop) : mm_op (some v) K = K v := rfl
theorem mm_rc_some (v : Value) (st : List Value) : mm_rc (some v) st = v :: st := rfl
theorem mm_rc_none (st : List Value) : mm_rc none st = st := rfl
theorem mm_in_nI {k n : Nat} (hk : k < 2 ^ 31) : (mm_in (nI k) n = true) = (k < n) := by
  unfold mm_in
  rw [decide_eq_true_eq, nI_clamp hk]
  apply propext
  constructor
  · intro h
    exact Nat.not_le.mp fun q => h (Or.inr q)
  · intro h q
    rcases q with q | q
    · exact nI_pos hk q
    · omega
theorem mu_s (μ : mm_U) (a : Nat) (f : Nat → Int32) : mu μ a f a = f := if_pos rfl
theorem mu_n (μ : mm_U) {a b : Nat} (f : Nat → Int32) (h : b ≠ a) : mu μ a f b = μ b := if_neg h
theorem mu_mu (μ : mm_U) (a : Nat) (f g : Nat → Int32) : mu (mu μ a f) a g = mu μ a g := by
  funext b
  unfold mu
  split <;> rfl
section RULES
variable {sh : mm_Sh} {y : mm_Y} {pc : Nat} {ls st : List Value} {μ : mm_U} {Q : Option Value → mm_U → Prop}
theorem wp_iconst {k : Int} (v : Int32) (hv : Int32.ofInt k = v) (hd : decode (yc y) pc = .ok (.iconst k, 1)) : wp sh y pc ls st μ Q = wp sh y (pc + 1) ls (.int v :: st) μ Q := by
  rw [wp_d hd, ← hv]
  rfl
theorem wp_bipush {k : Int} (v : Int32) (hv : (Int8.ofInt k).toInt32 = v) (hd : decode (yc y) pc = .ok (.bipush k, 2)) : wp sh y pc ls st μ Q = wp sh y (pc + 2) ls (.int v :: st) μ Q := by
  rw [wp_d hd, ← hv]
  rfl
theorem wp_sipush {k : Int} (v : Int32) (hv : (Int16.ofInt k).toInt32 = v) (hd : decode (yc y) pc = .ok (.sipush k, 3)) : wp sh y pc ls st μ Q = wp sh y (pc + 3) ls (.int v :: st) μ Q := by
  rw [wp_d hd, ← hv]
  rfl
theorem wp_lconst {k : Fin 2} (v : Int64) (hv : Int64.ofNat (k : Nat) = v) (hd : decode (yc y) pc = .ok (.lconst k, 1)) : wp sh y pc ls st μ Q = wp sh y (pc + 1) ls (.long v :: st) μ Q := by
  rw [wp_d hd, ← hv]
  rfl
theorem wp_ldc {idx : Nat} {v : Int32} (hk : mm_lk (mm_C (yo y)) idx = some v) (hd : decode (yc y) pc = .ok (.ldc idx, 2)) : wp sh y pc ls st μ Q = wp sh y (pc + 2) ls (.int v :: st) μ Q := by
  rw [wp_d hd]
  unfold mm_ins
  simp only [hk]
  rfl
theorem wp_ldcw {idx : Nat} {v : Int32} (hk : mm_lk (mm_C (yo y)) idx = some v) (hd : decode (yc y) pc = .ok (.ldc_w idx, 3)) : wp sh y pc ls st μ Q = wp sh y (pc + 3) ls (.int v :: st) μ Q := by
  rw [wp_d hd]
  unfold mm_ins
  simp only [hk]
  rfl
theorem wp_ldc2 {idx : Nat} {v : Int64} (hk : mm_lk (mm_L (yo y)) idx = some v) (hd : decode (yc y) pc = .ok (.ldc2_w idx, 3)) : wp sh y pc ls st μ Q = wp sh y (pc + 3) ls (.long v :: st) μ Q := by
  rw [wp_d hd]
  unfold mm_ins
  simp only [hk]
  rfl
theorem wp_il0 {l : List Value} {x : Int32} (hd : decode (yc y) pc = .ok (.iload_n 0, 1)) : wp sh y pc (.int x :: l) st μ Q = wp sh y (pc + 1) (.int x :: l) (.int x :: st) μ Q := by
  rw [wp_d hd]
  rfl
theorem wp_al0 {l : List Value} {x : Nat} (hd : decode (yc y) pc = .ok (.aload_n 0, 1)) : wp sh y pc (.ref x :: l) st μ Q = wp sh y (pc + 1) (.ref x :: l) (.ref x :: st) μ Q := by
  rw [wp_d hd]
  rfl
theorem wp_is0 {b : Value} {l : List Value} {x : Int32} (hd : decode (yc y) pc = .ok (.istore_n 0, 1)) : wp sh y pc (b :: l) (.int x :: st) μ Q = wp sh y (pc + 1) (.int x :: l) st μ Q := by
  rw [wp_d hd]
  have e : 0 < (b :: l).length := by simp only [List.length_cons]; omega
  show mm_wr sh y μ Q (mm_str 0 (pc + 1) (b :: l) (.int x :: st) μ) = _
  unfold mm_str
  dsimp only
  rw [if_pos e]
  rfl
theorem wp_as0 {b : Value} {l : List Value} {x : Nat} (hd : decode (yc y) pc = .ok (.astore_n 0, 1)) : wp sh y pc (b :: l) (.ref x :: st) μ Q = wp sh y (pc + 1) (.ref x :: l) st μ Q := by
  rw [wp_d hd]
  have e : 0 < (b :: l).length := by simp only [List.length_cons]; omega
  show mm_wr sh y μ Q (mm_strr 0 (pc + 1) (b :: l) (.ref x :: st) μ) = _
  unfold mm_strr
  dsimp only
  rw [if_pos e]
  rfl
theorem wp_inc0 {l : List Value} {x : Int32} {c : Int} (v : Int32) (hv : Int32.ofInt c = v) (hd : decode (yc y) pc = .ok (.iinc 0 c, 3)) : wp sh y pc (.int x :: l) st μ Q = wp sh y (pc + 3) (.int (x + v) :: l) st μ Q := by
  rw [wp_d hd, ← hv]
  rfl
theorem wp_il1 {a0 : Value} {l : List Value} {x : Int32} (hd : decode (yc y) pc = .ok (.iload_n 1, 1)) : wp sh y pc (a0 :: .int x :: l) st μ Q = wp sh y (pc + 1) (a0 :: .int x :: l) (.int x :: st) μ Q := by
  rw [wp_d hd]
  rfl
theorem wp_al1 {a0 : Value} {l : List Value} {x : Nat} (hd : decode (yc y) pc = .ok (.aload_n 1, 1)) : wp sh y pc (a0 :: .ref x :: l) st μ Q = wp sh y (pc + 1) (a0 :: .ref x :: l) (.ref x :: st) μ Q := by
  rw [wp_d hd]
  rfl
theorem wp_is1 {a0 : Value} {b : Value} {l : List Value} {x : Int32} (hd : decode (yc y) pc = .ok (.istore_n 1, 1)) : wp sh y pc (a0 :: b :: l) (.int x :: st) μ Q = wp sh y (pc + 1) (a0 :: .int x :: l) st μ Q := by
  rw [wp_d hd]
  have e : 1 < (a0 :: b :: l).length := by simp only [List.length_cons]; omega
  show mm_wr sh y μ Q (mm_str 1 (pc + 1) (a0 :: b :: l) (.int x :: st) μ) = _
  unfold mm_str
  dsimp only
  rw [if_pos e]
  rfl
theorem wp_as1 {a0 : Value} {b : Value} {l : List Value} {x : Nat} (hd : decode (yc y) pc = .ok (.astore_n 1, 1)) : wp sh y pc (a0 :: b :: l) (.ref x :: st) μ Q = wp sh y (pc + 1) (a0 :: .ref x :: l) st μ Q := by
  rw [wp_d hd]
  have e : 1 < (a0 :: b :: l).length := by simp only [List.length_cons]; omega
  show mm_wr sh y μ Q (mm_strr 1 (pc + 1) (a0 :: b :: l) (.ref x :: st) μ) = _
  unfold mm_strr
  dsimp only
  rw [if_pos e]
  rfl
theorem wp_inc1 {a0 : Value} {l : List Value} {x : Int32} {c : Int} (v : Int32) (hv : Int32.ofInt c = v) (hd : decode (yc y) pc = .ok (.iinc 1 c, 3)) : wp sh y pc (a0 :: .int x :: l) st μ Q = wp sh y (pc + 3) (a0 :: .int (x + v) :: l) st μ Q := by
  rw [wp_d hd, ← hv]
  rfl
theorem wp_il2 {a0 a1 : Value} {l : List Value} {x : Int32} (hd : decode (yc y) pc = .ok (.iload_n 2, 1)) : wp sh y pc (a0 :: a1 :: .int x :: l) st μ Q = wp sh y (pc + 1) (a0 :: a1 :: .int x :: l) (.int x :: st) μ Q := by
  rw [wp_d hd]
  rfl
theorem wp_al2 {a0 a1 : Value} {l : List Value} {x : Nat} (hd : decode (yc y) pc = .ok (.aload_n 2, 1)) : wp sh y pc (a0 :: a1 :: .ref x :: l) st μ Q = wp sh y (pc + 1) (a0 :: a1 :: .ref x :: l) (.ref x :: st) μ Q := by
  rw [wp_d hd]
  rfl
theorem wp_is2 {a0 a1 : Value} {b : Value} {l : List Value} {x : Int32} (hd : decode (yc y) pc = .ok (.istore_n 2, 1)) : wp sh y pc (a0 :: a1 :: b :: l) (.int x :: st) μ Q = wp sh y (pc + 1) (a0 :: a1 :: .int x :: l) st μ Q := by
  rw [wp_d hd]
  have e : 2 < (a0 :: a1 :: b :: l).length := by simp only [List.length_cons]; omega
  show mm_wr sh y μ Q (mm_str 2 (pc + 1) (a0 :: a1 :: b :: l) (.int x :: st) μ) = _
  unfold mm_str
  dsimp only
  rw [if_pos e]
  rfl
theorem wp_as2 {a0 a1 : Value} {b : Value} {l : List Value} {x : Nat} (hd : decode (yc y) pc = .ok (.astore_n 2, 1)) : wp sh y pc (a0 :: a1 :: b :: l) (.ref x :: st) μ Q = wp sh y (pc + 1) (a0 :: a1 :: .ref x :: l) st μ Q := by
  rw [wp_d hd]
  have e : 2 < (a0 :: a1 :: b :: l).length := by simp only [List.length_cons]; omega
  show mm_wr sh y μ Q (mm_strr 2 (pc + 1) (a0 :: a1 :: b :: l) (.ref x :: st) μ) = _
  unfold mm_strr
  dsimp only
  rw [if_pos e]
  rfl
theorem wp_inc2 {a0 a1 : Value} {l : List Value} {x : Int32} {c : Int} (v : Int32) (hv : Int32.ofInt c = v) (hd : decode (yc y) pc = .ok (.iinc 2 c, 3)) : wp sh y pc (a0 :: a1 :: .int x :: l) st μ Q = wp sh y (pc + 3) (a0 :: a1 :: .int (x + v) :: l) st μ Q := by
  rw [wp_d hd, ← hv]
  rfl
theorem wp_il3 {a0 a1 a2 : Value} {l : List Value} {x : Int32} (hd : decode (yc y) pc = .ok (.iload_n 3, 1)) : wp sh y pc (a0 :: a1 :: a2 :: .int x :: l) st μ Q = wp sh y (pc + 1) (a0 :: a1 :: a2 :: .int x :: l) (.int x :: st) μ Q := by
  rw [wp_d hd]
  rfl
theorem wp_al3 {a0 a1 a2 : Value} {l : List Value} {x : Nat} (hd : decode (yc y) pc = .ok (.aload_n 3, 1)) : wp sh y pc (a0 :: a1 :: a2 :: .ref x :: l) st μ Q = wp sh y (pc + 1) (a0 :: a1 :: a2 :: .ref x :: l) (.ref x :: st) μ Q := by
  rw [wp_d hd]
  rfl
theorem wp_is3 {a0 a1 a2 : Value} {b : Value} {l : List Value} {x : Int32} (hd : decode (yc y) pc = .ok (.istore_n 3, 1)) : wp sh y pc (a0 :: a1 :: a2 :: b :: l) (.int x :: st) μ Q = wp sh y (pc + 1) (a0 :: a1 :: a2 :: .int x :: l) st μ Q := by
  rw [wp_d hd]
  have e : 3 < (a0 :: a1 :: a2 :: b :: l).length := by simp only [List.length_cons]; omega
  show mm_wr sh y μ Q (mm_str 3 (pc + 1) (a0 :: a1 :: a2 :: b :: l) (.int x :: st) μ) = _
  unfold mm_str
  dsimp only
  rw [if_pos e]
  rfl
theorem wp_as3 {a0 a1 a2 : Value} {b : Value} {l : List Value} {x : Nat} (hd : decode (yc y) pc = .ok (.astore_n 3, 1)) : wp sh y pc (a0 :: a1 :: a2 :: b :: l) (.ref x :: st) μ Q = wp sh y (pc + 1) (a0 :: a1 :: a2 :: .ref x :: l) st μ Q := by
  rw [wp_d hd]
  have e : 3 < (a0 :: a1 :: a2 :: b :: l).length := by simp only [List.length_cons]; omega
  show mm_wr sh y μ Q (mm_strr 3 (pc + 1) (a0 :: a1 :: a2 :: b :: l) (.ref x :: st) μ) = _
  unfold mm_strr
  dsimp only
  rw [if_pos e]
  rfl
theorem wp_inc3 {a0 a1 a2 : Value} {l : List Value} {x : Int32} {c : Int} (v : Int32) (hv : Int32.ofInt c = v) (hd : decode (yc y) pc = .ok (.iinc 3 c, 3)) : wp sh y pc (a0 :: a1 :: a2 :: .int x :: l) st μ Q = wp sh y (pc + 3) (a0 :: a1 :: a2 :: .int (x + v) :: l) st μ Q := by
  rw [wp_d hd, ← hv]
  rfl
theorem wp_il4 {a0 a1 a2 a3 : Value} {l : List Value} {x : Int32} (hd : decode (yc y) pc = .ok (.iload 4, 2)) : wp sh y pc (a0 :: a1 :: a2 :: a3 :: .int x :: l) st μ Q = wp sh y (pc + 2) (a0 :: a1 :: a2 :: a3 :: .int x :: l) (.int x :: st) μ Q := by
  rw [wp_d hd]
  rfl
theorem wp_al4 {a0 a1 a2 a3 : Value} {l : List Value} {x : Nat} (hd : decode (yc y) pc = .ok (.aload 4, 2)) : wp sh y pc (a0 :: a1 :: a2 :: a3 :: .ref x :: l) st μ Q = wp sh y (pc + 2) (a0 :: a1 :: a2 :: a3 :: .ref x :: l) (.ref x :: st) μ Q := by
  rw [wp_d hd]
  rfl
theorem wp_is4 {a0 a1 a2 a3 : Value} {b : Value} {l : List Value} {x : Int32} (hd : decode (yc y) pc = .ok (.istore 4, 2)) : wp sh y pc (a0 :: a1 :: a2 :: a3 :: b :: l) (.int x :: st) μ Q = wp sh y (pc + 2) (a0 :: a1 :: a2 :: a3 :: .int x :: l) st μ Q := by
  rw [wp_d hd]
  have e : 4 < (a0 :: a1 :: a2 :: a3 :: b :: l).length := by simp only [List.length_cons]; omega
  show mm_wr sh y μ Q (mm_str 4 (pc + 2) (a0 :: a1 :: a2 :: a3 :: b :: l) (.int x :: st) μ) = _
  unfold mm_str
  dsimp only
  rw [if_pos e]
  rfl
theorem wp_as4 {a0 a1 a2 a3 : Value} {b : Value} {l : List Value} {x : Nat} (hd : decode (yc y) pc = .ok (.astore 4, 2)) : wp sh y pc (a0 :: a1 :: a2 :: a3 :: b :: l) (.ref x :: st) μ Q = wp sh y (pc + 2) (a0 :: a1 :: a2 :: a3 :: .ref x :: l) st μ Q := by
  rw [wp_d hd]
  have e : 4 < (a0 :: a1 :: a2 :: a3 :: b :: l).length := by simp only [List.length_cons]; omega
  show mm_wr sh y μ Q (mm_strr 4 (pc + 2) (a0 :: a1 :: a2 :: a3 :: b :: l) (.ref x :: st) μ) = _
  unfold mm_strr
  dsimp only
  rw [if_pos e]
  rfl
theorem wp_inc4 {a0 a1 a2 a3 : Value} {l : List Value} {x : Int32} {c : Int} (v : Int32) (hv : Int32.ofInt c = v) (hd : decode (yc y) pc = .ok (.iinc 4 c, 3)) : wp sh y pc (a0 :: a1 :: a2 :: a3 :: .int x :: l) st μ Q = wp sh y (pc + 3) (a0 :: a1 :: a2 :: a3 :: .int (x + v) :: l) st μ Q := by
  rw [wp_d hd, ← hv]
  rfl
theorem wp_il5 {a0 a1 a2 a3 a4 : Value} {l : List Value} {x : Int32} (hd : decode (yc y) pc = .ok (.iload 5, 2)) : wp sh y pc (a0 :: a1 :: a2 :: a3 :: a4 :: .int x :: l) st μ Q = wp sh y (pc + 2) (a0 :: a1 :: a2 :: a3 :: a4 :: .int x :: l) (.int x :: st) μ Q := by
  rw [wp_d hd]
  rfl
theorem wp_al5 {a0 a1 a2 a3 a4 : Value} {l : List Value} {x : Nat} (hd : decode (yc y) pc = .ok (.aload 5, 2)) : wp sh y pc (a0 :: a1 :: a2 :: a3 :: a4 :: .ref x :: l) st μ Q = wp sh y (pc + 2) (a0 :: a1 :: a2 :: a3 :: a4 :: .ref x :: l) (.ref x :: st) μ Q := by
  rw [wp_d hd]
  rfl
theorem wp_is5 {a0 a1 a2 a3 a4 : Value} {b : Value} {l : List Value} {x : Int32} (hd : decode (yc y) pc = .ok (.istore 5, 2)) : wp sh y pc (a0 :: a1 :: a2 :: a3 :: a4 :: b :: l) (.int x :: st) μ Q = wp sh y (pc + 2) (a0 :: a1 :: a2 :: a3 :: a4 :: .int x :: l) st μ Q := by
  rw [wp_d hd]
  have e : 5 < (a0 :: a1 :: a2 :: a3 :: a4 :: b :: l).length := by simp only [List.length_cons]; omega
  show mm_wr sh y μ Q (mm_str 5 (pc + 2) (a0 :: a1 :: a2 :: a3 :: a4 :: b :: l) (.int x :: st) μ) = _
  unfold mm_str
  dsimp only
  rw [if_pos e]
  rfl
theorem wp_as5 {a0 a1 a2 a3 a4 : Value} {b : Value} {l : List Value} {x : Nat} (hd : decode (yc y) pc = .ok (.astore 5, 2)) : wp sh y pc (a0 :: a1 :: a2 :: a3 :: a4 :: b :: l) (.ref x :: st) μ Q = wp sh y (pc + 2) (a0 :: a1 :: a2 :: a3 :: a4 :: .ref x :: l) st μ Q := by
  rw [wp_d hd]
  have e : 5 < (a0 :: a1 :: a2 :: a3 :: a4 :: b :: l).length := by simp only [List.length_cons]; omega
  show mm_wr sh y μ Q (mm_strr 5 (pc + 2) (a0 :: a1 :: a2 :: a3 :: a4 :: b :: l) (.ref x :: st) μ) = _
  unfold mm_strr
  dsimp only
  rw [if_pos e]
  rfl
theorem wp_inc5 {a0 a1 a2 a3 a4 : Value} {l : List Value} {x : Int32} {c : Int} (v : Int32) (hv : Int32.ofInt c = v) (hd : decode (yc y) pc = .ok (.iinc 5 c, 3)) : wp sh y pc (a0 :: a1 :: a2 :: a3 :: a4 :: .int x :: l) st μ Q = wp sh y (pc + 3) (a0 :: a1 :: a2 :: a3 :: a4 :: .int (x + v) :: l) st μ Q := by
  rw [wp_d hd, ← hv]
  rfl
theorem wp_il6 {a0 a1 a2 a3 a4 a5 : Value} {l : List Value} {x : Int32} (hd : decode (yc y) pc = .ok (.iload 6, 2)) : wp sh y pc (a0 :: a1 :: a2 :: a3 :: a4 :: a5 :: .int x :: l) st μ Q = wp sh y (pc + 2) (a0 :: a1 :: a2 :: a3 :: a4 :: a5 :: .int x :: l) (.int x :: st) μ Q := by
  rw [wp_d hd]
  rfl
theorem wp_al6 {a0 a1 a2 a3 a4 a5 : Value} {l : List Value} {x : Nat} (hd : decode (yc y) pc = .ok (.aload 6, 2)) : wp sh y pc (a0 :: a1 :: a2 :: a3 :: a4 :: a5 :: .ref x :: l) st μ Q = wp sh y (pc + 2) (a0 :: a1 :: a2 :: a3 :: a4 :: a5 :: .ref x :: l) (.ref x :: st) μ Q := by
  rw [wp_d hd]
  rfl
theorem wp_is6 {a0 a1 a2 a3 a4 a5 : Value} {b : Value} {l : List Value} {x : Int32} (hd : decode (yc y) pc = .ok (.istore 6, 2)) : wp sh y pc (a0 :: a1 :: a2 :: a3 :: a4 :: a5 :: b :: l) (.int x :: st) μ Q = wp sh y (pc + 2) (a0 :: a1 :: a2 :: a3 :: a4 :: a5 :: .int x :: l) st μ Q := by
  rw [wp_d hd]
  have e : 6 < (a0 :: a1 :: a2 :: a3 :: a4 :: a5 :: b :: l).length := by simp only [List.length_cons]; omega
  show mm_wr sh y μ Q (mm_str 6 (pc + 2) (a0 :: a1 :: a2 :: a3 :: a4 :: a5 :: b :: l) (.int x :: st) μ) = _
  unfold mm_str
  dsimp only
  rw [if_pos e]
  rfl
theorem wp_as6 {a0 a1 a2 a3 a4 a5 : Value} {b : Value} {l : List Value} {x : Nat} (hd : decode (yc y) pc = .ok (.astore 6, 2)) : wp sh y pc (a0 :: a1 :: a2 :: a3 :: a4 :: a5 :: b :: l) (.ref x :: st) μ Q = wp sh y (pc + 2) (a0 :: a1 :: a2 :: a3 :: a4 :: a5 :: .ref x :: l) st μ Q := by
  rw [wp_d hd]
  have e : 6 < (a0 :: a1 :: a2 :: a3 :: a4 :: a5 :: b :: l).length := by simp only [List.length_cons]; omega
  show mm_wr sh y μ Q (mm_strr 6 (pc + 2) (a0 :: a1 :: a2 :: a3 :: a4 :: a5 :: b :: l) (.ref x :: st) μ) = _
  unfold mm_strr
  dsimp only
  rw [if_pos e]
  rfl
theorem wp_inc6 {a0 a1 a2 a3 a4 a5 : Value} {l : List Value} {x : Int32} {c : Int} (v : Int32) (hv : Int32.ofInt c = v) (hd : decode (yc y) pc = .ok (.iinc 6 c, 3)) : wp sh y pc (a0 :: a1 :: a2 :: a3 :: a4 :: a5 :: .int x :: l) st μ Q = wp sh y (pc + 3) (a0 :: a1 :: a2 :: a3 :: a4 :: a5 :: .int (x + v) :: l) st μ Q := by
  rw [wp_d hd, ← hv]
  rfl
theorem wp_il7 {a0 a1 a2 a3 a4 a5 a6 : Value} {l : List Value} {x : Int32} (hd : decode (yc y) pc = .ok (.iload 7, 2)) : wp sh y pc (a0 :: a1 :: a2 :: a3 :: a4 :: a5 :: a6 :: .int x :: l) st μ Q = wp sh y (pc + 2) (a0 :: a1 :: a2 :: a3 :: a4 :: a5 :: a6 :: .int x :: l) (.int x :: st) μ Q := by
  rw [wp_d hd]
  rfl
theorem wp_al7 {a0 a1 a2 a3 a4 a5 a6 : Value} {l : List Value} {x : Nat} (hd : decode (yc y) pc = .ok (.aload 7, 2)) : wp sh y pc (a0 :: a1 :: a2 :: a3 :: a4 :: a5 :: a6 :: .ref x :: l) st μ Q = wp sh y (pc + 2) (a0 :: a1 :: a2 :: a3 :: a4 :: a5 :: a6 :: .ref x :: l) (.ref x :: st) μ Q := by
  rw [wp_d hd]
  rfl
theorem wp_is7 {a0 a1 a2 a3 a4 a5 a6 : Value} {b : Value} {l : List Value} {x : Int32} (hd : decode (yc y) pc = .ok (.istore 7, 2)) : wp sh y pc (a0 :: a1 :: a2 :: a3 :: a4 :: a5 :: a6 :: b :: l) (.int x :: st) μ Q = wp sh y (pc + 2) (a0 :: a1 :: a2 :: a3 :: a4 :: a5 :: a6 :: .int x :: l) st μ Q := by
  rw [wp_d hd]
  have e : 7 < (a0 :: a1 :: a2 :: a3 :: a4 :: a5 :: a6 :: b :: l).length := by simp only [List.length_cons]; omega
  show mm_wr sh y μ Q (mm_str 7 (pc + 2) (a0 :: a1 :: a2 :: a3 :: a4 :: a5 :: a6 :: b :: l) (.int x :: st) μ) = _
  unfold mm_str
  dsimp only
  rw [if_pos e]
  rfl
theorem wp_as7 {a0 a1 a2 a3 a4 a5 a6 : Value} {b : Value} {l : List Value} {x : Nat} (hd : decode (yc y) pc = .ok (.astore 7, 2)) : wp sh y pc (a0 :: a1 :: a2 :: a3 :: a4 :: a5 :: a6 :: b :: l) (.ref x :: st) μ Q = wp sh y (pc + 2) (a0 :: a1 :: a2 :: a3 :: a4 :: a5 :: a6 :: .ref x :: l) st μ Q := by
  rw [wp_d hd]
  have e : 7 < (a0 :: a1 :: a2 :: a3 :: a4 :: a5 :: a6 :: b :: l).length := by simp only [List.length_cons]; omega
  show mm_wr sh y μ Q (mm_strr 7 (pc + 2) (a0 :: a1 :: a2 :: a3 :: a4 :: a5 :: a6 :: b :: l) (.ref x :: st) μ) = _
  unfold mm_strr
  dsimp only
  rw [if_pos e]
  rfl
theorem wp_inc7 {a0 a1 a2 a3 a4 a5 a6 : Value} {l : List Value} {x : Int32} {c : Int} (v : Int32) (hv : Int32.ofInt c = v) (hd : decode (yc y) pc = .ok (.iinc 7 c, 3)) : wp sh y pc (a0 :: a1 :: a2 :: a3 :: a4 :: a5 :: a6 :: .int x :: l) st μ Q = wp sh y (pc + 3) (a0 :: a1 :: a2 :: a3 :: a4 :: a5 :: a6 :: .int (x + v) :: l) st μ Q := by
  rw [wp_d hd, ← hv]
  rfl
theorem wp_il8 {a0 a1 a2 a3 a4 a5 a6 a7 : Value} {l : List Value} {x : Int32} (hd : decode (yc y) pc = .ok (.iload 8, 2)) : wp sh y pc (a0 :: a1 :: a2 :: a3 :: a4 :: a5 :: a6 :: a7 :: .int x :: l) st μ Q = wp sh y (pc + 2) (a0 :: a1 :: a2 :: a3 :: a4 :: a5 :: a6 :: a7 :: .int x :: l) (.int x :: st) μ Q := by
  rw [wp_d hd]
  rfl
theorem wp_al8 {a0 a1 a2 a3 a4 a5 a6 a7 : Value} {l : List Value} {x : Nat} (hd : decode (yc y) pc = .ok (.aload 8, 2)) : wp sh y pc (a0 :: a1 :: a2 :: a3 :: a4 :: a5 :: a6 :: a7 :: .ref x :: l) st μ Q = wp sh y (pc + 2) (a0 :: a1 :: a2 :: a3 :: a4 :: a5 :: a6 :: a7 :: .ref x :: l) (.ref x :: st) μ Q := by
  rw [wp_d hd]
  rfl
theorem wp_is8 {a0 a1 a2 a3 a4 a5 a6 a7 : Value} {b : Value} {l : List Value} {x : Int32} (hd : decode (yc y) pc = .ok (.istore 8, 2)) : wp sh y pc (a0 :: a1 :: a2 :: a3 :: a4 :: a5 :: a6 :: a7 :: b :: l) (.int x :: st) μ Q = wp sh y (pc + 2) (a0 :: a1 :: a2 :: a3 :: a4 :: a5 :: a6 :: a7 :: .int x :: l) st μ Q := by
  rw [wp_d hd]
  have e : 8 < (a0 :: a1 :: a2 :: a3 :: a4 :: a5 :: a6 :: a7 :: b :: l).length := by simp only [List.length_cons]; omega
  show mm_wr sh y μ Q (mm_str 8 (pc + 2) (a0 :: a1 :: a2 :: a3 :: a4 :: a5 :: a6 :: a7 :: b :: l) (.int x :: st) μ) = _
  unfold mm_str
  dsimp only
  rw [if_pos e]
  rfl
theorem wp_as8 {a0 a1 a2 a3 a4 a5 a6 a7 : Value} {b : Value} {l : List Value} {x : Nat} (hd : decode (yc y) pc = .ok (.astore 8, 2)) : wp sh y pc (a0 :: a1 :: a2 :: a3 :: a4 :: a5 :: a6 :: a7 :: b :: l) (.ref x :: st) μ Q = wp sh y (pc + 2) (a0 :: a1 :: a2 :: a3 :: a4 :: a5 :: a6 :: a7 :: .ref x :: l) st μ Q := by
  rw [wp_d hd]
  have e : 8 < (a0 :: a1 :: a2 :: a3 :: a4 :: a5 :: a6 :: a7 :: b :: l).length := by simp only [List.length_cons]; omega
  show mm_wr sh y μ Q (mm_strr 8 (pc + 2) (a0 :: a1 :: a2 :: a3 :: a4 :: a5 :: a6 :: a7 :: b :: l) (.ref x :: st) μ) = _
  unfold mm_strr
  dsimp only
  rw [if_pos e]
  rfl
theorem wp_inc8 {a0 a1 a2 a3 a4 a5 a6 a7 : Value} {l : List Value} {x : Int32} {c : Int} (v : Int32) (hv : Int32.ofInt c = v) (hd : decode (yc y) pc = .ok (.iinc 8 c, 3)) : wp sh y pc (a0 :: a1 :: a2 :: a3 :: a4 :: a5 :: a6 :: a7 :: .int x :: l) st μ Q = wp sh y (pc + 3) (a0 :: a1 :: a2 :: a3 :: a4 :: a5 :: a6 :: a7 :: .int (x + v) :: l) st μ Q := by
  rw [wp_d hd, ← hv]
  rfl
theorem wp_il9 {a0 a1 a2 a3 a4 a5 a6 a7 a8 : Value} {l : List Value} {x : Int32} (hd : decode (yc y) pc = .ok (.iload 9, 2)) : wp sh y pc (a0 :: a1 :: a2 :: a3 :: a4 :: a5 :: a6 :: a7 :: a8 :: .int x :: l) st μ Q = wp sh y (pc + 2) (a0 :: a1 :: a2 :: a3 :: a4 :: a5 :: a6 :: a7 :: a8 :: .int x :: l) (.int x :: st) μ Q := by
  rw [wp_d hd]
  rfl
theorem wp_al9 {a0 a1 a2 a3 a4 a5 a6 a7 a8 : Value} {l : List Value} {x : Nat} (hd : decode (yc y) pc = .ok (.aload 9, 2)) : wp sh y pc (a0 :: a1 :: a2 :: a3 :: a4 :: a5 :: a6 :: a7 :: a8 :: .ref x :: l) st μ Q = wp sh y (pc + 2) (a0 :: a1 :: a2 :: a3 :: a4 :: a5 :: a6 :: a7 :: a8 :: .ref x :: l) (.ref x :: st) μ Q := by
  rw [wp_d hd]
  rfl
theorem wp_is9 {a0 a1 a2 a3 a4 a5 a6 a7 a8 : Value} {b : Value} {l : List Value} {x : Int32} (hd : decode (yc y) pc = .ok (.istore 9, 2)) : wp sh y pc (a0 :: a1 :: a2 :: a3 :: a4 :: a5 :: a6 :: a7 :: a8 :: b :: l) (.int x :: st) μ Q = wp sh y (pc + 2) (a0 :: a1 :: a2 :: a3 :: a4 :: a5 :: a6 :: a7 :: a8 :: .int x :: l) st μ Q := by
  rw [wp_d hd]
  have e : 9 < (a0 :: a1 :: a2 :: a3 :: a4 :: a5 :: a6 :: a7 :: a8 :: b :: l).length := by simp only [List.length_cons]; omega
  show mm_wr sh y μ Q (mm_str 9 (pc + 2) (a0 :: a1 :: a2 :: a3 :: a4 :: a5 :: a6 :: a7 :: a8 :: b :: l) (.int x :: st) μ) = _
  unfold mm_str
  dsimp only
  rw [if_pos e]
  rfl
theorem wp_as9 {a0 a1 a2 a3 a4 a5 a6 a7 a8 : Value} {b : Value} {l : List Value} {x : Nat} (hd : decode (yc y) pc = .ok (.astore 9, 2)) : wp sh y pc (a0 :: a1 :: a2 :: a3 :: a4 :: a5 :: a6 :: a7 :: a8 :: b :: l) (.ref x :: st) μ Q = wp sh y (pc + 2) (a0 :: a1 :: a2 :: a3 :: a4 :: a5 :: a6 :: a7 :: a8 :: .ref x :: l) st μ Q := by
  rw [wp_d hd]
  have e : 9 < (a0 :: a1 :: a2 :: a3 :: a4 :: a5 :: a6 :: a7 :: a8 :: b :: l).length := by simp only [List.length_cons]; omega
  show mm_wr sh y μ Q (mm_strr 9 (pc + 2) (a0 :: a1 :: a2 :: a3 :: a4 :: a5 :: a6 :: a7 :: a8 :: b :: l) (.ref x :: st) μ) = _
  unfold mm_strr
  dsimp only
  rw [if_pos e]
  rfl
theorem wp_inc9 {a0 a1 a2 a3 a4 a5 a6 a7 a8 : Value} {l : List Value} {x : Int32} {c : Int} (v : Int32) (hv : Int32.ofInt c = v) (hd : decode (yc y) pc = .ok (.iinc 9 c, 3)) : wp sh y pc (a0 :: a1 :: a2 :: a3 :: a4 :: a5 :: a6 :: a7 :: a8 :: .int x :: l) st μ Q = wp sh y (pc + 3) (a0 :: a1 :: a2 :: a3 :: a4 :: a5 :: a6 :: a7 :: a8 :: .int (x + v) :: l) st μ Q := by
  rw [wp_d hd, ← hv]
  rfl
theorem wp_il10 {a0 a1 a2 a3 a4 a5 a6 a7 a8 a9 : Value} {l : List Value} {x : Int32} (hd : decode (yc y) pc = .ok (.iload 10, 2)) : wp sh y pc (a0 :: a1 :: a2 :: a3 :: a4 :: a5 :: a6 :: a7 :: a8 :: a9 :: .int x :: l) st μ Q = wp sh y (pc + 2) (a0 :: a1 :: a2 :: a3 :: a4 :: a5 :: a6 :: a7 :: a8 :: a9 :: .int x :: l) (.int x :: st) μ Q := by
  rw [wp_d hd]
  rfl
theorem wp_al10 {a0 a1 a2 a3 a4 a5 a6 a7 a8 a9 : Value} {l : List Value} {x : Nat} (hd : decode (yc y) pc = .ok (.aload 10, 2)) : wp sh y pc (a0 :: a1 :: a2 :: a3 :: a4 :: a5 :: a6 :: a7 :: a8 :: a9 :: .ref x :: l) st μ Q = wp sh y (pc + 2) (a0 :: a1 :: a2 :: a3 :: a4 :: a5 :: a6 :: a7 :: a8 :: a9 :: .ref x :: l) (.ref x :: st) μ Q := by
  rw [wp_d hd]
  rfl
theorem wp_is10 {a0 a1 a2 a3 a4 a5 a6 a7 a8 a9 : Value} {b : Value} {l : List Value} {x : Int32} (hd : decode (yc y) pc = .ok (.istore 10, 2)) : wp sh y pc (a0 :: a1 :: a2 :: a3 :: a4 :: a5 :: a6 :: a7 :: a8 :: a9 :: b :: l) (.int x :: st) μ Q = wp sh y (pc + 2) (a0 :: a1 :: a2 :: a3 :: a4 :: a5 :: a6 :: a7 :: a8 :: a9 :: .int x :: l) st μ Q := by
  rw [wp_d hd]
  have e : 10 < (a0 :: a1 :: a2 :: a3 :: a4 :: a5 :: a6 :: a7 :: a8 :: a9 :: b :: l).length := by simp only [List.length_cons]; omega
  show mm_wr sh y μ Q (mm_str 10 (pc + 2) (a0 :: a1 :: a2 :: a3 :: a4 :: a5 :: a6 :: a7 :: a8 :: a9 :: b :: l) (.int x :: st) μ) = _
  unfold mm_str
  dsimp only
  rw [if_pos e]
  rfl
theorem wp_as10 {a0 a1 a2 a3 a4 a5 a6 a7 a8 a9 : Value} {b : Value} {l : List Value} {x : Nat} (hd : decode (yc y) pc = .ok (.astore 10, 2)) : wp sh y pc (a0 :: a1 :: a2 :: a3 :: a4 :: a5 :: a6 :: a7 :: a8 :: a9 :: b :: l) (.ref x :: st) μ Q = wp sh y (pc + 2) (a0 :: a1 :: a2 :: a3 :: a4 :: a5 :: a6 :: a7 :: a8 :: a9 :: .ref x :: l) st μ Q := by
  rw [wp_d hd]
  have e : 10 < (a0 :: a1 :: a2 :: a3 :: a4 :: a5 :: a6 :: a7 :: a8 :: a9 :: b :: l).length := by simp only [List.length_cons]; omega
  show mm_wr sh y μ Q (mm_strr 10 (pc + 2) (a0 :: a1 :: a2 :: a3 :: a4 :: a5 :: a6 :: a7 :: a8 :: a9 :: b :: l) (.ref x :: st) μ) = _
  unfold mm_strr
  dsimp only
  rw [if_pos e]
  rfl
theorem wp_inc10 {a0 a1 a2 a3 a4 a5 a6 a7 a8 a9 : Value} {l : List Value} {x : Int32} {c : Int} (v : Int32) (hv : Int32.ofInt c = v) (hd : decode (yc y) pc = .ok (.iinc 10 c, 3)) : wp sh y pc (a0 :: a1 :: a2 :: a3 :: a4 :: a5 :: a6 :: a7 :: a8 :: a9 :: .int x :: l) st μ Q = wp sh y (pc + 3) (a0 :: a1 :: a2 :: a3 :: a4 :: a5 :: a6 :: a7 :: a8 :: a9 :: .int (x + v) :: l) st μ Q := by
  rw [wp_d hd, ← hv]
  rfl
theorem wp_il11 {a0 a1 a2 a3 a4 a5 a6 a7 a8 a9 a10 : Value} {l : List Value} {x : Int32} (hd : decode (yc y) pc = .ok (.iload 11, 2)) : wp sh y pc (a0 :: a1 :: a2 :: a3 :: a4 :: a5 :: a6 :: a7 :: a8 :: a9 :: a10 :: .int x :: l) st μ Q = wp sh y (pc + 2) (a0 :: a1 :: a2 :: a3 :: a4 :: a5 :: a6 :: a7 :: a8 :: a9 :: a10 :: .int x :: l) (.int x :: st) μ Q := by
  rw [wp_d hd]
  rfl
theorem wp_al11 {a0 a1 a2 a3 a4 a5 a6 a7 a8 a9 a10 : Value} {l : List Value} {x : Nat} (hd : decode (yc y) pc = .ok (.aload 11, 2)) : wp sh y pc (a0 :: a1 :: a2 :: a3 :: a4 :: a5 :: a6 :: a7 :: a8 :: a9 :: a10 :: .ref x :: l) st μ Q = wp sh y (pc + 2) (a0 :: a1 :: a2 :: a3 :: a4 :: a5 :: a6 :: a7 :: a8 :: a9 :: a10 :: .ref x :: l) (.ref x :: st) μ Q := by
  rw [wp_d hd]
  rfl
theorem wp_is11 {a0 a1 a2 a3 a4 a5 a6 a7 a8 a9 a10 : Value} {b : Value} {l : List Value} {x : Int32} (hd : decode (yc y) pc = .ok (.istore 11, 2)) : wp sh y pc (a0 :: a1 :: a2 :: a3 :: a4 :: a5 :: a6 :: a7 :: a8 :: a9 :: a10 :: b :: l) (.int x :: st) μ Q = wp sh y (pc + 2) (a0 :: a1 :: a2 :: a3 :: a4 :: a5 :: a6 :: a7 :: a8 :: a9 :: a10 :: .int x :: l) st μ Q := by
  rw [wp_d hd]
  have e : 11 < (a0 :: a1 :: a2 :: a3 :: a4 :: a5 :: a6 :: a7 :: a8 :: a9 :: a10 :: b :: l).length := by simp only [List.length_cons]; omega
  show mm_wr sh y μ Q (mm_str 11 (pc + 2) (a0 :: a1 :: a2 :: a3 :: a4 :: a5 :: a6 :: a7 :: a8 :: a9 :: a10 :: b :: l) (.int x :: st) μ) = _
  unfold mm_str
  dsimp only
  rw [if_pos e]
  rfl
theorem wp_as11 {a0 a1 a2 a3 a4 a5 a6 a7 a8 a9 a10 : Value} {b : Value} {l : List Value} {x : Nat} (hd : decode (yc y) pc = .ok (.astore 11, 2)) : wp sh y pc (a0 :: a1 :: a2 :: a3 :: a4 :: a5 :: a6 :: a7 :: a8 :: a9 :: a10 :: b :: l) (.ref x :: st) μ Q = wp sh y (pc + 2) (a0 :: a1 :: a2 :: a3 :: a4 :: a5 :: a6 :: a7 :: a8 :: a9 :: a10 :: .ref x :: l) st μ Q := by
  rw [wp_d hd]
  have e : 11 < (a0 :: a1 :: a2 :: a3 :: a4 :: a5 :: a6 :: a7 :: a8 :: a9 :: a10 :: b :: l).length := by simp only [List.length_cons]; omega
  show mm_wr sh y μ Q (mm_strr 11 (pc + 2) (a0 :: a1 :: a2 :: a3 :: a4 :: a5 :: a6 :: a7 :: a8 :: a9 :: a10 :: b :: l) (.ref x :: st) μ) = _
  unfold mm_strr
  dsimp only
  rw [if_pos e]
  rfl
theorem wp_inc11 {a0 a1 a2 a3 a4 a5 a6 a7 a8 a9 a10 : Value} {l : List Value} {x : Int32} {c : Int} (v : Int32) (hv : Int32.ofInt c = v) (hd : decode (yc y) pc = .ok (.iinc 11 c, 3)) : wp sh y pc (a0 :: a1 :: a2 :: a3 :: a4 :: a5 :: a6 :: a7 :: a8 :: a9 :: a10 :: .int x :: l) st μ Q = wp sh y (pc + 3) (a0 :: a1 :: a2 :: a3 :: a4 :: a5 :: a6 :: a7 :: a8 :: a9 :: a10 :: .int (x + v) :: l) st μ Q := by
  rw [wp_d hd, ← hv]
  rfl
theorem wp_il12 {a0 a1 a2 a3 a4 a5 a6 a7 a8 a9 a10 a11 : Value} {l : List Value} {x : Int32} (hd : decode (yc y) pc = .ok (.iload 12, 2)) : wp sh y pc (a0 :: a1 :: a2 :: a3 :: a4 :: a5 :: a6 :: a7 :: a8 :: a9 :: a10 :: a11 :: .int x :: l) st μ Q = wp sh y (pc + 2) (a0 :: a1 :: a2 :: a3 :: a4 :: a5 :: a6 :: a7 :: a8 :: a9 :: a10 :: a11 :: .int x :: l) (.int x :: st) μ Q := by
  rw [wp_d hd]
  rfl
theorem wp_al12 {a0 a1 a2 a3 a4 a5 a6 a7 a8 a9 a10 a11 : Value} {l : List Value} {x : Nat} (hd : decode (yc y) pc = .ok (.aload 12, 2)) : wp sh y pc (a0 :: a1 :: a2 :: a3 :: a4 :: a5 :: a6 :: a7 :: a8 :: a9 :: a10 :: a11 :: .ref x :: l) st μ Q = wp sh y (pc + 2) (a0 :: a1 :: a2 :: a3 :: a4 :: a5 :: a6 :: a7 :: a8 :: a9 :: a10 :: a11 :: .ref x :: l) (.ref x :: st) μ Q := by
  rw [wp_d hd]
  rfl
theorem wp_is12 {a0 a1 a2 a3 a4 a5 a6 a7 a8 a9 a10 a11 : Value} {b : Value} {l : List Value} {x : Int32} (hd : decode (yc y) pc = .ok (.istore 12, 2)) : wp sh y pc (a0 :: a1 :: a2 :: a3 :: a4 :: a5 :: a6 :: a7 :: a8 :: a9 :: a10 :: a11 :: b :: l) (.int x :: st) μ Q = wp sh y (pc + 2) (a0 :: a1 :: a2 :: a3 :: a4 :: a5 :: a6 :: a7 :: a8 :: a9 :: a10 :: a11 :: .int x :: l) st μ Q := by
  rw [wp_d hd]
  have e : 12 < (a0 :: a1 :: a2 :: a3 :: a4 :: a5 :: a6 :: a7 :: a8 :: a9 :: a10 :: a11 :: b :: l).length := by simp only [List.length_cons]; omega
  show mm_wr sh y μ Q (mm_str 12 (pc + 2) (a0 :: a1 :: a2 :: a3 :: a4 :: a5 :: a6 :: a7 :: a8 :: a9 :: a10 :: a11 :: b :: l) (.int x :: st) μ) = _
  unfold mm_str
  dsimp only
  rw [if_pos e]
  rfl
theorem wp_as12 {a0 a1 a2 a3 a4 a5 a6 a7 a8 a9 a10 a11 : Value} {b : Value} {l : List Value} {x : Nat} (hd : decode (yc y) pc = .ok (.astore 12, 2)) : wp sh y pc (a0 :: a1 :: a2 :: a3 :: a4 :: a5 :: a6 :: a7 :: a8 :: a9 :: a10 :: a11 :: b :: l) (.ref x :: st) μ Q = wp sh y (pc + 2) (a0 :: a1 :: a2 :: a3 :: a4 :: a5 :: a6 :: a7 :: a8 :: a9 :: a10 :: a11 :: .ref x :: l) st μ Q := by
  rw [wp_d hd]
  have e : 12 < (a0 :: a1 :: a2 :: a3 :: a4 :: a5 :: a6 :: a7 :: a8 :: a9 :: a10 :: a11 :: b :: l).length := by simp only [List.length_cons]; omega
  show mm_wr sh y μ Q (mm_strr 12 (pc + 2) (a0 :: a1 :: a2 :: a3 :: a4 :: a5 :: a6 :: a7 :: a8 :: a9 :: a10 :: a11 :: b :: l) (.ref x :: st) μ) = _
  unfold mm_strr
  dsimp only
  rw [if_pos e]
  rfl
theorem wp_inc12 {a0 a1 a2 a3 a4 a5 a6 a7 a8 a9 a10 a11 : Value} {l : List Value} {x : Int32} {c : Int} (v : Int32) (hv : Int32.ofInt c = v) (hd : decode (yc y) pc = .ok (.iinc 12 c, 3)) : wp sh y pc (a0 :: a1 :: a2 :: a3 :: a4 :: a5 :: a6 :: a7 :: a8 :: a9 :: a10 :: a11 :: .int x :: l) st μ Q = wp sh y (pc + 3) (a0 :: a1 :: a2 :: a3 :: a4 :: a5 :: a6 :: a7 :: a8 :: a9 :: a10 :: a11 :: .int (x + v) :: l) st μ Q := by
  rw [wp_d hd, ← hv]
  rfl
theorem wp_il13 {a0 a1 a2 a3 a4 a5 a6 a7 a8 a9 a10 a11 a12 : Value} {l : List Value} {x : Int32} (hd : decode (yc y) pc = .ok (.iload 13, 2)) : wp sh y pc (a0 :: a1 :: a2 :: a3 :: a4 :: a5 :: a6 :: a7 :: a8 :: a9 :: a10 :: a11 :: a12 :: .int x :: l) st μ Q = wp sh y (pc + 2) (a0 :: a1 :: a2 :: a3 :: a4 :: a5 :: a6 :: a7 :: a8 :: a9 :: a10 :: a11 :: a12 :: .int x :: l) (.int x :: st) μ Q := by
  rw [wp_d hd]
  rfl
theorem wp_al13 {a0 a1 a2 a3 a4 a5 a6 a7 a8 a9 a10 a11 a12 : Value} {l : List Value} {x : Nat} (hd : decode (yc y) pc = .ok (.aload 13, 2)) : wp sh y pc (a0 :: a1 :: a2 :: a3 :: a4 :: a5 :: a6 :: a7 :: a8 :: a9 :: a10 :: a11 :: a12 :: .ref x :: l) st μ Q = wp sh y (pc + 2) (a0 :: a1 :: a2 :: a3 :: a4 :: a5 :: a6 :: a7 :: a8 :: a9 :: a10 :: a11 :: a12 :: .ref x :: l) (.ref x :: st) μ Q := by
  rw [wp_d hd]
  rfl
theorem wp_is13 {a0 a1 a2 a3 a4 a5 a6 a7 a8 a9 a10 a11 a12 : Value} {b : Value} {l : List Value} {x : Int32} (hd : decode (yc y) pc = .ok (.istore 13, 2)) : wp sh y pc (a0 :: a1 :: a2 :: a3 :: a4 :: a5 :: a6 :: a7 :: a8 :: a9 :: a10 :: a11 :: a12 :: b :: l) (.int x :: st) μ Q = wp sh y (pc + 2) (a0 :: a1 :: a2 :: a3 :: a4 :: a5 :: a6 :: a7 :: a8 :: a9 :: a10 :: a11 :: a12 :: .int x :: l) st μ Q := by
  rw [wp_d hd]
  have e : 13 < (a0 :: a1 :: a2 :: a3 :: a4 :: a5 :: a6 :: a7 :: a8 :: a9 :: a10 :: a11 :: a12 :: b :: l).length := by simp only [List.length_cons]; omega
  show mm_wr sh y μ Q (mm_str 13 (pc + 2) (a0 :: a1 :: a2 :: a3 :: a4 :: a5 :: a6 :: a7 :: a8 :: a9 :: a10 :: a11 :: a12 :: b :: l) (.int x :: st) μ) = _
  unfold mm_str
  dsimp only
  rw [if_pos e]
  rfl
theorem wp_as13 {a0 a1 a2 a3 a4 a5 a6 a7 a8 a9 a10 a11 a12 : Value} {b : Value} {l : List Value} {x : Nat} (hd : decode (yc y) pc = .ok (.astore 13, 2)) : wp sh y pc (a0 :: a1 :: a2 :: a3 :: a4 :: a5 :: a6 :: a7 :: a8 :: a9 :: a10 :: a11 :: a12 :: b :: l) (.ref x :: st) μ Q = wp sh y (pc + 2) (a0 :: a1 :: a2 :: a3 :: a4 :: a5 :: a6 :: a7 :: a8 :: a9 :: a10 :: a11 :: a12 :: .ref x :: l) st μ Q := by
  rw [wp_d hd]
  have e : 13 < (a0 :: a1 :: a2 :: a3 :: a4 :: a5 :: a6 :: a7 :: a8 :: a9 :: a10 :: a11 :: a12 :: b :: l).length := by simp only [List.length_cons]; omega
  show mm_wr sh y μ Q (mm_strr 13 (pc + 2) (a0 :: a1 :: a2 :: a3 :: a4 :: a5 :: a6 :: a7 :: a8 :: a9 :: a10 :: a11 :: a12 :: b :: l) (.ref x :: st) μ) = _
  unfold mm_strr
  dsimp only
  rw [if_pos e]
  rfl
theorem wp_inc13 {a0 a1 a2 a3 a4 a5 a6 a7 a8 a9 a10 a11 a12 : Value} {l : List Value} {x : Int32} {c : Int} (v : Int32) (hv : Int32.ofInt c = v) (hd : decode (yc y) pc = .ok (.iinc 13 c, 3)) : wp sh y pc (a0 :: a1 :: a2 :: a3 :: a4 :: a5 :: a6 :: a7 :: a8 :: a9 :: a10 :: a11 :: a12 :: .int x :: l) st μ Q = wp sh y (pc + 3) (a0 :: a1 :: a2 :: a3 :: a4 :: a5 :: a6 :: a7 :: a8 :: a9 :: a10 :: a11 :: a12 :: .int (x + v) :: l) st μ Q := by
  rw [wp_d hd, ← hv]
  rfl
theorem wp_iadd {a b : Int32} (hd : decode (yc y) pc = .ok (.iadd, 1)) : wp sh y pc ls (.int b :: .int a :: st) μ Q = wp sh y (pc + 1) ls (.int (a + b) :: st) μ Q := by
  rw [wp_d hd]
  rfl
theorem wp_isub {a b : Int32} (hd : decode (yc y) pc = .ok (.isub, 1)) : wp sh y pc ls (.int b :: .int a :: st) μ Q = wp sh y (pc + 1) ls (.int (a - b) :: st) μ Q := by
  rw [wp_d hd]
  rfl
theorem wp_imul {a b : Int32} (hd : decode (yc y) pc = .ok (.imul, 1)) : wp sh y pc ls (.int b :: .int a :: st) μ Q = wp sh y (pc + 1) ls (.int (a * b) :: st) μ Q := by
  rw [wp_d hd]
  rfl
theorem wp_iand {a b : Int32} (hd : decode (yc y) pc = .ok (.iand, 1)) : wp sh y pc ls (.int b :: .int a :: st) μ Q = wp sh y (pc + 1) ls (.int (a &&& b) :: st) μ Q := by
  rw [wp_d hd]
  rfl
theorem wp_ixor {a b : Int32} (hd : decode (yc y) pc = .ok (.ixor, 1)) : wp sh y pc ls (.int b :: .int a :: st) μ Q = wp sh y (pc + 1) ls (.int (a ^^^ b) :: st) μ Q := by
  rw [wp_d hd]
  rfl
theorem wp_ishr {a b : Int32} (hd : decode (yc y) pc = .ok (.ishr, 1)) : wp sh y pc ls (.int b :: .int a :: st) μ Q = wp sh y (pc + 1) ls (.int (a >>> (b &&& 31)) :: st) μ Q := by
  rw [wp_d hd]
  rfl
theorem wp_ladd {a b : Int64} (hd : decode (yc y) pc = .ok (.ladd, 1)) : wp sh y pc ls (.long b :: .long a :: st) μ Q = wp sh y (pc + 1) ls (.long (a + b) :: st) μ Q := by
  rw [wp_d hd]
  rfl
theorem wp_lsub {a b : Int64} (hd : decode (yc y) pc = .ok (.lsub, 1)) : wp sh y pc ls (.long b :: .long a :: st) μ Q = wp sh y (pc + 1) ls (.long (a - b) :: st) μ Q := by
  rw [wp_d hd]
  rfl
theorem wp_lmul {a b : Int64} (hd : decode (yc y) pc = .ok (.lmul, 1)) : wp sh y pc ls (.long b :: .long a :: st) μ Q = wp sh y (pc + 1) ls (.long (a * b) :: st) μ Q := by
  rw [wp_d hd]
  rfl
theorem wp_idiv {a b : Int32} (hb : ¬ b = 0) (hd : decode (yc y) pc = .ok (.idiv, 1)) : wp sh y pc ls (.int b :: .int a :: st) μ Q = wp sh y (pc + 1) ls (.int (a / b) :: st) μ Q := by
  rw [wp_d hd]
  unfold mm_ins
  dsimp only
  rw [if_pos ⟨rfl, hb⟩]
  rfl
theorem wp_irem {a b : Int32} (hb : ¬ b = 0) (hd : decode (yc y) pc = .ok (.irem, 1)) : wp sh y pc ls (.int b :: .int a :: st) μ Q = wp sh y (pc + 1) ls (.int (a - a / b * b) :: st) μ Q := by
  rw [wp_d hd]
  unfold mm_ins
  dsimp only
  rw [if_pos ⟨rfl, hb⟩]
  rfl
theorem wp_lrem {a b : Int64} (hb : ¬ b = 0) (hd : decode (yc y) pc = .ok (.lrem, 1)) : wp sh y pc ls (.long b :: .long a :: st) μ Q = wp sh y (pc + 1) ls (.long (a - a / b * b) :: st) μ Q := by
  rw [wp_d hd]
  unfold mm_ins
  dsimp only
  rw [if_pos ⟨rfl, hb⟩]
  rfl
theorem wp_ineg {a : Int32} (hd : decode (yc y) pc = .ok (.ineg, 1)) : wp sh y pc ls (.int a :: st) μ Q = wp sh y (pc + 1) ls (.int (-a) :: st) μ Q := by
  rw [wp_d hd]
  rfl
theorem wp_i2l {a : Int32} (hd : decode (yc y) pc = .ok (.i2l, 1)) : wp sh y pc ls (.int a :: st) μ Q = wp sh y (pc + 1) ls (.long a.toInt64 :: st) μ Q := by
  rw [wp_d hd]
  rfl
theorem wp_l2i {a : Int64} (hd : decode (yc y) pc = .ok (.l2i, 1)) : wp sh y pc ls (.long a :: st) μ Q = wp sh y (pc + 1) ls (.int a.toInt32 :: st) μ Q := by
  rw [wp_d hd]
  rfl
theorem wp_dup_int {a : Int32} (hd : decode (yc y) pc = .ok (.dup, 1)) : wp sh y pc ls (.int a :: st) μ Q = wp sh y (pc + 1) ls (.int a :: .int a :: st) μ Q := by
  rw [wp_d hd]
  rfl
theorem wp_pop_int {a : Int32} (hd : decode (yc y) pc = .ok (.pop, 1)) : wp sh y pc ls (.int a :: st) μ Q = wp sh y (pc + 1) ls st μ Q := by
  rw [wp_d hd]
  rfl
theorem wp_dup_ref {a : Nat} (hd : decode (yc y) pc = .ok (.dup, 1)) : wp sh y pc ls (.ref a :: st) μ Q = wp sh y (pc + 1) ls (.ref a :: .ref a :: st) μ Q := by
  rw [wp_d hd]
  rfl
theorem wp_pop_ref {a : Nat} (hd : decode (yc y) pc = .ok (.pop, 1)) : wp sh y pc ls (.ref a :: st) μ Q = wp sh y (pc + 1) ls st μ Q := by
  rw [wp_d hd]
  rfl
theorem wp_dup2 {a : Int32} {b : Nat} (hd : decode (yc y) pc = .ok (.dup2, 1)) : wp sh y pc ls (.int a :: .ref b :: st) μ Q = wp sh y (pc + 1) ls (.int a :: .ref b :: .int a :: .ref b :: st) μ Q := by
  rw [wp_d hd]
  rfl
theorem wp_if_eq {x : Int32} {off : Int} (tgt : Nat) (ht : (pc : Int) + off = (tgt : Int)) (hd : decode (yc y) pc = .ok (.ifCond .eq off, 3)) : wp sh y pc ls (.int x :: st) μ Q = if x = 0 then wp sh y (tgt) ls st μ Q else wp sh y (pc + 3) ls st μ Q := by
  rw [wp_d hd]
  have e : mm_tg pc off = some tgt := by
    unfold mm_tg
    rw [ht]
  unfold mm_ins
  simp only [e, mm_cz, decide_eq_true_eq, if_true]
  split <;> rfl
theorem wp_icmp_eq {x b : Int32} {off : Int} (tgt : Nat) (ht : (pc : Int) + off = (tgt : Int)) (hd : decode (yc y) pc = .ok (.if_icmp .eq off, 3)) : wp sh y pc ls (.int b :: .int x :: st) μ Q = if x = b then wp sh y (tgt) ls st μ Q else wp sh y (pc + 3) ls st μ Q := by
  rw [wp_d hd]
  have e : mm_tg pc off = some tgt := by
    unfold mm_tg
    rw [ht]
  unfold mm_ins
  simp only [e, mm_ci, decide_eq_true_eq, if_true]
  split <;> rfl
theorem wp_if_ne {x : Int32} {off : Int} (tgt : Nat) (ht : (pc : Int) + off = (tgt : Int)) (hd : decode (yc y) pc = .ok (.ifCond .ne off, 3)) : wp sh y pc ls (.int x :: st) μ Q = if ¬ x = 0 then wp sh y (tgt) ls st μ Q else wp sh y (pc + 3) ls st μ Q := by
  rw [wp_d hd]
  have e : mm_tg pc off = some tgt := by
    unfold mm_tg
    rw [ht]
  unfold mm_ins
  simp only [e, mm_cz, decide_eq_true_eq, if_true]
  split <;> rfl
theorem wp_icmp_ne {x b : Int32} {off : Int} (tgt : Nat) (ht : (pc : Int) + off = (tgt : Int)) (hd : decode (yc y) pc = .ok (.if_icmp .ne off, 3)) : wp sh y pc ls (.int b :: .int x :: st) μ Q = if ¬ x = b then wp sh y (tgt) ls st μ Q else wp sh y (pc + 3) ls st μ Q := by
  rw [wp_d hd]
  have e : mm_tg pc off = some tgt := by
    unfold mm_tg
    rw [ht]
  unfold mm_ins
  simp only [e, mm_ci, decide_eq_true_eq, if_true]
  split <;> rfl
theorem wp_if_lt {x : Int32} {off : Int} (tgt : Nat) (ht : (pc : Int) + off = (tgt : Int)) (hd : decode (yc y) pc = .ok (.ifCond .lt off, 3)) : wp sh y pc ls (.int x :: st) μ Q = if x < 0 then wp sh y (tgt) ls st μ Q else wp sh y (pc + 3) ls st μ Q := by
  rw [wp_d hd]
  have e : mm_tg pc off = some tgt := by
    unfold mm_tg
    rw [ht]
  unfold mm_ins
  simp only [e, mm_cz, decide_eq_true_eq, if_true]
  split <;> rfl
theorem wp_icmp_lt {x b : Int32} {off : Int} (tgt : Nat) (ht : (pc : Int) + off = (tgt : Int)) (hd : decode (yc y) pc = .ok (.if_icmp .lt off, 3)) : wp sh y pc ls (.int b :: .int x :: st) μ Q = if x < b then wp sh y (tgt) ls st μ Q else wp sh y (pc + 3) ls st μ Q := by
  rw [wp_d hd]
  have e : mm_tg pc off = some tgt := by
    unfold mm_tg
    rw [ht]
  unfold mm_ins
  simp only [e, mm_ci, decide_eq_true_eq, if_true]
  split <;> rfl
theorem wp_if_ge {x : Int32} {off : Int} (tgt : Nat) (ht : (pc : Int) + off = (tgt : Int)) (hd : decode (yc y) pc = .ok (.ifCond .ge off, 3)) : wp sh y pc ls (.int x :: st) μ Q = if 0 ≤ x then wp sh y (tgt) ls st μ Q else wp sh y (pc + 3) ls st μ Q := by
  rw [wp_d hd]
  have e : mm_tg pc off = some tgt := by
    unfold mm_tg
    rw [ht]
  unfold mm_ins
  simp only [e, mm_cz, decide_eq_true_eq, if_true]
  split <;> rfl
theorem wp_icmp_ge {x b : Int32} {off : Int} (tgt : Nat) (ht : (pc : Int) + off = (tgt : Int)) (hd : decode (yc y) pc = .ok (.if_icmp .ge off, 3)) : wp sh y pc ls (.int b :: .int x :: st) μ Q = if b ≤ x then wp sh y (tgt) ls st μ Q else wp sh y (pc + 3) ls st μ Q := by
  rw [wp_d hd]
  have e : mm_tg pc off = some tgt := by
    unfold mm_tg
    rw [ht]
  unfold mm_ins
  simp only [e, mm_ci, decide_eq_true_eq, if_true]
  split <;> rfl
theorem wp_if_gt {x : Int32} {off : Int} (tgt : Nat) (ht : (pc : Int) + off = (tgt : Int)) (hd : decode (yc y) pc = .ok (.ifCond .gt off, 3)) : wp sh y pc ls (.int x :: st) μ Q = if 0 < x then wp sh y (tgt) ls st μ Q else wp sh y (pc + 3) ls st μ Q := by
  rw [wp_d hd]
  have e : mm_tg pc off = some tgt := by
    unfold mm_tg
    rw [ht]
  unfold mm_ins
  simp only [e, mm_cz, decide_eq_true_eq, if_true]
  split <;> rfl
theorem wp_icmp_gt {x b : Int32} {off : Int} (tgt : Nat) (ht : (pc : Int) + off = (tgt : Int)) (hd : decode (yc y) pc = .ok (.if_icmp .gt off, 3)) : wp sh y pc ls (.int b :: .int x :: st) μ Q = if b < x then wp sh y (tgt) ls st μ Q else wp sh y (pc + 3) ls st μ Q := by
  rw [wp_d hd]
  have e : mm_tg pc off = some tgt := by
    unfold mm_tg
    rw [ht]
  unfold mm_ins
  simp only [e, mm_ci, decide_eq_true_eq, if_true]
  split <;> rfl
theorem wp_if_le {x : Int32} {off : Int} (tgt : Nat) (ht : (pc : Int) + off = (tgt : Int)) (hd : decode (yc y) pc = .ok (.ifCond .le off, 3)) : wp sh y pc ls (.int x :: st) μ Q = if x ≤ 0 then wp sh y (tgt) ls st μ Q else wp sh y (pc + 3) ls st μ Q := by
  rw [wp_d hd]
  have e : mm_tg pc off = some tgt := by
    unfold mm_tg
    rw [ht]
  unfold mm_ins
  simp only [e, mm_cz, decide_eq_true_eq, if_true]
  split <;> rfl
theorem wp_icmp_le {x b : Int32} {off : Int} (tgt : Nat) (ht : (pc : Int) + off = (tgt : Int)) (hd : decode (yc y) pc = .ok (.if_icmp .le off, 3)) : wp sh y pc ls (.int b :: .int x :: st) μ Q = if x ≤ b then wp sh y (tgt) ls st μ Q else wp sh y (pc + 3) ls st μ Q := by
  rw [wp_d hd]
  have e : mm_tg pc off = some tgt := by
    unfold mm_tg
    rw [ht]
  unfold mm_ins
  simp only [e, mm_ci, decide_eq_true_eq, if_true]
  split <;> rfl
theorem wp_goto {off : Int} (tgt : Nat) (ht : (pc : Int) + off = (tgt : Int)) (hd : decode (yc y) pc = .ok (.goto off, 3)) : wp sh y pc ls st μ Q = wp sh y (tgt) ls st μ Q := by
  rw [wp_d hd]
  have e : mm_tg pc off = some tgt := by
    unfold mm_tg
    rw [ht]
  unfold mm_ins
  simp only [e, if_true]
  rfl
theorem wp_tsOut {x : Int32} {d lo hi : Int} {offs : Array Int} {n : Nat} (tgt : Nat) (hd : decode (yc y) pc = .ok (.tableswitch d lo hi offs, n)) (ht : (pc : Int) + d = (tgt : Int)) (h : x.toInt < lo ∨ hi < x.toInt) : wp sh y pc ls (.int x :: st) μ Q = wp sh y tgt ls st μ Q := by
  rw [wp_d hd]
  have e : mm_tg pc d = some tgt := by
    unfold mm_tg
    rw [ht]
  unfold mm_ins
  simp only [e, h, if_true]
  rfl
theorem wp_tsIn {x : Int32} {d lo hi off : Int} {offs : Array Int} {n : Nat} (tgt : Nat) (hd : decode (yc y) pc = .ok (.tableswitch d lo hi offs, n)) (h : ¬ (x.toInt < lo ∨ hi < x.toInt)) (ho : offs[(x.toInt - lo).toNat]? = some off) (ht : (pc : Int) + off = (tgt : Int)) : wp sh y pc ls (.int x :: st) μ Q = wp sh y tgt ls st μ Q := by
  rw [wp_d hd]
  have e : mm_tg pc off = some tgt := by
    unfold mm_tg
    rw [ht]
  unfold mm_ins
  simp only [e, h, ho, if_false]
  rfl
theorem wp_ls {x : Int32} {d off : Int} {ps : Array (Int × Int)} {n : Nat} (tgt : Nat) (hd : decode (yc y) pc = .ok (.lookupswitch d ps, n)) (hp : (ps.toList.zip (ps.toList.drop 1)).all (fun (a, next) => a.1 < next.1) = true) (ho : Op.lookupswitch.offset ps.toList d x.toInt = off) (ht : (pc : Int) + off = (tgt : Int)) : wp sh y pc ls (.int x :: st) μ Q = wp sh y tgt ls st μ Q := by
  rw [wp_d hd]
  have e : mm_tg pc off = some tgt := by
    unfold mm_tg
    rw [ht]
  unfold mm_ins
  dsimp only
  rw [if_pos hp, ho, e]
  rfl
theorem wp_getf {a idx ci k : Nat} (hk : mm_lk (mm_F (yo y)) idx = some (ci, k)) (hd : decode (yc y) pc = .ok (.getfield idx, 3)) : wp sh y pc ls (.ref a :: st) μ Q = mm_op (mm_gf sh μ a ci k) (fun v => wp sh y (pc + 3) ls (v :: st) μ Q) := by
  rw [wp_d hd]
  unfold mm_ins
  simp only [hk]
  cases mm_gf sh μ a ci k <;> rfl
theorem wp_putf {a idx ci k : Nat} {v : Value} (hk : mm_lk (mm_F (yo y)) idx = some (ci, k)) (hn : mm_nf ci k = true) (hd : decode (yc y) pc = .ok (.putfield idx, 3)) : wp sh y pc ls (v :: .ref a :: st) μ Q = mm_op (mm_pf sh μ a ci k v) (fun μ' => wp sh y (pc + 3) ls st μ' Q) := by
  rw [wp_d hd]
  unfold mm_ins
  simp only [hk]
  cases h : mm_pf sh μ a ci k v with
  | none => rfl
  | some μ' =>
    dsimp only
    rw [if_pos ⟨trivial, hn⟩]
    rfl
theorem wp_gets {idx t : Nat} (hk : mm_lk (mm_S (yo y)) idx = some t) (ht : t < 2) (hd : decode (yc y) pc = .ok (.getstatic idx, 3)) : wp sh y pc ls st μ Q = wp sh y (pc + 3) ls (.retAddr t :: st) μ Q := by
  rw [wp_d hd]
  unfold mm_ins
  simp only [hk]
  rw [if_pos ⟨trivial, ht⟩]
  rfl
theorem wp_iald {a : Nat} {i : Int32} (hd : decode (yc y) pc = .ok (.iaload, 1)) : wp sh y pc ls (.int i :: .ref a :: st) μ Q = (mm_in i (mm_al sh a) = true ∧ wp sh y (pc + 1) ls (.int (μ a i.toNatClampNeg) :: st) μ Q) := by
  rw [wp_d hd]
  unfold mm_ins
  dsimp only
  cases h : mm_in i (mm_al sh a) with
  | false =>
    rw [if_neg (by simp)]
    exact propext ⟨False.elim, fun q => by simp at q⟩
  | true =>
    rw [if_pos ⟨rfl, rfl⟩]
    exact propext ⟨fun q => ⟨rfl, q⟩, fun q => q.2⟩
/-- a read at a known place -/
theorem wp_ia {a k : Nat} {v : Int32} (hk : k < mm_al sh a) (h31 : k < 2 ^ 31) (hv : μ a k = v) (hd : decode (yc y) pc = .ok (.iaload, 1)) : wp sh y pc ls (.int (nI k) :: .ref a :: st) μ Q = wp sh y (pc + 1) ls (.int v :: st) μ Q := by
  rw [wp_iald hd, mm_in_nI h31, nI_clamp h31, hv]
  exact propext ⟨fun q => q.2, fun q => ⟨hk, q⟩⟩
theorem wp_ialdS {t : Nat} {i : Int32} (ht : t < 2) (hd : decode (yc y) pc = .ok (.iaload, 1)) : wp sh y pc ls (.int i :: .retAddr t :: st) μ Q = (mm_in i 6 = true ∧ wp sh y (pc + 1) ls (.int (mm_to t i.toNatClampNeg) :: st) μ Q) := by
  rw [wp_d hd]
  unfold mm_ins
  dsimp only
  cases h : mm_in i 6 with
  | false =>
    rw [if_neg (by simp)]
    exact propext ⟨False.elim, fun q => by simp at q⟩
  | true =>
    rw [if_pos ⟨rfl, rfl, ht⟩]
    exact propext ⟨fun q => ⟨rfl, q⟩, fun q => q.2⟩
theorem wp_iast {a : Nat} {i v : Int32} (hd : decode (yc y) pc = .ok (.iastore, 1)) : wp sh y pc ls (.int v :: .int i :: .ref a :: st) μ Q = (mm_in i (mm_al sh a) = true ∧ wp sh y (pc + 1) ls st (mu μ a (upd (μ a) i.toNatClampNeg v)) Q) := by
  rw [wp_d hd]
  unfold mm_ins
  dsimp only
  cases h : mm_in i (mm_al sh a) with
  | false =>
    rw [if_neg (by simp)]
    exact propext ⟨False.elim, fun q => by simp at q⟩
  | true =>
    rw [if_pos ⟨rfl, rfl⟩]
    exact propext ⟨fun q => ⟨rfl, q⟩, fun q => q.2⟩
theorem wp_bald {a : Nat} {i : Int32} (hd : decode (yc y) pc = .ok (.baload, 1)) : wp sh y pc ls (.int i :: .ref a :: st) μ Q = (mm_in i (mm_bl sh a) = true ∧ wp sh y (pc + 1) ls (.int (μ a i.toNatClampNeg) :: st) μ Q) := by
  rw [wp_d hd]
  unfold mm_ins
  dsimp only
  cases h : mm_in i (mm_bl sh a) with
  | false =>
    rw [if_neg (by simp)]
    exact propext ⟨False.elim, fun q => by simp at q⟩
  | true =>
    rw [if_pos ⟨rfl, rfl⟩]
    exact propext ⟨fun q => ⟨rfl, q⟩, fun q => q.2⟩
theorem wp_bast {a : Nat} {i v : Int32} (hv : v = 0 ∨ v = 1) (hd : decode (yc y) pc = .ok (.bastore, 1)) : wp sh y pc ls (.int v :: .int i :: .ref a :: st) μ Q = (mm_in i (mm_bl sh a) = true ∧ wp sh y (pc + 1) ls st (mu μ a (upd (μ a) i.toNatClampNeg v)) Q) := by
  rw [wp_d hd]
  unfold mm_ins
  dsimp only
  cases h : mm_in i (mm_bl sh a) with
  | false =>
    rw [if_neg (by simp)]
    exact propext ⟨False.elim, fun q => by simp at q⟩
  | true =>
    rw [if_pos ⟨rfl, rfl, hv⟩]
    exact propext ⟨fun q => ⟨rfl, q⟩, fun q => q.2⟩
theorem wp_acp {a a0 idx : Nat} {n sp dp : Int32} (hm : mm_lk (mm_M (yo y)) idx = none) (hk : mm_lk (mm_P (yo y)) idx = some 0) (hr : 0 < yr y) (h0 : 0 < n.toNatClampNeg) (hd : decode (yc y) pc = .ok (.invokestatic idx, 3)) : wp sh y pc ls [.int n, .int dp, .ref a, .int sp, .ref a0] μ Q = ((¬ sp < 0 ∧ ¬ dp < 0 ∧ ¬ n < 0 ∧ sp.toNatClampNeg + n.toNatClampNeg ≤ mm_al sh a0 ∧ dp.toNatClampNeg + n.toNatClampNeg ≤ mm_al sh a) ∧ wp sh y (pc + 3) ls [] (mu μ a (va_cpy (μ a0) (μ a) sp.toNatClampNeg dp.toNatClampNeg n.toNatClampNeg)) Q) := by
  rw [wp_d hd]
  unfold mm_ins
  simp only [hm, hk]
  unfold mm_acp
  dsimp only
  by_cases h : ¬ sp < 0 ∧ ¬ dp < 0 ∧ ¬ n < 0 ∧ sp.toNatClampNeg + n.toNatClampNeg ≤ mm_al sh a0 ∧ dp.toNatClampNeg + n.toNatClampNeg ≤ mm_al sh a
  · rw [if_pos trivial, if_pos ⟨h.1, h.2.1, h.2.2.1, h.2.2.2.1, h.2.2.2.2, hr, h0⟩]
    exact propext ⟨fun q => ⟨h, q⟩, fun q => q.2⟩
  · rw [if_pos trivial, if_neg (fun q => h ⟨q.1, q.2.1, q.2.2.1, q.2.2.2.1, q.2.2.2.2.1⟩)]
    exact propext ⟨False.elim, fun q => h q.1⟩
theorem wp_in {idx : Nat} {v lo hi : Int64} (hm : mm_lk (mm_M (yo y)) idx = none) (hk : mm_lk (mm_P (yo y)) idx = some 1) (hr : 0 < yr y) (hd : decode (yc y) pc = .ok (.invokestatic idx, 3)) : wp sh y pc ls (.long hi :: .long lo :: .long v :: st) μ Q = (mm_ok st = true ∧ wp sh y (pc + 3) ls (.int (mm_isin v lo hi) :: st) μ Q) := by
  rw [wp_d hd]
  unfold mm_ins
  simp only [hm, hk]
  unfold mm_inp
  dsimp only
  cases h : mm_ok st with
  | false =>
    rw [if_pos trivial, if_neg (by simp)]
    exact propext ⟨False.elim, fun q => by simp at q⟩
  | true =>
    rw [if_pos trivial, if_pos ⟨rfl, hr⟩]
    exact propext ⟨fun q => ⟨rfl, q⟩, fun q => q.2⟩
theorem wp_ireti {v : Int32} (ht : yt y = some .int) (hd : decode (yc y) pc = .ok (.ireturn, 1)) : wp sh y pc ls [.int v] μ Q = Q (some (.int v)) μ := by
  rw [wp_d hd]
  unfold mm_ins
  simp only [ht]
  rfl
theorem wp_iretz {v : Int32} (ht : yt y = some .boolean) (hd : decode (yc y) pc = .ok (.ireturn, 1)) : wp sh y pc ls [.int v] μ Q = ((v = 0 ∨ v = 1) ∧ Q (some (.int v)) μ) := by
  rw [wp_d hd]
  unfold mm_ins
  simp only [ht]
  by_cases h : v = 0 ∨ v = 1
  · rw [if_pos ⟨trivial, h⟩]
    exact propext ⟨fun q => ⟨h, q⟩, fun q => q.2⟩
  · rw [if_neg (fun q => h q.2)]
    exact propext ⟨False.elim, fun q => h q.1⟩
theorem wp_iretb {c : Prop} [Decidable c] (ht : yt y = some .boolean) (hd : decode (yc y) pc = .ok (.ireturn, 1)) : wp sh y pc ls [.int (if c then 1 else 0)] μ Q = Q (some (.int (if c then 1 else 0))) μ := by
  rw [wp_iretz ht hd]
  refine propext ⟨fun q => q.2, fun q => ⟨?_, q⟩⟩
  by_cases h : c
  · rw [if_pos h]; exact Or.inr rfl
  · rw [if_neg h]; exact Or.inl rfl
theorem wp_vret (ht : yt y = none) (hd : decode (yc y) pc = .ok (.return_, 1)) : wp sh y pc ls [] μ Q = Q none μ := by
  rw [wp_d hd]
  unfold mm_ins
  simp only [ht]
  rfl
theorem wp_cv0 {a idx : Nat} {z : mm_Y} (hk : mm_lk (mm_M (yo y)) idx = some (true, z)) (hz : yn z = 1 ∧ yr z < yr y ∧ yn z ≤ yl z) (hd : decode (yc y) pc = .ok (.invokevirtual idx, 3)) : wp sh y pc ls (.ref a :: st) μ Q = (mm_oc sh a (yo z) = true ∧ mm_ok st = true ∧ cl sh z [.ref a] μ (fun r μ' => wp sh y (pc + 3) ls (mm_rc r st) μ' Q)) := by
  rw [wp_d hd]
  unfold mm_ins
  simp only [hk]
  rw [if_pos trivial]
  unfold mm_cv
  obtain ⟨h1, h2, h3⟩ := hz
  rw [h1] at h3 ⊢
  simp only [List.take, List.drop, List.reverse_cons, List.reverse_nil, List.nil_append, List.cons_append, List.length_cons, List.length_nil, List.all_cons, List.all_nil, mm_ir, Bool.and_true, h2, h3, true_and, and_true]
  by_cases h : mm_oc sh a (yo z) = true ∧ mm_ok st = true
  · rw [if_pos (by simpa using h)]
    exact propext ⟨fun q => ⟨h.1, h.2, q⟩, fun q => q.2.2⟩
  · rw [if_neg (by simpa using h)]
    exact propext ⟨False.elim, fun q => h ⟨q.1, q.2.1⟩⟩
theorem wp_cv1 {a idx : Nat} {x1 : Int32} {z : mm_Y} (hk : mm_lk (mm_M (yo y)) idx = some (true, z)) (hz : yn z = 2 ∧ yr z < yr y ∧ yn z ≤ yl z) (hd : decode (yc y) pc = .ok (.invokevirtual idx, 3)) : wp sh y pc ls (.int x1 :: .ref a :: st) μ Q = (mm_oc sh a (yo z) = true ∧ mm_ok st = true ∧ cl sh z [.ref a, .int x1] μ (fun r μ' => wp sh y (pc + 3) ls (mm_rc r st) μ' Q)) := by
  rw [wp_d hd]
  unfold mm_ins
  simp only [hk]
  rw [if_pos trivial]
  unfold mm_cv
  obtain ⟨h1, h2, h3⟩ := hz
  rw [h1] at h3 ⊢
  simp only [List.take, List.drop, List.reverse_cons, List.reverse_nil, List.nil_append, List.cons_append, List.length_cons, List.length_nil, List.all_cons, List.all_nil, mm_ir, Bool.and_true, h2, h3, true_and, and_true]
  by_cases h : mm_oc sh a (yo z) = true ∧ mm_ok st = true
  · rw [if_pos (by simpa using h)]
    exact propext ⟨fun q => ⟨h.1, h.2, q⟩, fun q => q.2.2⟩
  · rw [if_neg (by simpa using h)]
    exact propext ⟨False.elim, fun q => h ⟨q.1, q.2.1⟩⟩
theorem wp_cv2 {a idx : Nat} {x1 x2 : Int32} {z : mm_Y} (hk : mm_lk (mm_M (yo y)) idx = some (true, z)) (hz : yn z = 3 ∧ yr z < yr y ∧ yn z ≤ yl z) (hd : decode (yc y) pc = .ok (.invokevirtual idx, 3)) : wp sh y pc ls (.int x2 :: .int x1 :: .ref a :: st) μ Q = (mm_oc sh a (yo z) = true ∧ mm_ok st = true ∧ cl sh z [.ref a, .int x1, .int x2] μ (fun r μ' => wp sh y (pc + 3) ls (mm_rc r st) μ' Q)) := by
  rw [wp_d hd]
  unfold mm_ins
  simp only [hk]
  rw [if_pos trivial]
  unfold mm_cv
  obtain ⟨h1, h2, h3⟩ := hz
  rw [h1] at h3 ⊢
  simp only [List.take, List.drop, List.reverse_cons, List.reverse_nil, List.nil_append, List.cons_append, List.length_cons, List.length_nil, List.all_cons, List.all_nil, mm_ir, Bool.and_true, h2, h3, true_and, and_true]
  by_cases h : mm_oc sh a (yo z) = true ∧ mm_ok st = true
  · rw [if_pos (by simpa using h)]
    exact propext ⟨fun q => ⟨h.1, h.2, q⟩, fun q => q.2.2⟩
  · rw [if_neg (by simpa using h)]
    exact propext ⟨False.elim, fun q => h ⟨q.1, q.2.1⟩⟩
theorem wp_cv3 {a idx : Nat} {x1 x2 x3 : Int32} {z : mm_Y} (hk : mm_lk (mm_M (yo y)) idx = some (true, z)) (hz : yn z = 4 ∧ yr z < yr y ∧ yn z ≤ yl z) (hd : decode (yc y) pc = .ok (.invokevirtual idx, 3)) : wp sh y pc ls (.int x3 :: .int x2 :: .int x1 :: .ref a :: st) μ Q = (mm_oc sh a (yo z) = true ∧ mm_ok st = true ∧ cl sh z [.ref a, .int x1, .int x2, .int x3] μ (fun r μ' => wp sh y (pc + 3) ls (mm_rc r st) μ' Q)) := by
  rw [wp_d hd]
  unfold mm_ins
  simp only [hk]
  rw [if_pos trivial]
  unfold mm_cv
  obtain ⟨h1, h2, h3⟩ := hz
  rw [h1] at h3 ⊢
  simp only [List.take, List.drop, List.reverse_cons, List.reverse_nil, List.nil_append, List.cons_append, List.length_cons, List.length_nil, List.all_cons, List.all_nil, mm_ir, Bool.and_true, h2, h3, true_and, and_true]
  by_cases h : mm_oc sh a (yo z) = true ∧ mm_ok st = true
  · rw [if_pos (by simpa using h)]
    exact propext ⟨fun q => ⟨h.1, h.2, q⟩, fun q => q.2.2⟩
  · rw [if_neg (by simpa using h)]
    exact propext ⟨False.elim, fun q => h ⟨q.1, q.2.1⟩⟩
theorem wp_cv4 {a idx : Nat} {x1 x2 x3 x4 : Int32} {z : mm_Y} (hk : mm_lk (mm_M (yo y)) idx = some (true, z)) (hz : yn z = 5 ∧ yr z < yr y ∧ yn z ≤ yl z) (hd : decode (yc y) pc = .ok (.invokevirtual idx, 3)) : wp sh y pc ls (.int x4 :: .int x3 :: .int x2 :: .int x1 :: .ref a :: st) μ Q = (mm_oc sh a (yo z) = true ∧ mm_ok st = true ∧ cl sh z [.ref a, .int x1, .int x2, .int x3, .int x4] μ (fun r μ' => wp sh y (pc + 3) ls (mm_rc r st) μ' Q)) := by
  rw [wp_d hd]
  unfold mm_ins
  simp only [hk]
  rw [if_pos trivial]
  unfold mm_cv
  obtain ⟨h1, h2, h3⟩ := hz
  rw [h1] at h3 ⊢
  simp only [List.take, List.drop, List.reverse_cons, List.reverse_nil, List.nil_append, List.cons_append, List.length_cons, List.length_nil, List.all_cons, List.all_nil, mm_ir, Bool.and_true, h2, h3, true_and, and_true]
  by_cases h : mm_oc sh a (yo z) = true ∧ mm_ok st = true
  · rw [if_pos (by simpa using h)]
    exact propext ⟨fun q => ⟨h.1, h.2, q⟩, fun q => q.2.2⟩
  · rw [if_neg (by simpa using h)]
    exact propext ⟨False.elim, fun q => h ⟨q.1, q.2.1⟩⟩
theorem wp_cv5 {a idx : Nat} {x1 x2 x3 x4 x5 : Int32} {z : mm_Y} (hk : mm_lk (mm_M (yo y)) idx = some (true, z)) (hz : yn z = 6 ∧ yr z < yr y ∧ yn z ≤ yl z) (hd : decode (yc y) pc = .ok (.invokevirtual idx, 3)) : wp sh y pc ls (.int x5 :: .int x4 :: .int x3 :: .int x2 :: .int x1 :: .ref a :: st) μ Q = (mm_oc sh a (yo z) = true ∧ mm_ok st = true ∧ cl sh z [.ref a, .int x1, .int x2, .int x3, .int x4, .int x5] μ (fun r μ' => wp sh y (pc + 3) ls (mm_rc r st) μ' Q)) := by
  rw [wp_d hd]
  unfold mm_ins
  simp only [hk]
  rw [if_pos trivial]
  unfold mm_cv
  obtain ⟨h1, h2, h3⟩ := hz
  rw [h1] at h3 ⊢
  simp only [List.take, List.drop, List.reverse_cons, List.reverse_nil, List.nil_append, List.cons_append, List.length_cons, List.length_nil, List.all_cons, List.all_nil, mm_ir, Bool.and_true, h2, h3, true_and, and_true]
  by_cases h : mm_oc sh a (yo z) = true ∧ mm_ok st = true
  · rw [if_pos (by simpa using h)]
    exact propext ⟨fun q => ⟨h.1, h.2, q⟩, fun q => q.2.2⟩
  · rw [if_neg (by simpa using h)]
    exact propext ⟨False.elim, fun q => h ⟨q.1, q.2.1⟩⟩
theorem wp_cs1 {idx : Nat} {x1 : Int32} {z : mm_Y} (hk : mm_lk (mm_M (yo y)) idx = some (false, z)) (hz : yn z = 1 ∧ yr z < yr y ∧ yn z ≤ yl z) (hd : decode (yc y) pc = .ok (.invokestatic idx, 3)) : wp sh y pc ls (.int x1 :: st) μ Q = (mm_ok st = true ∧ cl sh z [.int x1] μ (fun r μ' => wp sh y (pc + 3) ls (mm_rc r st) μ' Q)) := by
  rw [wp_d hd]
  unfold mm_ins
  simp only [hk]
  rw [if_pos trivial]
  unfold mm_cs
  obtain ⟨h1, h2, h3⟩ := hz
  rw [h1] at h3 ⊢
  simp only [List.take, List.drop, List.reverse_cons, List.reverse_nil, List.nil_append, List.cons_append, List.length_cons, List.length_nil, List.all_cons, List.all_nil, mm_ir, Bool.and_true, h2, h3, true_and, and_true]
  by_cases h : mm_ok st = true
  · rw [if_pos (by simpa using h)]
    exact propext ⟨fun q => ⟨h, q⟩, fun q => q.2⟩
  · rw [if_neg (by simpa using h)]
    exact propext ⟨False.elim, fun q => h q.1⟩
theorem wp_cs2 {idx : Nat} {x1 : Int32} {x2 : Int32} {z : mm_Y} (hk : mm_lk (mm_M (yo y)) idx = some (false, z)) (hz : yn z = 2 ∧ yr z < yr y ∧ yn z ≤ yl z) (hd : decode (yc y) pc = .ok (.invokestatic idx, 3)) : wp sh y pc ls (.int x2 :: .int x1 :: st) μ Q = (mm_ok st = true ∧ cl sh z [.int x1, .int x2] μ (fun r μ' => wp sh y (pc + 3) ls (mm_rc r st) μ' Q)) := by
  rw [wp_d hd]
  unfold mm_ins
  simp only [hk]
  rw [if_pos trivial]
  unfold mm_cs
  obtain ⟨h1, h2, h3⟩ := hz
  rw [h1] at h3 ⊢
  simp only [List.take, List.drop, List.reverse_cons, List.reverse_nil, List.nil_append, List.cons_append, List.length_cons, List.length_nil, List.all_cons, List.all_nil, mm_ir, Bool.and_true, h2, h3, true_and, and_true]
  by_cases h : mm_ok st = true
  · rw [if_pos (by simpa using h)]
    exact propext ⟨fun q => ⟨h, q⟩, fun q => q.2⟩
  · rw [if_neg (by simpa using h)]
    exact propext ⟨False.elim, fun q => h q.1⟩
theorem wp_cs3 {idx : Nat} {x1 : Int32} {x2 : Int32} {x3 : Int32} {z : mm_Y} (hk : mm_lk (mm_M (yo y)) idx = some (false, z)) (hz : yn z = 3 ∧ yr z < yr y ∧ yn z ≤ yl z) (hd : decode (yc y) pc = .ok (.invokestatic idx, 3)) : wp sh y pc ls (.int x3 :: .int x2 :: .int x1 :: st) μ Q = (mm_ok st = true ∧ cl sh z [.int x1, .int x2, .int x3] μ (fun r μ' => wp sh y (pc + 3) ls (mm_rc r st) μ' Q)) := by
  rw [wp_d hd]
  unfold mm_ins
  simp only [hk]
  rw [if_pos trivial]
  unfold mm_cs
  obtain ⟨h1, h2, h3⟩ := hz
  rw [h1] at h3 ⊢
  simp only [List.take, List.drop, List.reverse_cons, List.reverse_nil, List.nil_append, List.cons_append, List.length_cons, List.length_nil, List.all_cons, List.all_nil, mm_ir, Bool.and_true, h2, h3, true_and, and_true]
  by_cases h : mm_ok st = true
  · rw [if_pos (by simpa using h)]
    exact propext ⟨fun q => ⟨h, q⟩, fun q => q.2⟩
  · rw [if_neg (by simpa using h)]
    exact propext ⟨False.elim, fun q => h q.1⟩
theorem wp_cs4 {idx : Nat} {x1 : Int32} {x2 : Int32} {x3 : Int32} {x4 : Int32} {z : mm_Y} (hk : mm_lk (mm_M (yo y)) idx = some (false, z)) (hz : yn z = 4 ∧ yr z < yr y ∧ yn z ≤ yl z) (hd : decode (yc y) pc = .ok (.invokestatic idx, 3)) : wp sh y pc ls (.int x4 :: .int x3 :: .int x2 :: .int x1 :: st) μ Q = (mm_ok st = true ∧ cl sh z [.int x1, .int x2, .int x3, .int x4] μ (fun r μ' => wp sh y (pc + 3) ls (mm_rc r st) μ' Q)) := by
  rw [wp_d hd]
  unfold mm_ins
  simp only [hk]
  rw [if_pos trivial]
  unfold mm_cs
  obtain ⟨h1, h2, h3⟩ := hz
  rw [h1] at h3 ⊢
  simp only [List.take, List.drop, List.reverse_cons, List.reverse_nil, List.nil_append, List.cons_append, List.length_cons, List.length_nil, List.all_cons, List.all_nil, mm_ir, Bool.and_true, h2, h3, true_and, and_true]
  by_cases h : mm_ok st = true
  · rw [if_pos (by simpa using h)]
    exact propext ⟨fun q => ⟨h, q⟩, fun q => q.2⟩
  · rw [if_neg (by simpa using h)]
    exact propext ⟨False.elim, fun q => h q.1⟩
theorem wp_cs5 {idx : Nat} {x1 : Int32} {x2 : Int32} {x3 : Int32} {x4 : Int32} {x5 : Int32} {z : mm_Y} (hk : mm_lk (mm_M (yo y)) idx = some (false, z)) (hz : yn z = 5 ∧ yr z < yr y ∧ yn z ≤ yl z) (hd : decode (yc y) pc = .ok (.invokestatic idx, 3)) : wp sh y pc ls (.int x5 :: .int x4 :: .int x3 :: .int x2 :: .int x1 :: st) μ Q = (mm_ok st = true ∧ cl sh z [.int x1, .int x2, .int x3, .int x4, .int x5] μ (fun r μ' => wp sh y (pc + 3) ls (mm_rc r st) μ' Q)) := by
  rw [wp_d hd]
  unfold mm_ins
  simp only [hk]
  rw [if_pos trivial]
  unfold mm_cs
  obtain ⟨h1, h2, h3⟩ := hz
  rw [h1] at h3 ⊢
  simp only [List.take, List.drop, List.reverse_cons, List.reverse_nil, List.nil_append, List.cons_append, List.length_cons, List.length_nil, List.all_cons, List.all_nil, mm_ir, Bool.and_true, h2, h3, true_and, and_true]
  by_cases h : mm_ok st = true
  · rw [if_pos (by simpa using h)]
    exact propext ⟨fun q => ⟨h, q⟩, fun q => q.2⟩
  · rw [if_neg (by simpa using h)]
    exact propext ⟨False.elim, fun q => h q.1⟩
theorem wp_cs7 {idx : Nat} {x1 : Int32} {x2 : Int32} {x3 : Int32} {x4 : Int32} {x5 : Int32} {x6 : Int32} {x7 : Int32} {z : mm_Y} (hk : mm_lk (mm_M (yo y)) idx = some (false, z)) (hz : yn z = 7 ∧ yr z < yr y ∧ yn z ≤ yl z) (hd : decode (yc y) pc = .ok (.invokestatic idx, 3)) : wp sh y pc ls (.int x7 :: .int x6 :: .int x5 :: .int x4 :: .int x3 :: .int x2 :: .int x1 :: st) μ Q = (mm_ok st = true ∧ cl sh z [.int x1, .int x2, .int x3, .int x4, .int x5, .int x6, .int x7] μ (fun r μ' => wp sh y (pc + 3) ls (mm_rc r st) μ' Q)) := by
  rw [wp_d hd]
  unfold mm_ins
  simp only [hk]
  rw [if_pos trivial]
  unfold mm_cs
  obtain ⟨h1, h2, h3⟩ := hz
  rw [h1] at h3 ⊢
  simp only [List.take, List.drop, List.reverse_cons, List.reverse_nil, List.nil_append, List.cons_append, List.length_cons, List.length_nil, List.all_cons, List.all_nil, mm_ir, Bool.and_true, h2, h3, true_and, and_true]
  by_cases h : mm_ok st = true
  · rw [if_pos (by simpa using h)]
    exact propext ⟨fun q => ⟨h, q⟩, fun q => q.2⟩
  · rw [if_neg (by simpa using h)]
    exact propext ⟨False.elim, fun q => h q.1⟩
theorem wp_cs_r {idx : Nat} {x1 : Nat} {z : mm_Y} (hk : mm_lk (mm_M (yo y)) idx = some (false, z)) (hz : yn z = 1 ∧ yr z < yr y ∧ yn z ≤ yl z) (hd : decode (yc y) pc = .ok (.invokestatic idx, 3)) : wp sh y pc ls (.ref x1 :: st) μ Q = (mm_ok st = true ∧ cl sh z [.ref x1] μ (fun r μ' => wp sh y (pc + 3) ls (mm_rc r st) μ' Q)) := by
  rw [wp_d hd]
  unfold mm_ins
  simp only [hk]
  rw [if_pos trivial]
  unfold mm_cs
  obtain ⟨h1, h2, h3⟩ := hz
  rw [h1] at h3 ⊢
  simp only [List.take, List.drop, List.reverse_cons, List.reverse_nil, List.nil_append, List.cons_append, List.length_cons, List.length_nil, List.all_cons, List.all_nil, mm_ir, Bool.and_true, h2, h3, true_and, and_true]
  by_cases h : mm_ok st = true
  · rw [if_pos (by simpa using h)]
    exact propext ⟨fun q => ⟨h, q⟩, fun q => q.2⟩
  · rw [if_neg (by simpa using h)]
    exact propext ⟨False.elim, fun q => h q.1⟩
theorem wp_cs_rii {idx : Nat} {x1 : Nat} {x2 : Int32} {x3 : Int32} {z : mm_Y} (hk : mm_lk (mm_M (yo y)) idx = some (false, z)) (hz : yn z = 3 ∧ yr z < yr y ∧ yn z ≤ yl z) (hd : decode (yc y) pc = .ok (.invokestatic idx, 3)) : wp sh y pc ls (.int x3 :: .int x2 :: .ref x1 :: st) μ Q = (mm_ok st = true ∧ cl sh z [.ref x1, .int x2, .int x3] μ (fun r μ' => wp sh y (pc + 3) ls (mm_rc r st) μ' Q)) := by
  rw [wp_d hd]
  unfold mm_ins
  simp only [hk]
  rw [if_pos trivial]
  unfold mm_cs
  obtain ⟨h1, h2, h3⟩ := hz
  rw [h1] at h3 ⊢
  simp only [List.take, List.drop, List.reverse_cons, List.reverse_nil, List.nil_append, List.cons_append, List.length_cons, List.length_nil, List.all_cons, List.all_nil, mm_ir, Bool.and_true, h2, h3, true_and, and_true]
  by_cases h : mm_ok st = true
  · rw [if_pos (by simpa using h)]
    exact propext ⟨fun q => ⟨h, q⟩, fun q => q.2⟩
  · rw [if_neg (by simpa using h)]
    exact propext ⟨False.elim, fun q => h q.1⟩
theorem wp_cs_riri {idx : Nat} {x1 : Nat} {x2 : Int32} {x3 : Nat} {x4 : Int32} {z : mm_Y} (hk : mm_lk (mm_M (yo y)) idx = some (false, z)) (hz : yn z = 4 ∧ yr z < yr y ∧ yn z ≤ yl z) (hd : decode (yc y) pc = .ok (.invokestatic idx, 3)) : wp sh y pc ls (.int x4 :: .ref x3 :: .int x2 :: .ref x1 :: st) μ Q = (mm_ok st = true ∧ cl sh z [.ref x1, .int x2, .ref x3, .int x4] μ (fun r μ' => wp sh y (pc + 3) ls (mm_rc r st) μ' Q)) := by
  rw [wp_d hd]
  unfold mm_ins
  simp only [hk]
  rw [if_pos trivial]
  unfold mm_cs
  obtain ⟨h1, h2, h3⟩ := hz
  rw [h1] at h3 ⊢
  simp only [List.take, List.drop, List.reverse_cons, List.reverse_nil, List.nil_append, List.cons_append, List.length_cons, List.length_nil, List.all_cons, List.all_nil, mm_ir, Bool.and_true, h2, h3, true_and, and_true]
  by_cases h : mm_ok st = true
  · rw [if_pos (by simpa using h)]
    exact propext ⟨fun q => ⟨h, q⟩, fun q => q.2⟩
  · rw [if_neg (by simpa using h)]
    exact propext ⟨False.elim, fun q => h q.1⟩
theorem wp_cv_r {a idx : Nat} {x1 : Nat} {z : mm_Y} (hk : mm_lk (mm_M (yo y)) idx = some (true, z)) (hz : yn z = 2 ∧ yr z < yr y ∧ yn z ≤ yl z) (hd : decode (yc y) pc = .ok (.invokevirtual idx, 3)) : wp sh y pc ls (.ref x1 :: .ref a :: st) μ Q = (mm_oc sh a (yo z) = true ∧ mm_ok st = true ∧ cl sh z [.ref a, .ref x1] μ (fun r μ' => wp sh y (pc + 3) ls (mm_rc r st) μ' Q)) := by
  rw [wp_d hd]
  unfold mm_ins
  simp only [hk]
  rw [if_pos trivial]
  unfold mm_cv
  obtain ⟨h1, h2, h3⟩ := hz
  rw [h1] at h3 ⊢
  simp only [List.take, List.drop, List.reverse_cons, List.reverse_nil, List.nil_append, List.cons_append, List.length_cons, List.length_nil, List.all_cons, List.all_nil, mm_ir, Bool.and_true, h2, h3, true_and, and_true]
  by_cases h : mm_oc sh a (yo z) = true ∧ mm_ok st = true
  · rw [if_pos (by simpa using h)]
    exact propext ⟨fun q => ⟨h.1, h.2, q⟩, fun q => q.2.2⟩
  · rw [if_neg (by simpa using h)]
    exact propext ⟨False.elim, fun q => h ⟨q.1, q.2.1⟩⟩
theorem wp_cv_ri {a idx : Nat} {x1 : Nat} {x2 : Int32} {z : mm_Y} (hk : mm_lk (mm_M (yo y)) idx = some (true, z)) (hz : yn z = 3 ∧ yr z < yr y ∧ yn z ≤ yl z) (hd : decode (yc y) pc = .ok (.invokevirtual idx, 3)) : wp sh y pc ls (.int x2 :: .ref x1 :: .ref a :: st) μ Q = (mm_oc sh a (yo z) = true ∧ mm_ok st = true ∧ cl sh z [.ref a, .ref x1, .int x2] μ (fun r μ' => wp sh y (pc + 3) ls (mm_rc r st) μ' Q)) := by
  rw [wp_d hd]
  unfold mm_ins
  simp only [hk]
  rw [if_pos trivial]
  unfold mm_cv
  obtain ⟨h1, h2, h3⟩ := hz
  rw [h1] at h3 ⊢
  simp only [List.take, List.drop, List.reverse_cons, List.reverse_nil, List.nil_append, List.cons_append, List.length_cons, List.length_nil, List.all_cons, List.all_nil, mm_ir, Bool.and_true, h2, h3, true_and, and_true]
  by_cases h : mm_oc sh a (yo z) = true ∧ mm_ok st = true
  · rw [if_pos (by simpa using h)]
    exact propext ⟨fun q => ⟨h.1, h.2, q⟩, fun q => q.2.2⟩
  · rw [if_neg (by simpa using h)]
    exact propext ⟨False.elim, fun q => h ⟨q.1, q.2.1⟩⟩
theorem wp_cv_rii {a idx : Nat} {x1 : Nat} {x2 : Int32} {x3 : Int32} {z : mm_Y} (hk : mm_lk (mm_M (yo y)) idx = some (true, z)) (hz : yn z = 4 ∧ yr z < yr y ∧ yn z ≤ yl z) (hd : decode (yc y) pc = .ok (.invokevirtual idx, 3)) : wp sh y pc ls (.int x3 :: .int x2 :: .ref x1 :: .ref a :: st) μ Q = (mm_oc sh a (yo z) = true ∧ mm_ok st = true ∧ cl sh z [.ref a, .ref x1, .int x2, .int x3] μ (fun r μ' => wp sh y (pc + 3) ls (mm_rc r st) μ' Q)) := by
  rw [wp_d hd]
  unfold mm_ins
  simp only [hk]
  rw [if_pos trivial]
  unfold mm_cv
  obtain ⟨h1, h2, h3⟩ := hz
  rw [h1] at h3 ⊢
  simp only [List.take, List.drop, List.reverse_cons, List.reverse_nil, List.nil_append, List.cons_append, List.length_cons, List.length_nil, List.all_cons, List.all_nil, mm_ir, Bool.and_true, h2, h3, true_and, and_true]
  by_cases h : mm_oc sh a (yo z) = true ∧ mm_ok st = true
  · rw [if_pos (by simpa using h)]
    exact propext ⟨fun q => ⟨h.1, h.2, q⟩, fun q => q.2.2⟩
  · rw [if_neg (by simpa using h)]
    exact propext ⟨False.elim, fun q => h ⟨q.1, q.2.1⟩⟩
theorem wp_cv_riiii {a idx : Nat} {x1 : Nat} {x2 : Int32} {x3 : Int32} {x4 : Int32} {x5 : Int32} {z : mm_Y} (hk : mm_lk (mm_M (yo y)) idx = some (true, z)) (hz : yn z = 6 ∧ yr z < yr y ∧ yn z ≤ yl z) (hd : decode (yc y) pc = .ok (.invokevirtual idx, 3)) : wp sh y pc ls (.int x5 :: .int x4 :: .int x3 :: .int x2 :: .ref x1 :: .ref a :: st) μ Q = (mm_oc sh a (yo z) = true ∧ mm_ok st = true ∧ cl sh z [.ref a, .ref x1, .int x2, .int x3, .int x4, .int x5] μ (fun r μ' => wp sh y (pc + 3) ls (mm_rc r st) μ' Q)) := by
  rw [wp_d hd]
  unfold mm_ins
  simp only [hk]
  rw [if_pos trivial]
  unfold mm_cv
  obtain ⟨h1, h2, h3⟩ := hz
  rw [h1] at h3 ⊢
  simp only [List.take, List.drop, List.reverse_cons, List.reverse_nil, List.nil_append, List.cons_append, List.length_cons, List.length_nil, List.all_cons, List.all_nil, mm_ir, Bool.and_true, h2, h3, true_and, and_true]
  by_cases h : mm_oc sh a (yo z) = true ∧ mm_ok st = true
  · rw [if_pos (by simpa using h)]
    exact propext ⟨fun q => ⟨h.1, h.2, q⟩, fun q => q.2.2⟩
  · rw [if_neg (by simpa using h)]
    exact propext ⟨False.elim, fun q => h ⟨q.1, q.2.1⟩⟩
end RULES
