/-! OUR PURE MACHINE: the code of the class and of the reference over a heap of ints of fixed shape. Behind 02.tables. -/
abbrev PV : Type := Int32 ⊕ Nat
abbrev PL : Type := List (Nat × PV)
abbrev HP : Type := Nat → Nat → Int32
/-- a configuration: pc, locals, operand stack, heap -/
abbrev PG : Type := Nat × PL × List PV × HP
/-- an end: returned (nothing or an int) | threw (number of the exception's class), and the heap -/
abbrev PO : Type := (Option Int32 ⊕ Nat) × HP
/-- a step: on in the method | its end | a call (callee, arguments, what lies below them) -/
abbrev PR : Type := Option (PG ⊕ (PO ⊕ (Nat × List PV × List PV)))
def hu (h : HP) (o k : Nat) (v : Int32) : HP := fun a b => if a = o then (if b = k then v else h a b) else h a b
theorem hu_same {h : HP} {o k : Nat} {v : Int32} : hu h o k v o k = v := by simp [hu]
theorem hu_o {h : HP} {o k a b : Nat} {v : Int32} (ha : a ≠ o) : hu h o k v a b = h a b := by simp [hu, ha]
theorem hu_k {h : HP} {o k a b : Nat} {v : Int32} (hb : b ≠ k) : hu h o k v a b = h a b := by simp only [hu]; split <;> simp [hb]
def pl_put (l : PL) (i : Nat) (v : PV) : PL := (i, v) :: l.filter (fun q => !(q.1 == i))
def pl_in : Nat → List PV → PL
  | _, [] => []
  | i, v :: t => (i, v) :: pl_in (i + 1) t
def pl_at : PL → Nat → Option PV
  | [], _ => none
  | (i, v) :: t, k => if i = k then some v else pl_at t k
def pe_at : List PE → Nat → Option (Instr × Nat × List Nat)
  | [], _ => none
  | (i, v) :: t, k => if i = k then some v else pe_at t k
def p_br {α : Type} (c : ClassFile.Cond) (x y : Int32) (A B : α) : α := match c with
  | .eq => if x = y then A else B
  | .ne => if x = y then B else A
  | .lt => if x < y then A else B
  | .ge => if y ≤ x then A else B
  | .gt => if y < x then A else B
  | .le => if x ≤ y then A else B
def p_lk : List Int → List Nat → Nat → Int → Nat
  | k :: ks, g :: gs, d, x => if x = k then g else p_lk ks gs d x
  | _, _, d, _ => d
def qMt (j : Nat) : PM := qMtL.getD j ((⟨"", "", ""⟩ : MethodName), ⟨#[]⟩, 0, none, false, 99, 0, 0, 0)
def qmY (j : Nat) : MethodName := (qMt j).1
def qmB (j : Nat) : ByteArray := (qMt j).2.1
def qmL (j : Nat) : Nat := (qMt j).2.2.1
def qmR (j : Nat) : Option FieldType := (qMt j).2.2.2.1
def qmS (j : Nat) : Bool := (qMt j).2.2.2.2.1
def qmC (j : Nat) : Nat := (qMt j).2.2.2.2.2.1
def qmN (j : Nat) : Nat := (qMt j).2.2.2.2.2.2.1
def qmF (j : Nat) : Nat := (qMt j).2.2.2.2.2.2.2.1
def qmW (j : Nat) : Nat := (qMt j).2.2.2.2.2.2.2.2
/-- the receiver is of the callee's class (a static callee: nothing) -/
def p_recv (j' : Nat) (as : List PV) : Bool := qmS j' || match as with
  | .inr o :: _ => match qSh o with
    | some (.inl c) => c == qmC j'
    | _ => false
  | _ => false
def p_int (pc n : Nat) (l : PL) (h : HP) (t : List PV) (x : Int32) : PR := some (.inl (pc + n, l, .inl x :: t, h))
def p1i (j : Nat) (i : Instr) (n : Nat) (ax : List Nat) (pc : Nat) (l : PL) (st : List PV) (h : HP) : PR := match i with
  | .iconst v => p_int pc n l h st (Int32.ofInt v)
  | .bipush v => p_int pc n l h st (Int8.ofInt v).toInt32
  | .sipush v => p_int pc n l h st (Int16.ofInt v).toInt32
  | .iload_n k => match pl_at l k.val with
    | some (.inl x) => p_int pc n l h st x
    | _ => none
  | .iload k => match pl_at l k with
    | some (.inl x) => p_int pc n l h st x
    | _ => none
  | .aload_n k => match pl_at l k.val with
    | some (.inr x) => some (.inl (pc + n, l, .inr x :: st, h))
    | _ => none
  | .istore_n k => match st with
    | .inl x :: t => if k.val < qmL j then some (.inl (pc + n, pl_put l k.val (.inl x), t, h)) else none
    | _ => none
  | .istore k => match st with
    | .inl x :: t => if k < qmL j then some (.inl (pc + n, pl_put l k (.inl x), t, h)) else none
    | _ => none
  | .iinc k v => match pl_at l k with
    | some (.inl x) => if k < qmL j then some (.inl (pc + n, pl_put l k (.inl (x + Int32.ofInt v)), st, h)) else none
    | _ => none
  | .dup => match st with
    | v :: t => some (.inl (pc + n, l, v :: v :: t, h))
    | _ => none
  | .dup2 => match st with
    | v :: w :: t => some (.inl (pc + n, l, v :: w :: v :: w :: t, h))
    | _ => none
  | .iadd => match st with
    | .inl y :: .inl x :: t => p_int pc n l h t (x + y)
    | _ => none
  | .isub => match st with
    | .inl y :: .inl x :: t => p_int pc n l h t (x - y)
    | _ => none
  | .imul => match st with
    | .inl y :: .inl x :: t => p_int pc n l h t (x * y)
    | _ => none
  | .idiv => match st with
    | .inl y :: .inl x :: t => if y = 0 then none else p_int pc n l h t (x / y)
    | _ => none
  | .irem => match st with
    | .inl y :: .inl x :: t => if y = 0 then none else p_int pc n l h t (x - x / y * y)
    | _ => none
  | .ineg => match st with
    | .inl x :: t => p_int pc n l h t (-x)
    | _ => none
  | .ifCond c _ => match st, ax with
    | .inl x :: t, [g] => p_br c x 0 (some (.inl (g, l, t, h))) (some (.inl (pc + n, l, t, h)))
    | _, _ => none
  | .if_icmp c _ => match st, ax with
    | .inl y :: .inl x :: t, [g] => p_br c x y (some (.inl (g, l, t, h))) (some (.inl (pc + n, l, t, h)))
    | _, _ => none
  | .goto _ => match ax with
    | [g] => some (.inl (g, l, st, h))
    | _ => none
  | .tableswitch _ lo hi _ => match st, ax with
    | .inl x :: t, g :: gs => if x.toInt < lo ∨ hi < x.toInt then some (.inl (g, l, t, h)) else match gs[(x.toInt - lo).toNat]? with
      | some g' => some (.inl (g', l, t, h))
      | none => none
    | _, _ => none
  | .lookupswitch _ ps => match st, ax with
    | .inl x :: t, g :: gs => some (.inl (p_lk (ps.toList.map (·.1)) gs g x.toInt, l, t, h))
    | _, _ => none
  | .getfield _ => match st, ax with
    | .inr o :: t, [ci, k] => match qSh o with
      | some (.inl c') => if c' = ci then (match qRf o k with
        | some r => some (.inl (pc + n, l, .inr r :: t, h))
        | none => p_int pc n l h t (h o k)) else none
      | _ => none
    | _, _ => none
  | .putfield _ => match st, ax with
    | .inl v :: .inr o :: t, [ci, k, z] => match qSh o with
      | some (.inl c') => if c' = ci ∧ qRf o k = none ∧ (z = 0 ∨ v = 0 ∨ v = 1) then some (.inl (pc + n, l, t, hu h o k v)) else none
      | _ => none
    | _, _ => none
  | .getstatic _ => match ax with
    | [g] => some (.inl (pc + n, l, .inr g :: st, h))
    | _ => none
  | .iaload => match st with
    | .inl i :: .inr a :: t => match qSh a with
      | some (.inr (0, m)) => if i < 0 ∨ m ≤ i.toNatClampNeg then none else p_int pc n l h t (h a i.toNatClampNeg)
      | some (.inr (3, m)) => if i < 0 ∨ m ≤ i.toNatClampNeg then none else p_int pc n l h t (qGf i.toNatClampNeg)
      | _ => none
    | _ => none
  | .baload => match st with
    | .inl i :: .inr a :: t => match qSh a with
      | some (.inr (1, m)) => if i < 0 ∨ m ≤ i.toNatClampNeg then none else p_int pc n l h t (h a i.toNatClampNeg)
      | _ => none
    | _ => none
  | .aaload => match st with
    | .inl i :: .inr a :: t => match qSh a with
      | some (.inr (2, m)) => if i < 0 ∨ m ≤ i.toNatClampNeg then none else (match qRf a i.toNatClampNeg with
        | some r => some (.inl (pc + n, l, .inr r :: t, h))
        | none => none)
      | _ => none
    | _ => none
  | .iastore => match st with
    | .inl x :: .inl i :: .inr a :: t => match qSh a with
      | some (.inr (0, m)) => if i < 0 ∨ m ≤ i.toNatClampNeg then none else some (.inl (pc + n, l, t, hu h a i.toNatClampNeg x))
      | _ => none
    | _ => none
  | .bastore => match st with
    | .inl x :: .inl i :: .inr a :: t => match qSh a with
      | some (.inr (1, m)) => if i < 0 ∨ m ≤ i.toNatClampNeg then none else if x = 0 ∨ x = 1 then some (.inl (pc + n, l, t, hu h a i.toNatClampNeg x)) else none
      | _ => none
    | _ => none
  | .ireturn => match st, ax with
    | [.inl v], [z] => if z = 0 ∨ v = 0 ∨ v = 1 then some (.inr (.inl (.inl (some v), h))) else none
    | _, _ => none
  | .return_ => match st with
    | [] => some (.inr (.inl (.inl none, h)))
    | _ => none
  | .invokevirtual _ => match ax with
    | [j', na] => if na ≤ st.length ∧ st.length ≤ na + 8 ∧ p_recv j' (st.take na).reverse = true then some (.inr (.inr (j', (st.take na).reverse, st.drop na))) else none
    | _ => none
  | .invokestatic _ => match ax with
    | [0, _] => match st with
      | .inl x :: t => if t.length ≤ 7 then p_int pc n l h t (if 0 ≤ x then x else 0 - x) else none
      | _ => none
    | [1, _] => match st with
      | .inl y :: .inl x :: t => if t.length ≤ 8 then p_int pc n l h t (if y < x then y else x) else none
      | _ => none
    | [j', na] => if na ≤ st.length ∧ st.length ≤ na + 8 then some (.inr (.inr (j', (st.take na).reverse, st.drop na))) else none
    | _ => none
  | .new _ => match st, ax with
    | [], [x, _] => some (.inr (.inl (.inr x, h)))
    | _, _ => none
  | _ => none
def p1 (j : Nat) (c : PG) : PR := match pe_at (qCod j) c.1 with
  | some (i, n, ax) => p1i j i n ax c.1 c.2.1 c.2.2.1 c.2.2.2
  | none => none
def pm : Nat → Nat → PG → Option PO
  | 0, _, _ => none
  | n + 1, j, c => match p1 j c with
    | some (.inl c') => pm n j c'
    | some (.inr (.inl r)) => some r
    | some (.inr (.inr (j', as, t))) => match pm n j' (0, pl_in 0 as, [], c.2.2.2) with
      | some (.inl v, h') => pm n j (c.1 + 3, c.2.1, (v.map Sum.inl).toList ++ t, h')
      | _ => none
    | none => none
/-- from this configuration method j comes to that end -/
def Ev (j : Nat) (c : PG) (r : PO) : Prop := ∃ n, pm n j c = some r
/-- a whole call -/
def Ec (j : Nat) (as : List PV) (h : HP) (r : PO) : Prop := Ev j (0, pl_in 0 as, [], h) r
theorem pm_mono : ∀ (n j : Nat) (c : PG) (r : PO), pm n j c = some r → pm (n + 1) j c = some r := by
  intro n
  induction n with
  | zero => intro j c r h; cases h
  | succ n ih =>
    intro j c r h
    rw [pm] at h ⊢
    cases hp : p1 j c with
    | none => rw [hp] at h; cases h
    | some z =>
      rw [hp] at h
      rcases z with c' | r' | ⟨j', as, t⟩
      · exact ih _ _ _ h
      · exact h
      · dsimp only at h ⊢
        cases hq : pm n j' (0, pl_in 0 as, [], c.2.2.2) with
        | none => rw [hq] at h; cases h
        | some y =>
          rw [hq] at h
          rw [ih _ _ _ hq]
          obtain ⟨o, h'⟩ := y
          cases o with
          | inl v => exact ih _ _ _ h
          | inr x => cases h
theorem pm_le {n m j : Nat} {c : PG} {r : PO} (h : pm n j c = some r) (hm : n ≤ m) : pm m j c = some r := by
  induction hm with
  | refl => exact h
  | step _ ih => exact pm_mono _ _ _ _ ih
theorem e_step {j : Nat} {c c' : PG} {r : PO} (h : p1 j c = some (.inl c')) (k : Ev j c' r) : Ev j c r := by
  obtain ⟨n, hn⟩ := k
  exact ⟨n + 1, by rw [pm, h]; exact hn⟩
theorem e_ret {j : Nat} {c : PG} {r : PO} (h : p1 j c = some (.inr (.inl r))) : Ev j c r := ⟨1, by rw [pm, h]⟩
theorem e_call {j j' : Nat} {c : PG} {as t : List PV} {v : Option Int32} {h' : HP} {r : PO} (h : p1 j c = some (.inr (.inr (j', as, t)))) (q : Ec j' as c.2.2.2 (.inl v, h')) (k : Ev j (c.1 + 3, c.2.1, (v.map Sum.inl).toList ++ t, h') r) : Ev j c r := by
  obtain ⟨n, hn⟩ := q
  obtain ⟨m, hm⟩ := k
  refine ⟨max n m + 1, ?_⟩
  rw [pm, h]
  dsimp only
  rw [pm_le hn (Nat.le_max_left n m)]
  exact pm_le hm (Nat.le_max_right n m)
theorem e_if {j : Nat} {c : PG} {A B : PR} {r : PO} {P : Prop} [Decidable P] (h : p1 j c = if P then A else B) (ht : P → p1 j c = A → Ev j c r) (hf : ¬ P → p1 j c = B → Ev j c r) : Ev j c r := by
  by_cases hP : P
  · exact ht hP (by rw [h, if_pos hP])
  · exact hf hP (by rw [h, if_neg hP])
