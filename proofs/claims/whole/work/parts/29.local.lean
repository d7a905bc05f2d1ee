/-! LOCALITY: methods of one side neither read nor write the cells of the other. -/
def mix (S : Nat → Bool) (g k : HP) : HP := fun a b => if S a = true then g a b else k a b
theorem mix_at {S : Nat → Bool} {g k : HP} {o i : Nat} (h : S o = true) : mix S g k o i = g o i := by simp [mix, h]
theorem hu_mix {S : Nat → Bool} {g k : HP} {o i : Nat} {v : Int32} (h : S o = true) : hu (mix S g k) o i v = mix S (hu g o i v) k := by
  funext a b
  simp only [hu, mix]
  by_cases e : a = o
  · subst e; simp [h]
  · simp [e]
def lift (S : Nat → Bool) (k : HP) : PG ⊕ (PO ⊕ (Nat × List PV × List PV)) → PG ⊕ (PO ⊕ (Nat × List PV × List PV))
  | .inl (pc, l, st, h) => .inl (pc, l, st, mix S h k)
  | .inr (.inl (o, h)) => .inr (.inl (o, mix S h k))
  | .inr (.inr c) => .inr (.inr c)
def okV (S : Nat → Bool) : PV → Prop
  | .inl _ => True
  | .inr o => S o = true
def okS (S : Nat → Bool) (st : List PV) : Prop := ∀ v ∈ st, okV S v
def okL (S : Nat → Bool) (l : PL) : Prop := ∀ q ∈ l, okV S q.2
theorem br_map {α β : Type} {f : α → β} {c : ClassFile.Cond} {x y : Int32} {A B : α} : p_br c x y (f A) (f B) = f (p_br c x y A B) := by
  cases c <;> simp only [p_br] <;> split <;> rfl
set_option maxHeartbeats 8000000 in
theorem loc_eq {S : Nat → Bool} {j : Nat} {i : Instr} {n : Nat} {ax : List Nat} {pc : Nat} {l : PL} {st : List PV} {g k : HP} (hs : okS S st) : p1i j i n ax pc l st (mix S g k) = (p1i j i n ax pc l st g).map (lift S k) := by
  cases i
  case ifCond c o =>
    dsimp only [p1i]
    split
    · exact br_map (f := Option.map (lift S k)) (A := some (.inl (_, _, _, g))) (B := some (.inl (_, _, _, g)))
    · rfl
  case if_icmp c o =>
    dsimp only [p1i]
    split
    · exact br_map (f := Option.map (lift S k)) (A := some (.inl (_, _, _, g))) (B := some (.inl (_, _, _, g)))
    · rfl
  case getfield f =>
    dsimp only [p1i]
    split
    · rename_i o t ci kk
      have ho : S o = true := hs (.inr o) List.mem_cons_self
      split
      · split
        · split
          · rfl
          · rw [mix_at ho]; rfl
        · rfl
      · rfl
    · rfl
  case putfield f =>
    dsimp only [p1i]
    split
    · rename_i v o t ci kk z
      have ho : S o = true := hs (.inr o) (List.mem_cons_of_mem _ List.mem_cons_self)
      split
      · split
        · rw [hu_mix ho]; rfl
        · rfl
      · rfl
    · rfl
  case iaload =>
    dsimp only [p1i]
    split
    · rename_i x a t
      have ho : S a = true := hs (.inr a) (List.mem_cons_of_mem _ List.mem_cons_self)
      split
      · split
        · rfl
        · rw [mix_at ho]; rfl
      · split <;> rfl
      · rfl
    · rfl
  case baload =>
    dsimp only [p1i]
    split
    · rename_i x a t
      have ho : S a = true := hs (.inr a) (List.mem_cons_of_mem _ List.mem_cons_self)
      split
      · split
        · rfl
        · rw [mix_at ho]; rfl
      · rfl
    · rfl
  case iastore =>
    dsimp only [p1i]
    split
    · rename_i v x a t
      have ho : S a = true := hs (.inr a) (List.mem_cons_of_mem _ (List.mem_cons_of_mem _ List.mem_cons_self))
      split
      · split
        · rfl
        · rw [hu_mix ho]; rfl
      · rfl
    · rfl
  case bastore =>
    dsimp only [p1i]
    split
    · rename_i v x a t
      have ho : S a = true := hs (.inr a) (List.mem_cons_of_mem _ (List.mem_cons_of_mem _ List.mem_cons_self))
      split
      · split
        · rfl
        · split
          · rw [hu_mix ho]; rfl
          · rfl
      · rfl
    · rfl
  all_goals first
    | rfl
    | (dsimp only [p1i]; split <;> rfl)
    | (dsimp only [p1i]; split <;> first | rfl | (split <;> rfl))
    | (dsimp only [p1i]; split <;> first | rfl | (split <;> first | rfl | (split <;> first | rfl | (split <;> rfl))))
