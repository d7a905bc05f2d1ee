/-! WORDS FOR THE PURE PART. -/
/-- method j comes from here to an end of which F holds -/
def Wp (j : Nat) (c : PG) (F : PO → Prop) : Prop := ∃ r, Ev j c r ∧ F r
section WROWS
variable {j pc n : Nat} {i : Instr} {ax : List Nat} {l : PL} {st : List PV} {h : HP} {F : PO → Prop}
theorem w_st {pc' : Nat} {l' : PL} {st' : List PV} {h' : HP} (hc : pe_at (qCod j) pc = some (i, n, ax)) (hs : p1i j i n ax pc l st h = some (.inl (pc', l', st', h'))) (k : Wp j (pc', l', st', h') F) : Wp j (pc, l, st, h) F := by
  obtain ⟨r, h1, h2⟩ := k
  exact ⟨r, e_st hc hs h1, h2⟩
theorem w_no {pc' : Nat} {l' : PL} {st' : List PV} {h' : HP} {P : Prop} [Decidable P] (hc : pe_at (qCod j) pc = some (i, n, ax)) (hs : p1i j i n ax pc l st h = if P then none else some (.inl (pc', l', st', h'))) (hP : ¬ P) (k : Wp j (pc', l', st', h') F) : Wp j (pc, l, st, h) F := by
  obtain ⟨r, h1, h2⟩ := k
  exact ⟨r, e_no hc hs hP h1, h2⟩
theorem w_yes {pc' : Nat} {l' : PL} {st' : List PV} {h' : HP} {P : Prop} [Decidable P] (hc : pe_at (qCod j) pc = some (i, n, ax)) (hs : p1i j i n ax pc l st h = if P then some (.inl (pc', l', st', h')) else none) (hP : P) (k : Wp j (pc', l', st', h') F) : Wp j (pc, l, st, h) F := by
  obtain ⟨r, h1, h2⟩ := k
  exact ⟨r, e_yes hc hs hP h1, h2⟩
theorem w_br {p1' p2' : Nat} {l1 l2 : PL} {s1 s2 : List PV} {h1 h2 : HP} {P : Prop} [Decidable P] (hc : pe_at (qCod j) pc = some (i, n, ax)) (hs : p1i j i n ax pc l st h = if P then some (.inl (p1', l1, s1, h1)) else some (.inl (p2', l2, s2, h2))) (k1 : P → Wp j (p1', l1, s1, h1) F) (k2 : ¬ P → Wp j (p2', l2, s2, h2) F) : Wp j (pc, l, st, h) F := by
  by_cases hP : P
  · obtain ⟨r, q1, q2⟩ := k1 hP
    exact ⟨r, e_t hc hs hP q1, q2⟩
  · obtain ⟨r, q1, q2⟩ := k2 hP
    exact ⟨r, e_f hc hs hP q1, q2⟩
theorem w_end {r : PO} (hc : pe_at (qCod j) pc = some (i, n, ax)) (hs : p1i j i n ax pc l st h = some (.inr (.inl r))) (k : F r) : Wp j (pc, l, st, h) F := ⟨r, e_end hc hs, k⟩
theorem w_endY {r : PO} {P : Prop} [Decidable P] (hc : pe_at (qCod j) pc = some (i, n, ax)) (hs : p1i j i n ax pc l st h = if P then some (.inr (.inl r)) else none) (hP : P) (k : F r) : Wp j (pc, l, st, h) F := ⟨r, e_endY hc hs hP, k⟩
theorem w_ca {j' : Nat} {as t : List PV} {v : Option Int32} {h' : HP} (hc : pe_at (qCod j) pc = some (i, n, ax)) (hs : p1i j i n ax pc l st h = some (.inr (.inr (j', as, t)))) (q : Ec j' as h (.inl v, h')) (k : Wp j (pc + 3, l, (v.map Sum.inl).toList ++ t, h') F) : Wp j (pc, l, st, h) F := by
  obtain ⟨r, q1, q2⟩ := k
  exact ⟨r, e_call (by rw [e_p1 hc, hs]) q q1, q2⟩
/-- a callee is walked in its caller's place -/
theorem w_in {j' : Nat} {as t : List PV} (hc : pe_at (qCod j) pc = some (i, n, ax)) (hs : p1i j i n ax pc l st h = some (.inr (.inr (j', as, t)))) (k : Wp j' (0, pl_in 0 as, [], h) (fun r => ∃ v h', r = (.inl v, h') ∧ Wp j (pc + 3, l, (v.map Sum.inl).toList ++ t, h') F)) : Wp j (pc, l, st, h) F := by
  obtain ⟨r, q1, v, h', rfl, r2, q2, q3⟩ := k
  exact ⟨r2, e_call (by rw [e_p1 hc, hs]) q1 q2, q3⟩
theorem w_up {v : Option Int32} {h' : HP} {G : Option Int32 → HP → Prop} (k : G v h') : (fun r : PO => ∃ v h', r = (.inl v, h') ∧ G v h') (.inl v, h') := ⟨v, h', rfl, k⟩
theorem w_fin {as : List PV} {r : PO} (k : Wp j (0, pl_in 0 as, [], h) (fun z => z = r)) : Ec j as h r := by
  obtain ⟨z, h1, rfl⟩ := k
  exact h1
end WROWS
/-- a truth value as an int -/
def bI (P : Prop) [Decidable P] : Int32 := if P then 1 else 0
