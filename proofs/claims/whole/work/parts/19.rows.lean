/-! ROWS FOR WALKS OF THE PURE MACHINE: a row of code is looked up, and what it does is computed, both by rfl. -/
section EROWS
variable {j pc n : Nat} {i : Instr} {ax : List Nat} {l : PL} {st : List PV} {h : HP} {r : PO}
theorem e_p1 (hc : pe_at (qCod j) pc = some (i, n, ax)) : p1 j (pc, l, st, h) = p1i j i n ax pc l st h := by
  simp only [p1, hc]
theorem e_st {pc' : Nat} {l' : PL} {st' : List PV} {h' : HP} (hc : pe_at (qCod j) pc = some (i, n, ax)) (hs : p1i j i n ax pc l st h = some (.inl (pc', l', st', h'))) (k : Ev j (pc', l', st', h') r) : Ev j (pc, l, st, h) r :=
  e_step (by rw [e_p1 hc, hs]) k
/-- a check that must not hold (an index that is out, a divisor that is zero) -/
theorem e_no {pc' : Nat} {l' : PL} {st' : List PV} {h' : HP} {P : Prop} [Decidable P] (hc : pe_at (qCod j) pc = some (i, n, ax)) (hs : p1i j i n ax pc l st h = if P then none else some (.inl (pc', l', st', h'))) (hP : ¬ P) (k : Ev j (pc', l', st', h') r) : Ev j (pc, l, st, h) r :=
  e_step (by rw [e_p1 hc, hs, if_neg hP]) k
/-- a check that must hold -/
theorem e_yes {pc' : Nat} {l' : PL} {st' : List PV} {h' : HP} {P : Prop} [Decidable P] (hc : pe_at (qCod j) pc = some (i, n, ax)) (hs : p1i j i n ax pc l st h = if P then some (.inl (pc', l', st', h')) else none) (hP : P) (k : Ev j (pc', l', st', h') r) : Ev j (pc, l, st, h) r :=
  e_step (by rw [e_p1 hc, hs, if_pos hP]) k
/-- a branch -/
theorem e_br {p1' p2' : Nat} {l1 l2 : PL} {s1 s2 : List PV} {h1 h2 : HP} {P : Prop} [Decidable P] (hc : pe_at (qCod j) pc = some (i, n, ax)) (hs : p1i j i n ax pc l st h = if P then some (.inl (p1', l1, s1, h1)) else some (.inl (p2', l2, s2, h2))) (k1 : P → Ev j (p1', l1, s1, h1) r) (k2 : ¬ P → Ev j (p2', l2, s2, h2) r) : Ev j (pc, l, st, h) r := by
  by_cases hP : P
  · exact e_step (by rw [e_p1 hc, hs, if_pos hP]) (k1 hP)
  · exact e_step (by rw [e_p1 hc, hs, if_neg hP]) (k2 hP)
theorem e_t {p1' p2' : Nat} {l1 l2 : PL} {s1 s2 : List PV} {h1 h2 : HP} {P : Prop} [Decidable P] (hc : pe_at (qCod j) pc = some (i, n, ax)) (hs : p1i j i n ax pc l st h = if P then some (.inl (p1', l1, s1, h1)) else some (.inl (p2', l2, s2, h2))) (hP : P) (k1 : Ev j (p1', l1, s1, h1) r) : Ev j (pc, l, st, h) r :=
  e_step (by rw [e_p1 hc, hs, if_pos hP]) k1
theorem e_f {p1' p2' : Nat} {l1 l2 : PL} {s1 s2 : List PV} {h1 h2 : HP} {P : Prop} [Decidable P] (hc : pe_at (qCod j) pc = some (i, n, ax)) (hs : p1i j i n ax pc l st h = if P then some (.inl (p1', l1, s1, h1)) else some (.inl (p2', l2, s2, h2))) (hP : ¬ P) (k2 : Ev j (p2', l2, s2, h2) r) : Ev j (pc, l, st, h) r :=
  e_step (by rw [e_p1 hc, hs, if_neg hP]) k2
theorem e_end (hc : pe_at (qCod j) pc = some (i, n, ax)) (hs : p1i j i n ax pc l st h = some (.inr (.inl r))) : Ev j (pc, l, st, h) r :=
  e_ret (by rw [e_p1 hc, hs])
theorem e_endY {P : Prop} [Decidable P] (hc : pe_at (qCod j) pc = some (i, n, ax)) (hs : p1i j i n ax pc l st h = if P then some (.inr (.inl r)) else none) (hP : P) : Ev j (pc, l, st, h) r :=
  e_ret (by rw [e_p1 hc, hs, if_pos hP])
theorem e_ca {j' : Nat} {as t : List PV} {v : Option Int32} {h' : HP} {P : Prop} [Decidable P] (hc : pe_at (qCod j) pc = some (i, n, ax)) (hs : p1i j i n ax pc l st h = if P then some (.inr (.inr (j', as, t))) else none) (hP : P) (q : Ec j' as h (.inl v, h')) (k : Ev j (pc + 3, l, (v.map Sum.inl).toList ++ t, h') r) : Ev j (pc, l, st, h) r :=
  e_call (by rw [e_p1 hc, hs, if_pos hP]) q k
end EROWS
