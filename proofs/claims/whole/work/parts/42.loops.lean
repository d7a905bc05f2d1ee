/-! ROWS THAT STOP AT A LOOP'S HEAD (method a, pc b), and the first counting loop. -/
section GROWS
variable {j pc n : Nat} {i : Instr} {ax : List Nat} {l : PL} {st : List PV} {h : HP} {F : PO → Prop}
theorem g_st (a b : Nat) {pc' : Nat} {l' : PL} {st' : List PV} {h' : HP} (_ : (Nat.beq pc b && Nat.beq j a) = false) (hc : pe_at (qCod j) pc = some (i, n, ax)) (hs : p1i j i n ax pc l st h = some (.inl (pc', l', st', h'))) (k : Wp j (pc', l', st', h') F) : Wp j (pc, l, st, h) F := w_st hc hs k
theorem g_no (a b : Nat) {pc' : Nat} {l' : PL} {st' : List PV} {h' : HP} {P : Prop} [Decidable P] (_ : (Nat.beq pc b && Nat.beq j a) = false) (hc : pe_at (qCod j) pc = some (i, n, ax)) (hs : p1i j i n ax pc l st h = if P then none else some (.inl (pc', l', st', h'))) (hP : ¬ P) (k : Wp j (pc', l', st', h') F) : Wp j (pc, l, st, h) F := w_no hc hs hP k
theorem g_br (a b : Nat) {p1' p2' : Nat} {l1 l2 : PL} {s1 s2 : List PV} {h1 h2 : HP} {P : Prop} [Decidable P] (_ : (Nat.beq pc b && Nat.beq j a) = false) (hc : pe_at (qCod j) pc = some (i, n, ax)) (hs : p1i j i n ax pc l st h = if P then some (.inl (p1', l1, s1, h1)) else some (.inl (p2', l2, s2, h2))) (k1 : P → Wp j (p1', l1, s1, h1) F) (k2 : ¬ P → Wp j (p2', l2, s2, h2) F) : Wp j (pc, l, st, h) F := w_br hc hs k1 k2
end GROWS
set_option maxHeartbeats 2000000 in
theorem m_onBelt_loop (h : HP) : ∀ (d s : Nat), s + d = 10 → Wp 95 (4, [(2, .inl (nI s)), (1, .inl (nI (sm (fun s => if h 32 s = -1 then 0 else 1) s))), (0, .inr 30)], [], h) (fun r => r = (.inl (some (nI (nN (h 32)))), h)) := by
  intro d
  induction d with
  | zero =>
    intro s hs
    obtain rfl : s = 10 := by omega
    repeat' first
      | refine w_st rfl rfl ?_
      | refine w_end rfl rfl ?_
    rfl
  | succ d ih =>
    intro s hs
    refine w_st rfl rfl ?_
    refine w_st rfl rfl ?_
    refine w_br rfl rfl (fun z => ?_) (fun z => ?_)
    · exfalso
      simp (disch := omega) only [kc, nI_leI] at z
      omega
    · clear z
      repeat' first
        | refine g_st 95 4 rfl rfl rfl ?_
        | refine g_no 95 4 rfl rfl rfl ?_ ?_
        | refine g_br 95 4 rfl rfl rfl (fun z => ?_) (fun z => ?_)
      · exact nI_in (by omega) (by decide)
      · rw [nI_clamp (by omega)] at z
        have e := ih (s + 1) (by omega)
        simp only [sm, if_pos (show h 32 s = -1 from z)] at e
        simp only [kc, nI_add]
        exact e
      · rw [nI_clamp (by omega)] at z
        have e := ih (s + 1) (by omega)
        simp only [sm, if_neg (show ¬ h 32 s = -1 from z)] at e
        simp only [kc, nI_add]
        exact e
theorem m_onBelt (h : HP) : Ec 95 [.inr 30] h (.inl (some (nI (nN (h 32)))), h) := by
  refine w_fin ?_
  refine w_st rfl rfl ?_
  refine w_st rfl rfl ?_
  refine w_st rfl rfl ?_
  refine w_st rfl rfl ?_
  exact m_onBelt_loop h 10 0 rfl
