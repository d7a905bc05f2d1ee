/-! A PAYOUT'S NEXT NOTE (written by wip/whole/g57.py). -/
theorem w_ts {j pc : Nat} {l : PL} {x y : Int32} {t : List PV} {h : HP} {F : PO → Prop} (e : x = y) (k : Wp j (pc, l, .inl y :: t, h) F) : Wp j (pc, l, .inl x :: t, h) F := by
  subst e
  exact k
/-- the highest kind that is still to come -/
theorem top2 {c m : HP} {q : Nat → Nat} (hq : ∀ k, 1 ≤ k → k ≤ 5 → c 29 k = nI (q k) ∧ m 45 k = nI (q k) ∧ q k ≤ 120) : ∃ j, j ≤ 5 ∧ (∀ i, j < i → i ≤ 5 → q i = 0) ∧ (j = 0 ∨ 0 < q j) ∧ Ec 40 [.inr 27] c (.inl (some (nI j)), c) ∧ (∀ F, Wp 111 (21, [(1, .inl (nI j)), (0, .inr 30)], [], m) F → Wp 111 (0, [(0, .inr 30)], [], m) F) := by
  have cz : ∀ k, 1 ≤ k → k ≤ 5 → q k = 0 → c 29 k ≤ 0 ∧ m 45 k = 0 := fun k h1 h2 h => by
    obtain ⟨a, b, _⟩ := hq k h1 h2
    rw [a, b, h]
    decide
  have cp : ∀ k, 1 ≤ k → k ≤ 5 → 0 < q k → ¬ c 29 k ≤ 0 ∧ ¬ m 45 k = 0 := fun k h1 h2 h => by
    obtain ⟨a, b, hb⟩ := hq k h1 h2
    rw [a, b]
    refine ⟨fun z => ?_, fun z => ?_⟩
    · simp (disch := omega) only [kc, nI_leI] at z
      omega
    · simp (disch := omega) only [kc, nI_eq] at z
      omega
  rcases (Nat.eq_zero_or_pos (q 5)).symm with z5 | z5
  · refine ⟨5, by decide, fun i h1 h2 => ?_, Or.inr z5, w_fin ?_, fun F K => ?_⟩
    · omega
    · skip
      repeat' refine w_st rfl rfl ?_
      refine w_br rfl rfl (fun z => absurd z (cp 5 (by decide) (by decide) z5).1) (fun _ => ?_)
      repeat' first
        | refine w_st rfl rfl ?_
        | refine w_end rfl rfl ?_
      rfl
    · skip
      repeat' refine w_st rfl rfl ?_
      refine w_br rfl rfl (fun z => absurd z (cp 5 (by decide) (by decide) z5).2) (fun _ => ?_)
      exact K
  · skip
    rcases (Nat.eq_zero_or_pos (q 4)).symm with z4 | z4
    · refine ⟨4, by decide, fun i h1 h2 => ?_, Or.inr z4, w_fin ?_, fun F K => ?_⟩
      · rcases (show i = 5 by omega) with rfl <;> assumption
      · skip
        repeat' refine w_st rfl rfl ?_
        refine w_br rfl rfl (fun _ => ?_) (fun z => absurd (cz 5 (by decide) (by decide) z5).1 z)
        repeat' refine w_st rfl rfl ?_
        refine w_br rfl rfl (fun z => absurd z (cp 4 (by decide) (by decide) z4).1) (fun _ => ?_)
        repeat' first
          | refine w_st rfl rfl ?_
          | refine w_end rfl rfl ?_
        rfl
      · skip
        repeat' refine w_st rfl rfl ?_
        refine w_br rfl rfl (fun _ => ?_) (fun z => absurd (cz 5 (by decide) (by decide) z5).2 z)
        repeat' refine w_st rfl rfl ?_
        refine w_br rfl rfl (fun z => absurd z (cp 4 (by decide) (by decide) z4).2) (fun _ => ?_)
        exact K
    · skip
      rcases (Nat.eq_zero_or_pos (q 3)).symm with z3 | z3
      · refine ⟨3, by decide, fun i h1 h2 => ?_, Or.inr z3, w_fin ?_, fun F K => ?_⟩
        · rcases (show i = 4 ∨ i = 5 by omega) with rfl | rfl <;> assumption
        · skip
          repeat' refine w_st rfl rfl ?_
          refine w_br rfl rfl (fun _ => ?_) (fun z => absurd (cz 5 (by decide) (by decide) z5).1 z)
          repeat' refine w_st rfl rfl ?_
          refine w_br rfl rfl (fun _ => ?_) (fun z => absurd (cz 4 (by decide) (by decide) z4).1 z)
          repeat' refine w_st rfl rfl ?_
          refine w_br rfl rfl (fun z => absurd z (cp 3 (by decide) (by decide) z3).1) (fun _ => ?_)
          repeat' first
            | refine w_st rfl rfl ?_
            | refine w_end rfl rfl ?_
          rfl
        · skip
          repeat' refine w_st rfl rfl ?_
          refine w_br rfl rfl (fun _ => ?_) (fun z => absurd (cz 5 (by decide) (by decide) z5).2 z)
          repeat' refine w_st rfl rfl ?_
          refine w_br rfl rfl (fun _ => ?_) (fun z => absurd (cz 4 (by decide) (by decide) z4).2 z)
          repeat' refine w_st rfl rfl ?_
          refine w_br rfl rfl (fun z => absurd z (cp 3 (by decide) (by decide) z3).2) (fun _ => ?_)
          exact K
      · skip
        rcases (Nat.eq_zero_or_pos (q 2)).symm with z2 | z2
        · refine ⟨2, by decide, fun i h1 h2 => ?_, Or.inr z2, w_fin ?_, fun F K => ?_⟩
          · rcases (show i = 3 ∨ i = 4 ∨ i = 5 by omega) with rfl | rfl | rfl <;> assumption
          · skip
            repeat' refine w_st rfl rfl ?_
            refine w_br rfl rfl (fun _ => ?_) (fun z => absurd (cz 5 (by decide) (by decide) z5).1 z)
            repeat' refine w_st rfl rfl ?_
            refine w_br rfl rfl (fun _ => ?_) (fun z => absurd (cz 4 (by decide) (by decide) z4).1 z)
            repeat' refine w_st rfl rfl ?_
            refine w_br rfl rfl (fun _ => ?_) (fun z => absurd (cz 3 (by decide) (by decide) z3).1 z)
            repeat' refine w_st rfl rfl ?_
            refine w_br rfl rfl (fun z => absurd z (cp 2 (by decide) (by decide) z2).1) (fun _ => ?_)
            repeat' first
              | refine w_st rfl rfl ?_
              | refine w_end rfl rfl ?_
            rfl
          · skip
            repeat' refine w_st rfl rfl ?_
            refine w_br rfl rfl (fun _ => ?_) (fun z => absurd (cz 5 (by decide) (by decide) z5).2 z)
            repeat' refine w_st rfl rfl ?_
            refine w_br rfl rfl (fun _ => ?_) (fun z => absurd (cz 4 (by decide) (by decide) z4).2 z)
            repeat' refine w_st rfl rfl ?_
            refine w_br rfl rfl (fun _ => ?_) (fun z => absurd (cz 3 (by decide) (by decide) z3).2 z)
            repeat' refine w_st rfl rfl ?_
            refine w_br rfl rfl (fun z => absurd z (cp 2 (by decide) (by decide) z2).2) (fun _ => ?_)
            exact K
        · skip
          rcases (Nat.eq_zero_or_pos (q 1)).symm with z1 | z1
          · refine ⟨1, by decide, fun i h1 h2 => ?_, Or.inr z1, w_fin ?_, fun F K => ?_⟩
            · rcases (show i = 2 ∨ i = 3 ∨ i = 4 ∨ i = 5 by omega) with rfl | rfl | rfl | rfl <;> assumption
            · skip
              repeat' refine w_st rfl rfl ?_
              refine w_br rfl rfl (fun _ => ?_) (fun z => absurd (cz 5 (by decide) (by decide) z5).1 z)
              repeat' refine w_st rfl rfl ?_
              refine w_br rfl rfl (fun _ => ?_) (fun z => absurd (cz 4 (by decide) (by decide) z4).1 z)
              repeat' refine w_st rfl rfl ?_
              refine w_br rfl rfl (fun _ => ?_) (fun z => absurd (cz 3 (by decide) (by decide) z3).1 z)
              repeat' refine w_st rfl rfl ?_
              refine w_br rfl rfl (fun _ => ?_) (fun z => absurd (cz 2 (by decide) (by decide) z2).1 z)
              repeat' refine w_st rfl rfl ?_
              refine w_br rfl rfl (fun z => absurd z (cp 1 (by decide) (by decide) z1).1) (fun _ => ?_)
              repeat' first
                | refine w_st rfl rfl ?_
                | refine w_end rfl rfl ?_
              rfl
            · skip
              repeat' refine w_st rfl rfl ?_
              refine w_br rfl rfl (fun _ => ?_) (fun z => absurd (cz 5 (by decide) (by decide) z5).2 z)
              repeat' refine w_st rfl rfl ?_
              refine w_br rfl rfl (fun _ => ?_) (fun z => absurd (cz 4 (by decide) (by decide) z4).2 z)
              repeat' refine w_st rfl rfl ?_
              refine w_br rfl rfl (fun _ => ?_) (fun z => absurd (cz 3 (by decide) (by decide) z3).2 z)
              repeat' refine w_st rfl rfl ?_
              refine w_br rfl rfl (fun _ => ?_) (fun z => absurd (cz 2 (by decide) (by decide) z2).2 z)
              repeat' refine w_st rfl rfl ?_
              refine w_br rfl rfl (fun z => absurd z (cp 1 (by decide) (by decide) z1).2) (fun _ => ?_)
              exact K
          · skip
            refine ⟨0, by decide, fun i h1 h2 => ?_, Or.inl rfl, w_fin ?_, fun F K => ?_⟩
            · rcases (show i = 1 ∨ i = 2 ∨ i = 3 ∨ i = 4 ∨ i = 5 by omega) with rfl | rfl | rfl | rfl | rfl <;> assumption
            · skip
              repeat' refine w_st rfl rfl ?_
              refine w_br rfl rfl (fun _ => ?_) (fun z => absurd (cz 5 (by decide) (by decide) z5).1 z)
              repeat' refine w_st rfl rfl ?_
              refine w_br rfl rfl (fun _ => ?_) (fun z => absurd (cz 4 (by decide) (by decide) z4).1 z)
              repeat' refine w_st rfl rfl ?_
              refine w_br rfl rfl (fun _ => ?_) (fun z => absurd (cz 3 (by decide) (by decide) z3).1 z)
              repeat' refine w_st rfl rfl ?_
              refine w_br rfl rfl (fun _ => ?_) (fun z => absurd (cz 2 (by decide) (by decide) z2).1 z)
              repeat' refine w_st rfl rfl ?_
              refine w_br rfl rfl (fun _ => ?_) (fun z => absurd (cz 1 (by decide) (by decide) z1).1 z)
              repeat' first
                | refine w_st rfl rfl ?_
                | refine w_end rfl rfl ?_
              rfl
            · skip
              repeat' refine w_st rfl rfl ?_
              refine w_br rfl rfl (fun _ => ?_) (fun z => absurd (cz 5 (by decide) (by decide) z5).2 z)
              repeat' refine w_st rfl rfl ?_
              refine w_br rfl rfl (fun _ => ?_) (fun z => absurd (cz 4 (by decide) (by decide) z4).2 z)
              repeat' refine w_st rfl rfl ?_
              refine w_br rfl rfl (fun _ => ?_) (fun z => absurd (cz 3 (by decide) (by decide) z3).2 z)
              repeat' refine w_st rfl rfl ?_
              refine w_br rfl rfl (fun _ => ?_) (fun z => absurd (cz 2 (by decide) (by decide) z2).2 z)
              repeat' refine w_st rfl rfl ?_
              refine w_br rfl rfl (fun _ => ?_) (fun z => absurd (cz 1 (by decide) (by decide) z1).2 z)
              repeat' refine g_st 111 21 rfl rfl rfl ?_
              exact K
/-- the first cassette with a note of kind j -/
theorem fw_c {c m : HP} (hmg : r_mg c m) {j : Nat} (hj : j ≤ 5) : ∀ i, i < 4 → (∀ k n, c 10 i = nI k → c 11 i = nI n → k ≤ 5 → n ≤ 30 → ¬ (k = j ∧ 0 < n)) → ∀ F, Wp 31 (2, [(2, .inl (nI (i + 1))), (0, .inr 9), (1, .inl (nI j))], [], c) F → Wp 31 (2, [(2, .inl (nI i)), (0, .inr 9), (1, .inl (nI j))], [], c) F := by
  intro i hi hn F K
  obtain ⟨k, n, h1, h2, h3, a1, a2, a3, a4⟩ := hmg i hi
  have hD := hn k n a1 a3 h2 h3
  have ec : (nI i).toNatClampNeg = i := nI_clamp (by omega)
  refine w_st rfl rfl ?_
  refine w_st rfl rfl ?_
  refine w_br rfl rfl (fun z => ?_) (fun _ => ?_)
  · exfalso
    simp (disch := omega) only [kc, nI_leI] at z
    omega
  by_cases hk : k = j
  · have hz : ¬ 0 < n := fun z => hD ⟨hk, z⟩
    repeat' first
      | refine g_st 31 2 rfl rfl rfl ?_
      | refine g_no 31 2 rfl rfl rfl ?_ ?_
      | (refine g_br 31 2 rfl rfl rfl (fun z => ?_) (fun z => ?_) <;> try (first | contradiction | (simp (disch := omega) only [ec, a1, a3, kc, nI_eq, nI_ltI, nI_leI, nI_m1, hu_o, hu_k, hu_same, not_true_eq_false, not_false_eq_true] at z; first | done | omega)))
      | refine w_in rfl rfl ?_
      | refine w_end rfl rfl ?_
      | refine w_endY rfl rfl ?_ ?_
      | refine w_up ?_
    all_goals try (intro z; simp (disch := omega) only [ec, a1, a3, nI_clamp, kc, nI_ltI, hu_o, hu_k, hu_same, false_or] at z <;> omega)
    all_goals (simp only [kc, nI_add]; exact K)
  · skip
    repeat' first
      | refine g_st 31 2 rfl rfl rfl ?_
      | refine g_no 31 2 rfl rfl rfl ?_ ?_
      | (refine g_br 31 2 rfl rfl rfl (fun z => ?_) (fun z => ?_) <;> try (first | contradiction | (simp (disch := omega) only [ec, a1, a3, kc, nI_eq, nI_ltI, nI_leI, nI_m1, hu_o, hu_k, hu_same, not_true_eq_false, not_false_eq_true] at z; first | done | omega)))
      | refine w_in rfl rfl ?_
      | refine w_end rfl rfl ?_
      | refine w_endY rfl rfl ?_ ?_
      | refine w_up ?_
    all_goals try (intro z; simp (disch := omega) only [ec, a1, a3, nI_clamp, kc, nI_ltI, hu_o, hu_k, hu_same, false_or] at z <;> omega)
    all_goals (simp only [kc, nI_add]; exact K)
theorem fw_m {c m : HP} (hmg : r_mg c m) {j : Nat} (hj : j ≤ 5) : ∀ i, i < 4 → (∀ k n, c 10 i = nI k → c 11 i = nI n → k ≤ 5 → n ≤ 30 → ¬ (k = j ∧ 0 < n)) → ∀ F, Wp 111 (28, [(2, .inl (nI (i + 1))), (1, .inl (nI j)), (0, .inr 30)], [], m) F → Wp 111 (28, [(2, .inl (nI i)), (1, .inl (nI j)), (0, .inr 30)], [], m) F := by
  intro i hi hn F K
  obtain ⟨k, n, h1, h2, h3, a1, a2, a3, a4⟩ := hmg i hi
  have hD := hn k n a1 a3 h2 h3
  have ec : (nI i).toNatClampNeg = i := nI_clamp (by omega)
  refine w_st rfl rfl ?_
  by_cases hk : k = j
  · have hz : ¬ 0 < n := fun z => hD ⟨hk, z⟩
    repeat' first
      | refine g_st 111 28 rfl rfl rfl ?_
      | refine g_no 111 28 rfl rfl rfl ?_ ?_
      | (refine g_br 111 28 rfl rfl rfl (fun z => ?_) (fun z => ?_) <;> try (first | contradiction | (simp (disch := omega) only [ec, a2, a4, kc, nI_eq, nI_ltI, nI_leI, nI_m1, hu_o, hu_k, hu_same, not_true_eq_false, not_false_eq_true] at z; first | done | omega)))
      | refine w_in rfl rfl ?_
      | refine w_end rfl rfl ?_
      | refine w_endY rfl rfl ?_ ?_
      | refine w_up ?_
    all_goals try (intro z; simp (disch := omega) only [ec, a2, a4, nI_clamp, kc, nI_ltI, hu_o, hu_k, hu_same, false_or] at z <;> omega)
    all_goals (simp only [kc, nI_add]; exact K)
  · skip
    repeat' first
      | refine g_st 111 28 rfl rfl rfl ?_
      | refine g_no 111 28 rfl rfl rfl ?_ ?_
      | (refine g_br 111 28 rfl rfl rfl (fun z => ?_) (fun z => ?_) <;> try (first | contradiction | (simp (disch := omega) only [ec, a2, a4, kc, nI_eq, nI_ltI, nI_leI, nI_m1, hu_o, hu_k, hu_same, not_true_eq_false, not_false_eq_true] at z; first | done | omega)))
      | refine w_in rfl rfl ?_
      | refine w_end rfl rfl ?_
      | refine w_endY rfl rfl ?_ ?_
      | refine w_up ?_
    all_goals try (intro z; simp (disch := omega) only [ec, a2, a4, nI_clamp, kc, nI_ltI, hu_o, hu_k, hu_same, false_or] at z <;> omega)
    all_goals (simp only [kc, nI_add]; exact K)
theorem fw_cy {c m : HP} (hmg : r_mg c m) {i j n : Nat} (hi : i < 4) (hn : n ≤ 30) (h0 : 0 < n) (hj : j ≤ 5) (a1 : c 10 i = nI j) (a3 : c 11 i = nI n) {F : PO → Prop} (K : F (.inl (some (nI i)), c)) : Wp 31 (2, [(2, .inl (nI i)), (0, .inr 9), (1, .inl (nI j))], [], c) F := by
  have ec : (nI i).toNatClampNeg = i := nI_clamp (by omega)
  repeat' first
    | refine w_st rfl rfl ?_
    | refine w_no rfl rfl ?_ ?_
    | (refine w_br rfl rfl (fun z => ?_) (fun z => ?_) <;> try (first | contradiction | (simp (disch := omega) only [ec, a1, a3, kc, nI_eq, nI_ltI, nI_leI, nI_m1, hu_o, hu_k, hu_same, not_true_eq_false, not_false_eq_true] at z; first | done | omega)))
    | refine w_in rfl rfl ?_
    | refine w_end rfl rfl ?_
    | refine w_endY rfl rfl ?_ ?_
    | refine w_up ?_
  all_goals try (intro z; simp (disch := omega) only [ec, a1, a3, nI_clamp, kc, nI_ltI, hu_o, hu_k, hu_same, false_or] at z <;> omega)
  all_goals exact K
theorem fw_my {c m : HP} (hmg : r_mg c m) {i j n : Nat} (hi : i < 4) (hn : n ≤ 30) (h0 : 0 < n) (hj : j ≤ 5) (a2 : m 36 i = nI j) (a4 : m 37 i = nI n) {F : PO → Prop} (K : Wp 111 (53, [(2, .inl (nI i)), (1, .inl (nI j)), (0, .inr 30)], [], m) F) : Wp 111 (28, [(2, .inl (nI i)), (1, .inl (nI j)), (0, .inr 30)], [], m) F := by
  have ec : (nI i).toNatClampNeg = i := nI_clamp (by omega)
  repeat' first
    | refine g_st 111 53 rfl rfl rfl ?_
    | refine g_no 111 53 rfl rfl rfl ?_ ?_
    | (refine g_br 111 53 rfl rfl rfl (fun z => ?_) (fun z => ?_) <;> try (first | contradiction | (simp (disch := omega) only [ec, a2, a4, kc, nI_eq, nI_ltI, nI_leI, nI_m1, hu_o, hu_k, hu_same, not_true_eq_false, not_false_eq_true] at z; first | done | omega)))
    | refine w_in rfl rfl ?_
    | refine w_end rfl rfl ?_
    | refine w_endY rfl rfl ?_ ?_
    | refine w_up ?_
  all_goals try (intro z; simp (disch := omega) only [ec, a2, a4, nI_clamp, kc, nI_ltI, hu_o, hu_k, hu_same, false_or] at z <;> omega)
  all_goals exact K
/-- there is a first cassette with a note of kind j, if there is one -/
theorem fw2 {c m : HP} (hmg : r_mg c m) {j : Nat} (hj : j ≤ 5) (hs : 0 < stk (m 36) (m 37) j) : ∃ i n, i < 4 ∧ n ≤ 30 ∧ 0 < n ∧ c 10 i = nI j ∧ m 36 i = nI j ∧ c 11 i = nI n ∧ m 37 i = nI n ∧ Ec 31 [.inr 9, .inl (nI j)] c (.inl (some (nI i)), c) ∧ (∀ F, Wp 111 (53, [(2, .inl (nI i)), (1, .inl (nI j)), (0, .inr 30)], [], m) F → Wp 111 (28, [(2, .inl (nI 0)), (1, .inl (nI j)), (0, .inr 30)], [], m) F) := by
  obtain ⟨k0, n0, e0, f0, g0, a0, b0, c0, d0⟩ := hmg 0 (by decide)
  obtain ⟨k1, n1, e1, f1, g1, a1, b1, c1, d1⟩ := hmg 1 (by decide)
  obtain ⟨k2, n2, e2, f2, g2, a2, b2, c2, d2⟩ := hmg 2 (by decide)
  obtain ⟨k3, n3, e3, f3, g3, a3, b3, c3, d3⟩ := hmg 3 (by decide)
  have no : ∀ i k n, c 10 i = nI k → c 11 i = nI n → k ≤ 5 → n ≤ 30 → ¬ (k = j ∧ 0 < n) → (∀ k n, c 10 i = nI k → c 11 i = nI n → k ≤ 5 → n ≤ 30 → ¬ (k = j ∧ 0 < n)) := fun i k n p1 p2 p3 p4 p5 k' n' q1 q2 q3 q4 => by
    have r1 := (nI_eq (by omega) (by omega)).mp (p1.symm.trans q1)
    have r2 := (nI_eq (by omega) (by omega)).mp (p2.symm.trans q2)
    subst r1 r2
    exact p5
  by_cases D0 : k0 = j ∧ 0 < n0
  · obtain ⟨e, D0⟩ := D0
    rw [e] at a0 b0
    refine ⟨0, n0, by decide, g0, D0, a0, b0, c0, d0, w_fin ?_, fun F K => ?_⟩
    · refine w_st rfl rfl ?_
      refine w_st rfl rfl ?_
      exact fw_cy hmg (i := 0) (by decide) g0 D0 hj a0 c0 rfl
    · skip
      exact fw_my hmg (i := 0) (by decide) g0 D0 hj b0 d0 K
  · skip
    by_cases D1 : k1 = j ∧ 0 < n1
    · obtain ⟨e, D1⟩ := D1
      rw [e] at a1 b1
      refine ⟨1, n1, by decide, g1, D1, a1, b1, c1, d1, w_fin ?_, fun F K => ?_⟩
      · refine w_st rfl rfl ?_
        refine w_st rfl rfl ?_
        refine fw_c hmg hj 0 (by decide) (no 0 k0 n0 a0 c0 f0 g0 D0) _ ?_
        exact fw_cy hmg (i := 1) (by decide) g1 D1 hj a1 c1 rfl
      · skip
        refine fw_m hmg hj 0 (by decide) (no 0 k0 n0 a0 c0 f0 g0 D0) _ ?_
        exact fw_my hmg (i := 1) (by decide) g1 D1 hj b1 d1 K
    · skip
      by_cases D2 : k2 = j ∧ 0 < n2
      · obtain ⟨e, D2⟩ := D2
        rw [e] at a2 b2
        refine ⟨2, n2, by decide, g2, D2, a2, b2, c2, d2, w_fin ?_, fun F K => ?_⟩
        · refine w_st rfl rfl ?_
          refine w_st rfl rfl ?_
          refine fw_c hmg hj 0 (by decide) (no 0 k0 n0 a0 c0 f0 g0 D0) _ ?_
          refine fw_c hmg hj 1 (by decide) (no 1 k1 n1 a1 c1 f1 g1 D1) _ ?_
          exact fw_cy hmg (i := 2) (by decide) g2 D2 hj a2 c2 rfl
        · skip
          refine fw_m hmg hj 0 (by decide) (no 0 k0 n0 a0 c0 f0 g0 D0) _ ?_
          refine fw_m hmg hj 1 (by decide) (no 1 k1 n1 a1 c1 f1 g1 D1) _ ?_
          exact fw_my hmg (i := 2) (by decide) g2 D2 hj b2 d2 K
      · skip
        by_cases D3 : k3 = j ∧ 0 < n3
        · obtain ⟨e, D3⟩ := D3
          rw [e] at a3 b3
          refine ⟨3, n3, by decide, g3, D3, a3, b3, c3, d3, w_fin ?_, fun F K => ?_⟩
          · refine w_st rfl rfl ?_
            refine w_st rfl rfl ?_
            refine fw_c hmg hj 0 (by decide) (no 0 k0 n0 a0 c0 f0 g0 D0) _ ?_
            refine fw_c hmg hj 1 (by decide) (no 1 k1 n1 a1 c1 f1 g1 D1) _ ?_
            refine fw_c hmg hj 2 (by decide) (no 2 k2 n2 a2 c2 f2 g2 D2) _ ?_
            exact fw_cy hmg (i := 3) (by decide) g3 D3 hj a3 c3 rfl
          · skip
            refine fw_m hmg hj 0 (by decide) (no 0 k0 n0 a0 c0 f0 g0 D0) _ ?_
            refine fw_m hmg hj 1 (by decide) (no 1 k1 n1 a1 c1 f1 g1 D1) _ ?_
            refine fw_m hmg hj 2 (by decide) (no 2 k2 n2 a2 c2 f2 g2 D2) _ ?_
            exact fw_my hmg (i := 3) (by decide) g3 D3 hj b3 d3 K
        · skip
          exfalso
          simp only [stk, sm, b0, b1, b2, b3, d0, d1, d2, d3] at hs
          rw [nI_clamp (by omega), nI_clamp (by omega), nI_clamp (by omega), nI_clamp (by omega)] at hs
          have t : ∀ k n, k ≤ 5 → ¬ (k = j ∧ 0 < n) → (if nI k = nI j then n else 0) = 0 := fun k n h1 h2 => by
            split
            · rename_i z
              have := (nI_eq (by omega) (by omega)).mp z
              omega
            · rfl
          rw [t k0 n0 f0 D0, t k1 n1 f1 D1, t k2 n2 f2 D2, t k3 n3 f3 D3] at hs
          omega
