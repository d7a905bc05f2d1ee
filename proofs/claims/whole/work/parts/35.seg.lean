/-! CALLS ON ONE SEGMENT (written by wip/whole/gen_ops2.py). -/
theorem nI_m1 {n : Nat} (h : n < 2 ^ 31) : (nI n = -1) = False := by
  apply eq_false
  intro e
  have e1 := congrArg Int32.toInt e
  rw [nI_toInt h] at e1
  have e2 : (-1 : Int32).toInt = -1 := by decide
  omega
theorem bt_at {c m c' m' : HP} {j : Nat} (h : r_bt c m) (e : ∀ s, s ≠ j → c' 4 s = c 4 s ∧ c' 5 s = c 5 s ∧ c' 6 s = c 6 s ∧ m' 32 s = m 32 s ∧ m' 33 s = m 33 s ∧ m' 34 s = m 34 s) (hj : r_sg c' m' j) : r_bt c' m' := by
  intro s hs
  by_cases es : s = j
  · subst es
    exact hj
  · obtain ⟨a1, a2, a3, a4, a5, a6⟩ := e s es
    have h0 := h s hs
    simp only [r_sg, r_no, r_nt, a1, a2, a3, a4, a5, a6] at h0 ⊢
    exact h0
/-- an index of 0 .. n: below, above, in -/
theorem ix3 (x : Int32) (n : Nat) (hn : n + 1 < 2 ^ 31) : ((x < nI 0) = True) ∨ (((x < nI 0) = False) ∧ ((nI (n + 1) ≤ x) = True) ∧ ((nI n < x) = True) ∧ ((x ≤ nI n) = False)) ∨ ∃ j, j < n + 1 ∧ x = nI j := by
  rcases pk_ix x (n := n + 1) hn with h | h | h
  · exact Or.inl (eq_true h)
  · refine Or.inr (Or.inl ⟨eq_false ?_, eq_true h, eq_true ?_, eq_false ?_⟩) <;> simp only [Int32.lt_iff_toInt_lt, Int32.le_iff_toInt_le] at h ⊢ <;> rw [nI_toInt (by omega)] at h ⊢ <;> omega
  · exact Or.inr (Or.inr h)

set_option maxHeartbeats 8000000 in
theorem o_belt (s w : Int32) : P_W RR 90 135 [0] true [.inl s, .inl w] := by
  refine P_Wof fun c m hR => ?_
  have hR0 := hR
  obtain ⟨⟨⟨t, ht, h1, h2⟩, ⟨u, hu1, hu2, hu3⟩, hpw, ⟨op, hop1, hop2, hop3⟩, hsb⟩, hvd, hbt, hsz, hes, hmg, hbk, hpy⟩ := hR
  rcases ix3 s 9 (by decide) with e1 | ⟨e1, e2, e3, e4⟩ | ⟨j, hj, rfl⟩
  · unfold P_run
    repeat' first
      | refine w_st rfl rfl ?_
      | refine w_no rfl rfl ?_ ?_
      | (refine w_br rfl rfl (fun z => ?_) (fun z => ?_) <;> try (first | contradiction | (simp (disch := omega) only [hop2, hop3, e1, kc, nI_eq, nI_ltI, nI_leI, nI_m1, hu_o, not_true_eq_false] at z; first | done | omega)))
      | refine w_in rfl rfl ?_
      | refine w_end rfl rfl ?_
      | refine w_endY rfl rfl ?_ ?_
      | refine w_up ?_
    all_goals try exact f_x 0 hR0 rfl rfl rfl
    all_goals try (exfalso; simp (disch := omega) only [hop2, hop3, e1, kc, nI_eq, nI_ltI, nI_leI, nI_m1, hu_o, not_true_eq_false] at * <;> first | contradiction | omega)
  · unfold P_run
    repeat' first
      | refine w_st rfl rfl ?_
      | refine w_no rfl rfl ?_ ?_
      | (refine w_br rfl rfl (fun z => ?_) (fun z => ?_) <;> try (first | contradiction | (simp (disch := omega) only [hop2, hop3, e1, e2, e3, e4, kc, nI_eq, nI_ltI, nI_leI, nI_m1, hu_o, not_true_eq_false] at z; first | done | omega)))
      | refine w_in rfl rfl ?_
      | refine w_end rfl rfl ?_
      | refine w_endY rfl rfl ?_ ?_
      | refine w_up ?_
    all_goals try exact f_x 0 hR0 rfl rfl rfl
    all_goals try (exfalso; simp (disch := omega) only [hop2, hop3, e1, e2, e3, e4, kc, nI_eq, nI_ltI, nI_leI, nI_m1, hu_o, not_true_eq_false] at * <;> first | contradiction | omega)
  · have ej : (nI j).toNatClampNeg = j := nI_clamp (by omega)
    rcases hbt j hj with ⟨q1, q2, q3, q4⟩ | ⟨k, g, y, hk, hg, hy, hgs, b1, b2, b3, b4, b5, b6⟩
    · unfold P_run
      repeat' first
        | refine w_st rfl rfl ?_
        | refine w_no rfl rfl (nI_in hj (by decide)) ?_
        | refine w_no rfl rfl ?_ ?_
        | (refine w_br rfl rfl (fun z => ?_) (fun z => ?_) <;> try (first | contradiction | (simp (disch := omega) only [q1, q2, q3, hop2, hop3, ej, kc, nI_eq, nI_ltI, nI_leI, nI_m1, hu_o, not_true_eq_false] at z; first | done | omega)))
        | refine w_in rfl rfl ?_
        | refine w_end rfl rfl ?_
        | refine w_endY rfl rfl ?_ ?_
        | refine w_up ?_
      all_goals try (right; simp only [ej, q1, q2, q3]; decide)
      all_goals try exact f_x 0 hR0 rfl rfl rfl
      all_goals try (exfalso; simp (disch := omega) only [q1, q2, q3, hop2, hop3, ej, kc, nI_eq, nI_ltI, nI_leI, nI_m1, hu_o, not_true_eq_false] at * <;> first | contradiction | omega)
      all_goals (refine f_r hR0 rfl ?_ rfl; simp (disch := omega) only [ej, q1, q2, kc, hu_o]; done)
    · rcases (show y = 0 ∨ y = 1 by omega) with rfl | rfl
      all_goals unfold P_run
      all_goals
        repeat' first
          | refine w_st rfl rfl ?_
          | refine w_no rfl rfl (nI_in hj (by decide)) ?_
          | refine w_no rfl rfl ?_ ?_
          | (refine w_br rfl rfl (fun z => ?_) (fun z => ?_) <;> try (first | contradiction | (simp (disch := omega) only [b1, b2, b3, b4, b5, b6, hop2, hop3, ej, kc, nI_eq, nI_ltI, nI_leI, nI_m1, hu_o, not_true_eq_false] at z; first | done | omega)))
          | refine w_in rfl rfl ?_
          | refine w_end rfl rfl ?_
          | refine w_endY rfl rfl ?_ ?_
          | refine w_up ?_
      all_goals try (right; simp only [ej, b1, b2, b3, b4, b5, b6]; decide)
      all_goals try exact f_x 0 hR0 rfl rfl rfl
      all_goals try (exfalso; simp (disch := omega) only [b1, b2, b3, b4, b5, b6, hop2, hop3, ej, kc, nI_eq, nI_ltI, nI_leI, nI_m1, hu_o, not_true_eq_false] at * <;> first | contradiction | omega)
      all_goals (refine f_r hR0 rfl ?_ rfl; simp (disch := omega) only [ej, b1, b2, b3, b4, b5, b6, kc, hu_o]; done)

set_option maxHeartbeats 8000000 in
theorem o_stick (s : Int32) : P_W RR 71 116 [0, 3] false [.inl s] := by
  refine P_Wof fun c m hR => ?_
  have hR0 := hR
  obtain ⟨⟨⟨t, ht, h1, h2⟩, ⟨u, hu1, hu2, hu3⟩, hpw, ⟨op, hop1, hop2, hop3⟩, hsb⟩, hvd, hbt, hsz, hes, hmg, hbk, hpy⟩ := hR
  rcases ix3 s 9 (by decide) with e1 | ⟨e1, e2, e3, e4⟩ | ⟨j, hj, rfl⟩
  · unfold P_run
    repeat' first
      | refine w_st rfl rfl ?_
      | refine w_no rfl rfl ?_ ?_
      | (refine w_br rfl rfl (fun z => ?_) (fun z => ?_) <;> try (first | contradiction | (simp (disch := omega) only [hop2, hop3, e1, kc, nI_eq, nI_ltI, nI_leI, nI_m1, hu_o, not_true_eq_false] at z; first | done | omega)))
      | refine w_in rfl rfl ?_
      | refine w_end rfl rfl ?_
      | refine w_endY rfl rfl ?_ ?_
      | refine w_up ?_
    all_goals try exact f_x 0 hR0 rfl rfl rfl
    all_goals try exact f_x 1 hR0 rfl rfl rfl
    all_goals try (exfalso; simp (disch := omega) only [hop2, hop3, e1, kc, nI_eq, nI_ltI, nI_leI, nI_m1, hu_o, not_true_eq_false] at * <;> first | contradiction | omega)
  · unfold P_run
    repeat' first
      | refine w_st rfl rfl ?_
      | refine w_no rfl rfl ?_ ?_
      | (refine w_br rfl rfl (fun z => ?_) (fun z => ?_) <;> try (first | contradiction | (simp (disch := omega) only [hop2, hop3, e1, e2, e3, e4, kc, nI_eq, nI_ltI, nI_leI, nI_m1, hu_o, not_true_eq_false] at z; first | done | omega)))
      | refine w_in rfl rfl ?_
      | refine w_end rfl rfl ?_
      | refine w_endY rfl rfl ?_ ?_
      | refine w_up ?_
    all_goals try exact f_x 0 hR0 rfl rfl rfl
    all_goals try exact f_x 1 hR0 rfl rfl rfl
    all_goals try (exfalso; simp (disch := omega) only [hop2, hop3, e1, e2, e3, e4, kc, nI_eq, nI_ltI, nI_leI, nI_m1, hu_o, not_true_eq_false] at * <;> first | contradiction | omega)
  · have ej : (nI j).toNatClampNeg = j := nI_clamp (by omega)
    rcases hbt j hj with ⟨q1, q2, q3, q4⟩ | ⟨k, g, y, hk, hg, hy, hgs, b1, b2, b3, b4, b5, b6⟩
    · unfold P_run
      repeat' first
        | refine w_st rfl rfl ?_
        | refine w_no rfl rfl (nI_in hj (by decide)) ?_
        | refine w_no rfl rfl ?_ ?_
        | (refine w_br rfl rfl (fun z => ?_) (fun z => ?_) <;> try (first | contradiction | (simp (disch := omega) only [q1, q2, q3, hop2, hop3, ej, kc, nI_eq, nI_ltI, nI_leI, nI_m1, hu_o, not_true_eq_false] at z; first | done | omega)))
        | refine w_in rfl rfl ?_
        | refine w_end rfl rfl ?_
        | refine w_endY rfl rfl ?_ ?_
        | refine w_up ?_
      all_goals try (right; simp only [ej, q1, q2, q3]; decide)
      all_goals try exact f_x 0 hR0 rfl rfl rfl
      all_goals try exact f_x 1 hR0 rfl rfl rfl
      all_goals try (exfalso; simp (disch := omega) only [q1, q2, q3, hop2, hop3, ej, kc, nI_eq, nI_ltI, nI_leI, nI_m1, hu_o, not_true_eq_false] at * <;> first | contradiction | omega)
    · rcases (show y = 0 ∨ y = 1 by omega) with rfl | rfl
      all_goals unfold P_run
      all_goals
        repeat' first
          | refine w_st rfl rfl ?_
          | refine w_no rfl rfl (nI_in hj (by decide)) ?_
          | refine w_no rfl rfl ?_ ?_
          | (refine w_br rfl rfl (fun z => ?_) (fun z => ?_) <;> try (first | contradiction | (simp (disch := omega) only [b1, b2, b3, b4, b5, b6, hop2, hop3, ej, kc, nI_eq, nI_ltI, nI_leI, nI_m1, hu_o, not_true_eq_false] at z; first | done | omega)))
          | refine w_in rfl rfl ?_
          | refine w_end rfl rfl ?_
          | refine w_endY rfl rfl ?_ ?_
          | refine w_up ?_
      all_goals try (right; simp only [ej, b1, b2, b3, b4, b5, b6]; decide)
      all_goals try exact f_x 0 hR0 rfl rfl rfl
      all_goals try exact f_x 1 hR0 rfl rfl rfl
      all_goals try (exfalso; simp (disch := omega) only [b1, b2, b3, b4, b5, b6, hop2, hop3, ej, kc, nI_eq, nI_ltI, nI_leI, nI_m1, hu_o, not_true_eq_false] at * <;> first | contradiction | omega)
      all_goals refine f_r ⟨⟨⟨t, ht, h1, h2⟩, ⟨u, hu1, hu2, hu3⟩, hpw, ⟨op, hop1, hop2, hop3⟩, hsb⟩, hvd, bt_at (j := j) hbt (fun s hs => ?_) (Or.inr ⟨k, g, 1, hk, hg, by decide, hgs, ?_⟩), hsz, hes, hmg, hbk, hpy⟩ rfl rfl rfl
      all_goals first | (simp only [ej, hu]; simp [hs]; done) | (simp only [ej, r_nt, hu]; simp [b1, b2, b3, b4, kc]; done)

set_option maxHeartbeats 8000000 in
theorem o_free (s : Int32) : P_W RR 74 119 [1, 0] true [.inl s] := by
  refine P_Wof fun c m hR => ?_
  have hR0 := hR
  obtain ⟨⟨⟨t, ht, h1, h2⟩, ⟨u, hu1, hu2, hu3⟩, hpw, ⟨op, hop1, hop2, hop3⟩, hsb⟩, hvd, hbt, hsz, hes, hmg, hbk, hpy⟩ := hR
  rcases ix3 s 9 (by decide) with e1 | ⟨e1, e2, e3, e4⟩ | ⟨j, hj, rfl⟩
  · unfold P_run
    repeat' first
      | refine w_st rfl rfl ?_
      | refine w_no rfl rfl ?_ ?_
      | (refine w_br rfl rfl (fun z => ?_) (fun z => ?_) <;> try (first | contradiction | (simp (disch := omega) only [hop2, hop3, e1, kc, nI_eq, nI_ltI, nI_leI, nI_m1, hu_o, not_true_eq_false] at z; first | done | omega)))
      | refine w_in rfl rfl ?_
      | refine w_end rfl rfl ?_
      | refine w_endY rfl rfl ?_ ?_
      | refine w_up ?_
    all_goals try exact f_x 0 hR0 rfl rfl rfl
    all_goals try exact f_x 1 hR0 rfl rfl rfl
    all_goals try (exfalso; simp (disch := omega) only [hop2, hop3, e1, kc, nI_eq, nI_ltI, nI_leI, nI_m1, hu_o, not_true_eq_false] at * <;> first | contradiction | omega)
  · unfold P_run
    repeat' first
      | refine w_st rfl rfl ?_
      | refine w_no rfl rfl ?_ ?_
      | (refine w_br rfl rfl (fun z => ?_) (fun z => ?_) <;> try (first | contradiction | (simp (disch := omega) only [hop2, hop3, e1, e2, e3, e4, kc, nI_eq, nI_ltI, nI_leI, nI_m1, hu_o, not_true_eq_false] at z; first | done | omega)))
      | refine w_in rfl rfl ?_
      | refine w_end rfl rfl ?_
      | refine w_endY rfl rfl ?_ ?_
      | refine w_up ?_
    all_goals try exact f_x 0 hR0 rfl rfl rfl
    all_goals try exact f_x 1 hR0 rfl rfl rfl
    all_goals try (exfalso; simp (disch := omega) only [hop2, hop3, e1, e2, e3, e4, kc, nI_eq, nI_ltI, nI_leI, nI_m1, hu_o, not_true_eq_false] at * <;> first | contradiction | omega)
  · have ej : (nI j).toNatClampNeg = j := nI_clamp (by omega)
    rcases hbt j hj with ⟨q1, q2, q3, q4⟩ | ⟨k, g, y, hk, hg, hy, hgs, b1, b2, b3, b4, b5, b6⟩
    · unfold P_run
      repeat' first
        | refine w_st rfl rfl ?_
        | refine w_no rfl rfl (nI_in hj (by decide)) ?_
        | refine w_no rfl rfl ?_ ?_
        | (refine w_br rfl rfl (fun z => ?_) (fun z => ?_) <;> try (first | contradiction | (simp (disch := omega) only [q1, q2, q3, hop2, hop3, ej, kc, nI_eq, nI_ltI, nI_leI, nI_m1, hu_o, not_true_eq_false] at z; first | done | omega)))
        | refine w_in rfl rfl ?_
        | refine w_end rfl rfl ?_
        | refine w_endY rfl rfl ?_ ?_
        | refine w_up ?_
      all_goals try (right; simp only [ej, q1, q2, q3]; decide)
      all_goals try exact f_x 0 hR0 rfl rfl rfl
      all_goals try exact f_x 1 hR0 rfl rfl rfl
      all_goals try (exfalso; simp (disch := omega) only [q1, q2, q3, hop2, hop3, ej, kc, nI_eq, nI_ltI, nI_leI, nI_m1, hu_o, not_true_eq_false] at * <;> first | contradiction | omega)
      all_goals refine f_r ⟨⟨⟨t, ht, h1, h2⟩, ⟨u, hu1, hu2, hu3⟩, hpw, ⟨op, hop1, hop2, hop3⟩, hsb⟩, hvd, bt_at (j := j) hbt (fun s hs => ?_) (Or.inl ?_), hsz, hes, hmg, hbk, hpy⟩ rfl ?_ rfl
      all_goals first | (simp only [ej, hu]; simp [hs]; done) | (simp only [ej, r_no, hu]; simp [q1, q2, kc]; done) | (simp (disch := omega) only [ej, q3, kc, hu_o]; done)
    · rcases (show y = 0 ∨ y = 1 by omega) with rfl | rfl
      all_goals unfold P_run
      all_goals
        repeat' first
          | refine w_st rfl rfl ?_
          | refine w_no rfl rfl (nI_in hj (by decide)) ?_
          | refine w_no rfl rfl ?_ ?_
          | (refine w_br rfl rfl (fun z => ?_) (fun z => ?_) <;> try (first | contradiction | (simp (disch := omega) only [b1, b2, b3, b4, b5, b6, hop2, hop3, ej, kc, nI_eq, nI_ltI, nI_leI, nI_m1, hu_o, not_true_eq_false] at z; first | done | omega)))
          | refine w_in rfl rfl ?_
          | refine w_end rfl rfl ?_
          | refine w_endY rfl rfl ?_ ?_
          | refine w_up ?_
      all_goals try (right; simp only [ej, b1, b2, b3, b4, b5, b6]; decide)
      all_goals try exact f_x 0 hR0 rfl rfl rfl
      all_goals try exact f_x 1 hR0 rfl rfl rfl
      all_goals try (exfalso; simp (disch := omega) only [b1, b2, b3, b4, b5, b6, hop2, hop3, ej, kc, nI_eq, nI_ltI, nI_leI, nI_m1, hu_o, not_true_eq_false] at * <;> first | contradiction | omega)
      all_goals refine f_r ⟨⟨⟨t, ht, h1, h2⟩, ⟨u, hu1, hu2, hu3⟩, hpw, ⟨op, hop1, hop2, hop3⟩, hsb⟩, hvd, bt_at (j := j) hbt (fun s hs => ?_) (Or.inr ⟨k, g, 0, hk, hg, by decide, hgs, ?_⟩), hsz, hes, hmg, hbk, hpy⟩ rfl ?_ rfl
      all_goals first | (simp only [ej, hu]; simp [hs]; done) | (simp only [ej, r_nt, hu]; simp [b1, b2, b3, b4, kc]; done) | (simp (disch := omega) only [ej, b5, kc, hu_o]; done)
