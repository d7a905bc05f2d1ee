/-! DEPOSIT (written by wip/whole/gen_ops6.py). -/
theorem nI0_add (x : Int32) : nI 0 + x = x := by
  show 0 + x = x
  exact Int32.zero_add x
set_option maxHeartbeats 3000000 in
theorem o_deposit : P_W RR 47 98 [1] false [] := by
  refine P_Wof fun c m hR => ?_
  have hR0 := hR
  obtain ⟨⟨⟨t, ht, h1, h2⟩, ⟨u, hu1, hu2, hu3⟩, hpw, ⟨op, hop1, hop2, hop3⟩, hsb⟩, hvd, hbt, hsz, hes, hmg, hbk, hpy⟩ := hR
  have hpp : ∃ pw, pw ≤ 1 ∧ c 0 9 = nI pw ∧ m 30 2 = nI (1 - pw) := by
    rcases hpw with ⟨a, b⟩ | ⟨a, b⟩
    · exact ⟨1, by decide, a, b⟩
    · exact ⟨0, by decide, a, b⟩
  obtain ⟨pw, hp, p1, p2⟩ := hpp
  have a0 : c 19 0 = m 40 0 := (hbk 0 (by decide)).2.2.1
  have a1 : c 19 1 = m 40 1 := (hbk 1 (by decide)).2.2.1
  have a2 : c 19 2 = m 40 2 := (hbk 2 (by decide)).2.2.1
  have a3 : c 19 3 = m 40 3 := (hbk 3 (by decide)).2.2.1
  have a4 : c 19 4 = m 40 4 := (hbk 4 (by decide)).2.2.1
  have a5 : c 19 5 = m 40 5 := (hbk 5 (by decide)).2.2.1
  by_cases hrd : pw = 1 ∧ t = 0
  · obtain ⟨rfl, rfl⟩ := hrd
    by_cases hu0 : u = 0
    · subst hu0
      unfold P_run
      repeat' first
        | refine w_st rfl rfl ?_
        | refine w_no rfl rfl ?_ ?_
        | (refine w_br rfl rfl (fun z => ?_) (fun z => ?_) <;> try (first | contradiction | (simp (disch := omega) only [p1, p2, h1, h2, hu2, hu3, kc, nI_eq, nI_ltI, nI_leI, nI_m1, hu_o, hu_k, not_true_eq_false] at z; first | done | omega)))
        | refine w_in rfl rfl ?_
        | refine w_end rfl rfl ?_
        | refine w_endY rfl rfl ?_ ?_
        | refine w_up ?_
      all_goals try (intro z; simp (disch := omega) only [p1, p2, h1, h2, hu2, hu3, nI_clamp, kc, nI_ltI, hu_o, hu_k] at z <;> omega)
      all_goals try exact f_x 0 hR0 rfl rfl rfl
      all_goals try (exfalso; simp (disch := omega) only [p1, p2, h1, h2, hu2, hu3, kc, nI_eq, nI_ltI, nI_leI, nI_m1, hu_o, hu_k, not_true_eq_false] at * <;> first | contradiction | omega)
    · unfold P_run
      repeat' first
        | refine w_st rfl rfl ?_
        | refine w_no rfl rfl ?_ ?_
        | (refine w_br rfl rfl (fun z => ?_) (fun z => ?_) <;> try (first | contradiction | (simp (disch := omega) only [p1, p2, h1, h2, hu2, hu3, a0, a1, a2, a3, a4, a5, nI_add, nI_clamp, nI0_add, Nat.reduceAdd, kc, nI_eq, nI_ltI, nI_leI, nI_m1, hu_o, hu_k, not_true_eq_false] at z; first | done | omega)))
        | refine w_in rfl rfl ?_
        | refine w_end rfl rfl ?_
        | refine w_endY rfl rfl ?_ ?_
        | refine w_up ?_
      all_goals try (intro z; simp (disch := omega) only [p1, p2, h1, h2, hu2, hu3, a0, a1, a2, a3, a4, a5, nI_add, nI_clamp, nI0_add, Nat.reduceAdd, nI_clamp, kc, nI_ltI, hu_o, hu_k] at z <;> omega)
      all_goals try exact f_x 0 hR0 rfl rfl rfl
      all_goals try (exfalso; simp (disch := omega) only [p1, p2, h1, h2, hu2, hu3, a0, a1, a2, a3, a4, a5, nI_add, nI_clamp, nI0_add, Nat.reduceAdd, kc, nI_eq, nI_ltI, nI_leI, nI_m1, hu_o, hu_k, not_true_eq_false] at * <;> first | contradiction | omega)
      exact f_r ⟨⟨⟨1, by decide, rfl, rfl⟩, ⟨u, hu1, hu2, hu3⟩, hpw, ⟨op, hop1, hop2, hop3⟩, hsb⟩, hvd, hbt, hsz, hes, hmg, hbk, hpy.1, fun z => absurd (show Int32.ofInt 1 = nI 5 from z) (by decide)⟩ rfl rfl rfl
  · rcases (show pw = 0 ∨ pw = 1 by omega) with rfl | rfl
    · unfold P_run
      repeat' first
        | refine w_st rfl rfl ?_
        | refine w_no rfl rfl ?_ ?_
        | (refine w_br rfl rfl (fun z => ?_) (fun z => ?_) <;> try (first | contradiction | (simp (disch := omega) only [p1, p2, h1, h2, kc, nI_eq, nI_ltI, nI_leI, nI_m1, hu_o, hu_k, not_true_eq_false] at z; first | done | omega)))
        | refine w_in rfl rfl ?_
        | refine w_end rfl rfl ?_
        | refine w_endY rfl rfl ?_ ?_
        | refine w_up ?_
      all_goals try (intro z; simp (disch := omega) only [p1, p2, h1, h2, nI_clamp, kc, nI_ltI, hu_o, hu_k] at z <;> omega)
      all_goals try exact f_x 0 hR0 rfl rfl rfl
      all_goals try (exfalso; simp (disch := omega) only [p1, p2, h1, h2, kc, nI_eq, nI_ltI, nI_leI, nI_m1, hu_o, hu_k, not_true_eq_false] at * <;> first | contradiction | omega)
    · have ht8 : t ≠ 0 := fun z => hrd ⟨rfl, z⟩
      unfold P_run
      repeat' first
        | refine w_st rfl rfl ?_
        | refine w_no rfl rfl ?_ ?_
        | (refine w_br rfl rfl (fun z => ?_) (fun z => ?_) <;> try (first | contradiction | (simp (disch := omega) only [p1, p2, h1, h2, kc, nI_eq, nI_ltI, nI_leI, nI_m1, hu_o, hu_k, not_true_eq_false] at z; first | done | omega)))
        | refine w_in rfl rfl ?_
        | refine w_end rfl rfl ?_
        | refine w_endY rfl rfl ?_ ?_
        | refine w_up ?_
      all_goals try (intro z; simp (disch := omega) only [p1, p2, h1, h2, nI_clamp, kc, nI_ltI, hu_o, hu_k] at z <;> omega)
      all_goals try exact f_x 0 hR0 rfl rfl rfl
      all_goals try (exfalso; simp (disch := omega) only [p1, p2, h1, h2, kc, nI_eq, nI_ltI, nI_leI, nI_m1, hu_o, hu_k, not_true_eq_false] at * <;> first | contradiction | omega)
