/-! MORE CALLS WITHOUT LOOPS (written by wip/whole/gen_ops.py). -/
set_option maxHeartbeats 8000000 in
theorem o_confirm : P_W RR 48 99 [1] false [] := by
  refine P_Wof fun c m hR => ?_
  have hR0 := hR
  obtain ⟨⟨⟨t, ht, h1, h2⟩, ⟨u, hu1, hu2, hu3⟩, hpw, ⟨op, hop1, hop2, hop3⟩, hsb⟩, hvd, hbt, hsz, hes, hmg, hbk, hpy⟩ := hR
  have hpp : ∃ pw, pw ≤ 1 ∧ c 0 9 = nI pw ∧ m 30 2 = nI (1 - pw) := by
    rcases hpw with ⟨a, b⟩ | ⟨a, b⟩
    · exact ⟨1, by decide, a, b⟩
    · exact ⟨0, by decide, a, b⟩
  obtain ⟨pw, hp, p1, p2⟩ := hpp
  unfold P_run
  repeat' first
    | refine w_st rfl rfl ?_
    | refine w_no rfl rfl ?_ ?_
    | refine w_yes rfl rfl ?_ ?_
    | refine w_br rfl rfl (fun _ => ?_) (fun _ => ?_)
    | refine w_in rfl rfl ?_
    | refine w_end rfl rfl ?_
    | refine w_endY rfl rfl ?_ ?_
    | refine w_up ?_
  all_goals try contradiction
  all_goals try exact f_x 0 hR0 rfl rfl rfl
  all_goals try (exfalso; simp (disch := omega) only [p1, p2, h1, h2, hu2, hu3, hop2, hop3, kc, nI_eq, Int32.lt_iff_toInt_lt, Int32.le_iff_toInt_le, nI_toInt] at * <;> first | contradiction | omega)
  exact f_r ⟨⟨⟨3, by decide, rfl, rfl⟩, ⟨u, hu1, hu2, hu3⟩, hpw, ⟨op, hop1, hop2, hop3⟩, hsb⟩, hvd, hbt, hsz, hes, hmg, hbk, hpy.1, fun z => absurd (show Int32.ofInt 3 = nI 5 from z) (by decide)⟩ rfl rfl rfl

set_option maxHeartbeats 8000000 in
theorem o_giveBack : P_W RR 49 100 [1] false [] := by
  refine P_Wof fun c m hR => ?_
  have hR0 := hR
  obtain ⟨⟨⟨t, ht, h1, h2⟩, ⟨u, hu1, hu2, hu3⟩, hpw, ⟨op, hop1, hop2, hop3⟩, hsb⟩, hvd, hbt, hsz, hes, hmg, hbk, hpy⟩ := hR
  have hpp : ∃ pw, pw ≤ 1 ∧ c 0 9 = nI pw ∧ m 30 2 = nI (1 - pw) := by
    rcases hpw with ⟨a, b⟩ | ⟨a, b⟩
    · exact ⟨1, by decide, a, b⟩
    · exact ⟨0, by decide, a, b⟩
  obtain ⟨pw, hp, p1, p2⟩ := hpp
  unfold P_run
  repeat' first
    | refine w_st rfl rfl ?_
    | refine w_no rfl rfl ?_ ?_
    | refine w_yes rfl rfl ?_ ?_
    | refine w_br rfl rfl (fun _ => ?_) (fun _ => ?_)
    | refine w_in rfl rfl ?_
    | refine w_end rfl rfl ?_
    | refine w_endY rfl rfl ?_ ?_
    | refine w_up ?_
  all_goals try contradiction
  all_goals try exact f_x 0 hR0 rfl rfl rfl
  all_goals try (exfalso; simp (disch := omega) only [p1, p2, h1, h2, hu2, hu3, hop2, hop3, kc, nI_eq, Int32.lt_iff_toInt_lt, Int32.le_iff_toInt_le, nI_toInt] at * <;> first | contradiction | omega)
  exact f_r ⟨⟨⟨4, by decide, rfl, rfl⟩, ⟨u, hu1, hu2, hu3⟩, hpw, ⟨op, hop1, hop2, hop3⟩, hsb⟩, hvd, hbt, hsz, hes, hmg, hbk, hpy.1, fun z => absurd (show Int32.ofInt 4 = nI 5 from z) (by decide)⟩ rfl rfl rfl

set_option maxHeartbeats 8000000 in
theorem o_open : P_W RR 72 117 [1] false [] := by
  refine P_Wof fun c m hR => ?_
  have hR0 := hR
  obtain ⟨⟨⟨t, ht, h1, h2⟩, ⟨u, hu1, hu2, hu3⟩, hpw, ⟨op, hop1, hop2, hop3⟩, hsb⟩, hvd, hbt, hsz, hes, hmg, hbk, hpy⟩ := hR
  have hpp : ∃ pw, pw ≤ 1 ∧ c 0 9 = nI pw ∧ m 30 2 = nI (1 - pw) := by
    rcases hpw with ⟨a, b⟩ | ⟨a, b⟩
    · exact ⟨1, by decide, a, b⟩
    · exact ⟨0, by decide, a, b⟩
  obtain ⟨pw, hp, p1, p2⟩ := hpp
  unfold P_run
  repeat' first
    | refine w_st rfl rfl ?_
    | refine w_no rfl rfl ?_ ?_
    | refine w_yes rfl rfl ?_ ?_
    | refine w_br rfl rfl (fun _ => ?_) (fun _ => ?_)
    | refine w_in rfl rfl ?_
    | refine w_end rfl rfl ?_
    | refine w_endY rfl rfl ?_ ?_
    | refine w_up ?_
  all_goals try contradiction
  all_goals try exact f_x 0 hR0 rfl rfl rfl
  all_goals try (exfalso; simp (disch := omega) only [p1, p2, h1, h2, hu2, hu3, hop2, hop3, kc, nI_eq, Int32.lt_iff_toInt_lt, Int32.le_iff_toInt_le, nI_toInt] at * <;> first | contradiction | omega)
  exact f_r ⟨⟨⟨t, ht, h1, h2⟩, ⟨u, hu1, hu2, hu3⟩, hpw, ⟨1, by decide, rfl, rfl⟩, hsb⟩, hvd, hbt, hsz, hes, hmg, hbk, hpy⟩ rfl rfl rfl

set_option maxHeartbeats 8000000 in
theorem o_service : P_W RR 81 125 [1] true [] := by
  refine P_Wof fun c m hR => ?_
  have hR0 := hR
  obtain ⟨⟨⟨t, ht, h1, h2⟩, ⟨u, hu1, hu2, hu3⟩, hpw, ⟨op, hop1, hop2, hop3⟩, hsb⟩, hvd, hbt, hsz, hes, hmg, hbk, hpy⟩ := hR
  have hpp : ∃ pw, pw ≤ 1 ∧ c 0 9 = nI pw ∧ m 30 2 = nI (1 - pw) := by
    rcases hpw with ⟨a, b⟩ | ⟨a, b⟩
    · exact ⟨1, by decide, a, b⟩
    · exact ⟨0, by decide, a, b⟩
  obtain ⟨pw, hp, p1, p2⟩ := hpp
  unfold P_run
  repeat' first
    | refine w_st rfl rfl ?_
    | refine w_no rfl rfl ?_ ?_
    | refine w_yes rfl rfl ?_ ?_
    | refine w_br rfl rfl (fun _ => ?_) (fun _ => ?_)
    | refine w_in rfl rfl ?_
    | refine w_end rfl rfl ?_
    | refine w_endY rfl rfl ?_ ?_
    | refine w_up ?_
  all_goals try contradiction
  all_goals try exact f_x 0 hR0 rfl rfl rfl
  all_goals try (exfalso; simp (disch := omega) only [p1, p2, h1, h2, hu2, hu3, hop2, hop3, kc, nI_eq, Int32.lt_iff_toInt_lt, Int32.le_iff_toInt_le, nI_toInt] at * <;> first | contradiction | omega)
  · exact f_r ⟨⟨⟨8, by decide, rfl, rfl⟩, ⟨u, hu1, hu2, hu3⟩, hpw, ⟨op, hop1, hop2, hop3⟩, hsb⟩, hvd, hbt, hsz, hes, hmg, hbk, hpy.1, fun z => absurd (show Int32.ofInt 8 = nI 5 from z) (by decide)⟩ rfl rfl rfl
  · exact f_r ⟨⟨⟨0, by decide, rfl, rfl⟩, ⟨u, hu1, hu2, hu3⟩, hpw, ⟨op, hop1, hop2, hop3⟩, hsb⟩, hvd, hbt, hsz, hes, hmg, hbk, hpy.1, fun z => absurd (show Int32.ofInt 0 = nI 5 from z) (by decide)⟩ rfl rfl rfl
