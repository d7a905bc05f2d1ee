/-! NOTES (written by wip/whole/gen_ops8.py). -/
set_option maxHeartbeats 3000000 in
theorem o_notes (x y : Int32) : P_W RR 88 133 [0] true [.inl x, .inl y] := by
  refine P_Wof fun c m hR => ?_
  have hR0 := hR
  obtain ⟨⟨⟨t, ht, h1, h2⟩, ⟨u, hu1, hu2, hu3⟩, hpw, ⟨op, hop1, hop2, hop3⟩, hsb⟩, hvd, hbt, hsz, hes, hmg, hbk, hpy⟩ := hR
  rcases ix3 x 10 (by decide) with e1 | ⟨e1, e2, e3, e4⟩ | ⟨j, hj, rfl⟩
  · unfold P_run
    repeat' first
      | refine w_st rfl rfl ?_
      | refine w_no rfl rfl ?_ ?_
      | (refine w_br rfl rfl (fun z => ?_) (fun z => ?_) <;> try (first | contradiction | (simp (disch := omega) only [e1, kc, nI_eq, nI_ltI, nI_leI, nI_m1, hu_o, hu_k, not_true_eq_false] at z; first | done | omega)))
      | refine w_in rfl rfl ?_
      | refine w_end rfl rfl ?_
      | refine w_endY rfl rfl ?_ ?_
      | refine w_up ?_
    all_goals try (intro z; simp (disch := omega) only [e1, nI_clamp, kc, nI_ltI, hu_o, hu_k] at z <;> omega)
    all_goals try exact f_x 0 hR0 rfl rfl rfl
    all_goals try (exfalso; simp (disch := omega) only [e1, kc, nI_eq, nI_ltI, nI_leI, nI_m1, hu_o, hu_k, not_true_eq_false] at * <;> first | contradiction | omega)
  · unfold P_run
    repeat' first
      | refine w_st rfl rfl ?_
      | refine w_no rfl rfl ?_ ?_
      | (refine w_br rfl rfl (fun z => ?_) (fun z => ?_) <;> try (first | contradiction | (simp (disch := omega) only [e1, e2, e3, e4, kc, nI_eq, nI_ltI, nI_leI, nI_m1, hu_o, hu_k, not_true_eq_false] at z; first | done | omega)))
      | refine w_in rfl rfl ?_
      | refine w_end rfl rfl ?_
      | refine w_endY rfl rfl ?_ ?_
      | refine w_up ?_
    all_goals try (intro z; simp (disch := omega) only [e1, e2, e3, e4, nI_clamp, kc, nI_ltI, hu_o, hu_k] at z <;> omega)
    all_goals try exact f_x 0 hR0 rfl rfl rfl
    all_goals try (exfalso; simp (disch := omega) only [e1, e2, e3, e4, kc, nI_eq, nI_ltI, nI_leI, nI_m1, hu_o, hu_k, not_true_eq_false] at * <;> first | contradiction | omega)
  · rcases ix3 y 5 (by decide) with e1 | ⟨e1, e2, e3, e4⟩ | ⟨k, hk, rfl⟩
    · unfold P_run
      repeat' first
        | refine w_st rfl rfl ?_
        | refine w_no rfl rfl ?_ ?_
        | (refine w_br rfl rfl (fun z => ?_) (fun z => ?_) <;> try (first | contradiction | (simp (disch := omega) only [e1, kc, nI_eq, nI_ltI, nI_leI, nI_m1, hu_o, hu_k, not_true_eq_false] at z; first | done | omega)))
        | refine w_in rfl rfl ?_
        | refine w_end rfl rfl ?_
        | refine w_endY rfl rfl ?_ ?_
        | refine w_up ?_
      all_goals try (intro z; simp (disch := omega) only [e1, nI_clamp, kc, nI_ltI, hu_o, hu_k] at z <;> omega)
      all_goals try exact f_x 0 hR0 rfl rfl rfl
      all_goals try (exfalso; simp (disch := omega) only [e1, kc, nI_eq, nI_ltI, nI_leI, nI_m1, hu_o, hu_k, not_true_eq_false] at * <;> first | contradiction | omega)
    · unfold P_run
      repeat' first
        | refine w_st rfl rfl ?_
        | refine w_no rfl rfl ?_ ?_
        | (refine w_br rfl rfl (fun z => ?_) (fun z => ?_) <;> try (first | contradiction | (simp (disch := omega) only [e1, e2, e3, e4, kc, nI_eq, nI_ltI, nI_leI, nI_m1, hu_o, hu_k, not_true_eq_false] at z; first | done | omega)))
        | refine w_in rfl rfl ?_
        | refine w_end rfl rfl ?_
        | refine w_endY rfl rfl ?_ ?_
        | refine w_up ?_
      all_goals try (intro z; simp (disch := omega) only [e1, e2, e3, e4, nI_clamp, kc, nI_ltI, hu_o, hu_k] at z <;> omega)
      all_goals try exact f_x 0 hR0 rfl rfl rfl
      all_goals try (exfalso; simp (disch := omega) only [e1, e2, e3, e4, kc, nI_eq, nI_ltI, nI_leI, nI_m1, hu_o, hu_k, not_true_eq_false] at * <;> first | contradiction | omega)
    · obtain ⟨v, hC, hM⟩ := cn2 (c := c) (m := hu m 30 0 (Int32.ofInt 0)) hR0 j k (by omega) (by omega)
      unfold P_run
      repeat' first
        | refine w_st rfl rfl ?_
        | refine w_ca rfl rfl hC ?_
        | refine w_ca rfl rfl hM ?_
        | refine w_no rfl rfl ?_ ?_
        | (refine w_br rfl rfl (fun z => ?_) (fun z => ?_) <;> try (first | contradiction | (simp (disch := omega) only [kc, nI_eq, nI_ltI, nI_leI, nI_m1, hu_o, hu_k, not_true_eq_false] at z; first | done | omega)))
        | refine w_in rfl rfl ?_
        | refine w_end rfl rfl ?_
        | refine w_endY rfl rfl ?_ ?_
        | refine w_up ?_
      exact f_r hR0 rfl rfl rfl
