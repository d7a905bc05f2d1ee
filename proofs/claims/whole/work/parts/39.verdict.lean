/-! VERDICT (written by wip/whole/gen_ops5.py). -/
set_option maxHeartbeats 3000000 in
theorem o_verdict (x : Int32) : P_W RR 45 97 [0, 1] true [.inl x] := by
  refine P_Wof fun c m hR => ?_
  have hR0 := hR
  obtain ⟨⟨⟨t, ht, h1, h2⟩, ⟨u, hu1, hu2, hu3⟩, hpw, ⟨op, hop1, hop2, hop3⟩, hsb⟩, hvd, hbt, hsz, hes, hmg, hbk, hpy⟩ := hR
  obtain ⟨f, w, hf, hw, v1, v2, v3, v4⟩ := hvd
  rcases ix3 x 6 (by decide) with e1 | ⟨e1, e2, e3, e4⟩ | ⟨j, hj, rfl⟩
  · unfold P_run
    repeat' first
      | refine w_st rfl rfl ?_
      | refine w_no rfl rfl ?_ ?_
      | (refine w_br rfl rfl (fun z => ?_) (fun z => ?_) <;> try (first | contradiction | (simp (disch := omega) only [e1, kc, nI_eq, nI_ltI, nI_leI, nI_m1, hu_o, hu_k, not_true_eq_false] at z; first | done | omega)))
      | refine w_in rfl rfl ?_
      | refine w_end rfl rfl ?_
      | refine w_endY rfl rfl ?_ ?_
      | refine w_up ?_
    all_goals try (intro z; simp (disch := omega) only [e1, nI_clamp, kc, nI_ltI, hu_o, hu_k] at z <;> omega)
    all_goals try exact f_x 0 hR0 rfl rfl rfl
    all_goals try exact f_x 1 hR0 rfl rfl rfl
    all_goals try (exfalso; simp (disch := omega) only [e1, kc, nI_eq, nI_ltI, nI_leI, nI_m1, hu_o, hu_k, not_true_eq_false] at * <;> first | contradiction | omega)
  · unfold P_run
    repeat' first
      | refine w_st rfl rfl ?_
      | refine w_no rfl rfl ?_ ?_
      | (refine w_br rfl rfl (fun z => ?_) (fun z => ?_) <;> try (first | contradiction | (simp (disch := omega) only [e1, e2, e3, e4, kc, nI_eq, nI_ltI, nI_leI, nI_m1, hu_o, hu_k, not_true_eq_false] at z; first | done | omega)))
      | refine w_in rfl rfl ?_
      | refine w_end rfl rfl ?_
      | refine w_endY rfl rfl ?_ ?_
      | refine w_up ?_
    all_goals try (intro z; simp (disch := omega) only [e1, e2, e3, e4, nI_clamp, kc, nI_ltI, hu_o, hu_k] at z <;> omega)
    all_goals try exact f_x 0 hR0 rfl rfl rfl
    all_goals try exact f_x 1 hR0 rfl rfl rfl
    all_goals try (exfalso; simp (disch := omega) only [e1, e2, e3, e4, kc, nI_eq, nI_ltI, nI_leI, nI_m1, hu_o, hu_k, not_true_eq_false] at * <;> first | contradiction | omega)
  · by_cases hw4 : w = 40
    · subst hw4
      unfold P_run
      repeat' first
        | refine w_st rfl rfl ?_
        | refine w_no rfl rfl ?_ ?_
        | (refine w_br rfl rfl (fun z => ?_) (fun z => ?_) <;> try (first | contradiction | (simp (disch := omega) only [v1, v2, v3, kc, nI_eq, nI_ltI, nI_leI, nI_m1, hu_o, hu_k, not_true_eq_false] at z; first | done | omega)))
        | refine w_in rfl rfl ?_
        | refine w_end rfl rfl ?_
        | refine w_endY rfl rfl ?_ ?_
        | refine w_up ?_
      all_goals try (intro z; simp (disch := omega) only [v1, v2, v3, nI_clamp, kc, nI_ltI, hu_o, hu_k] at z <;> omega)
      all_goals try exact f_x 0 hR0 rfl rfl rfl
      all_goals try exact f_x 1 hR0 rfl rfl rfl
      all_goals try (exfalso; simp (disch := omega) only [v1, v2, v3, kc, nI_eq, nI_ltI, nI_leI, nI_m1, hu_o, hu_k, not_true_eq_false] at * <;> first | contradiction | omega)
    · have er : (f + w) % 40 < 40 := Nat.mod_lt _ (by decide)
      have ew : (nI w).toNatClampNeg = w := nI_clamp (by omega)
      have ei : (nI ((f + w) % 40)).toNatClampNeg = (f + w) % 40 := nI_clamp (by omega)
      unfold P_run
      repeat' first
        | refine w_st rfl rfl ?_
        | refine w_no rfl rfl ?_ ?_
        | (refine w_br rfl rfl (fun z => ?_) (fun z => ?_) <;> try (first | contradiction | (simp (disch := omega) only [v1, v2, v3, nI_add, pk_rem, kc, nI_eq, nI_ltI, nI_leI, nI_m1, hu_o, hu_k, not_true_eq_false] at z; first | done | omega)))
        | refine w_in rfl rfl ?_
        | refine w_end rfl rfl ?_
        | refine w_endY rfl rfl ?_ ?_
        | refine w_up ?_
      all_goals try (intro z; simp (disch := omega) only [v1, v2, v3, nI_add, pk_rem, nI_clamp, kc, nI_ltI, hu_o, hu_k] at z <;> omega)
      all_goals try exact f_x 0 hR0 rfl rfl rfl
      all_goals try exact f_x 1 hR0 rfl rfl rfl
      all_goals try (exfalso; simp (disch := omega) only [v1, v2, v3, nI_add, pk_rem, kc, nI_eq, nI_ltI, nI_leI, nI_m1, hu_o, hu_k, not_true_eq_false] at * <;> first | contradiction | omega)
      simp (disch := omega) only [kc, hu_o, hu_k, v1, v2, v3, nI_add, pk_rem, ew, ei]
      refine f_r ⟨⟨⟨t, ht, h1, h2⟩, ⟨u, hu1, hu2, hu3⟩, hpw, ⟨op, hop1, hop2, hop3⟩, hsb⟩, ⟨f, w + 1, hf, by omega, v1, rfl, rfl, fun i hi => ?_⟩, hbt, hsz, hes, hmg, hbk, hpy⟩ rfl ?_ rfl
      · by_cases e : i = w
        · subst e; simp [hu]
        · have e2 : ¬ (f + i) % 40 = (f + w) % 40 := by omega
          have := v4 i (by omega)
          simpa [hu, e, e2] using this
      · simp [hu]
