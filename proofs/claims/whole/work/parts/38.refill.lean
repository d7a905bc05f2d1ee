/-! REFILL (written by wip/whole/gen_ops4.py). -/
set_option maxHeartbeats 3000000 in
theorem o_refill (x y : Int32) : P_W RR 83 127 [1, 0] true [.inl x, .inl y] := by
  refine P_Wof fun c m hR => ?_
  have hR0 := hR
  obtain ⟨⟨⟨t, ht, h1, h2⟩, ⟨u, hu1, hu2, hu3⟩, hpw, ⟨op, hop1, hop2, hop3⟩, hsb⟩, hvd, hbt, hsz, hes, hmg, hbk, hpy⟩ := hR
  have hpp : ∃ pw, pw ≤ 1 ∧ c 0 9 = nI pw ∧ m 30 2 = nI (1 - pw) := by
    rcases hpw with ⟨a, b⟩ | ⟨a, b⟩
    · exact ⟨1, by decide, a, b⟩
    · exact ⟨0, by decide, a, b⟩
  obtain ⟨pw, hp, p1, p2⟩ := hpp
  by_cases hrd : pw = 1 ∧ t = 8
  · obtain ⟨rfl, rfl⟩ := hrd
    rcases ix3 x 3 (by decide) with e1 | ⟨e1, e2, e3, e4⟩ | ⟨j, hj, rfl⟩
    · unfold P_run
      repeat' first
        | refine w_st rfl rfl ?_
        | refine w_no rfl rfl ?_ ?_
        | (refine w_br rfl rfl (fun z => ?_) (fun z => ?_) <;> try (first | contradiction | (simp (disch := omega) only [p1, p2, h1, h2, e1, kc, nI_eq, nI_ltI, nI_leI, nI_m1, hu_o, not_true_eq_false] at z; first | done | omega)))
        | refine w_in rfl rfl ?_
        | refine w_end rfl rfl ?_
        | refine w_endY rfl rfl ?_ ?_
        | refine w_up ?_
      all_goals try (intro z; simp (disch := omega) only [p1, p2, h1, h2, e1, nI_clamp, kc, nI_ltI, hu_o] at z <;> omega)
      all_goals try exact f_x 0 hR0 rfl rfl rfl
      all_goals try exact f_x 1 hR0 rfl rfl rfl
      all_goals try (exfalso; simp (disch := omega) only [p1, p2, h1, h2, e1, kc, nI_eq, nI_ltI, nI_leI, nI_m1, hu_o, not_true_eq_false] at * <;> first | contradiction | omega)
    · unfold P_run
      repeat' first
        | refine w_st rfl rfl ?_
        | refine w_no rfl rfl ?_ ?_
        | (refine w_br rfl rfl (fun z => ?_) (fun z => ?_) <;> try (first | contradiction | (simp (disch := omega) only [p1, p2, h1, h2, e1, e2, e3, e4, kc, nI_eq, nI_ltI, nI_leI, nI_m1, hu_o, not_true_eq_false] at z; first | done | omega)))
        | refine w_in rfl rfl ?_
        | refine w_end rfl rfl ?_
        | refine w_endY rfl rfl ?_ ?_
        | refine w_up ?_
      all_goals try (intro z; simp (disch := omega) only [p1, p2, h1, h2, e1, e2, e3, e4, nI_clamp, kc, nI_ltI, hu_o] at z <;> omega)
      all_goals try exact f_x 0 hR0 rfl rfl rfl
      all_goals try exact f_x 1 hR0 rfl rfl rfl
      all_goals try (exfalso; simp (disch := omega) only [p1, p2, h1, h2, e1, e2, e3, e4, kc, nI_eq, nI_ltI, nI_leI, nI_m1, hu_o, not_true_eq_false] at * <;> first | contradiction | omega)
    · have ej : (nI j).toNatClampNeg = j := nI_clamp (by omega)
      obtain ⟨k, n, hk1, hk2, hn, b1, b2, b3, b4⟩ := hmg j hj
      have er : nI 30 - nI n = nI (30 - n) := pk_sub hn
      rcases ixK y 30 (by decide) with e1 | ⟨e1, e2, e3⟩ | ⟨q, hq1, hq2, rfl⟩
      · unfold P_run
        repeat' first
          | refine w_st rfl rfl ?_
          | refine w_no rfl rfl ?_ ?_
          | (refine w_br rfl rfl (fun z => ?_) (fun z => ?_) <;> try (first | contradiction | (simp (disch := omega) only [p1, p2, h1, h2, b3, b4, er, e1, ej, kc, nI_eq, nI_ltI, nI_leI, nI_m1, hu_o, not_true_eq_false] at z; first | done | omega)))
          | refine w_in rfl rfl ?_
          | refine w_end rfl rfl ?_
          | refine w_endY rfl rfl ?_ ?_
          | refine w_up ?_
        all_goals try (intro z; simp (disch := omega) only [p1, p2, h1, h2, b3, b4, er, e1, ej, nI_clamp, kc, nI_ltI, hu_o] at z <;> omega)
        all_goals try exact f_x 0 hR0 rfl rfl rfl
        all_goals try exact f_x 1 hR0 rfl rfl rfl
        all_goals try (exfalso; simp (disch := omega) only [p1, p2, h1, h2, b3, b4, er, e1, ej, kc, nI_eq, nI_ltI, nI_leI, nI_m1, hu_o, not_true_eq_false] at * <;> first | contradiction | omega)
      · unfold P_run
        repeat' first
          | refine w_st rfl rfl ?_
          | refine w_no rfl rfl ?_ ?_
          | (refine w_br rfl rfl (fun z => ?_) (fun z => ?_) <;> try (first | contradiction | (simp (disch := omega) only [p1, p2, h1, h2, b3, b4, er, e1, e2, e3, ej, kc, nI_eq, nI_ltI, nI_leI, nI_m1, hu_o, not_true_eq_false] at z; first | done | omega)))
          | refine w_in rfl rfl ?_
          | refine w_end rfl rfl ?_
          | refine w_endY rfl rfl ?_ ?_
          | refine w_up ?_
        all_goals try (intro z; simp (disch := omega) only [p1, p2, h1, h2, b3, b4, er, e1, e2, e3, ej, nI_clamp, kc, nI_ltI, hu_o] at z <;> omega)
        all_goals try exact f_x 0 hR0 rfl rfl rfl
        all_goals try exact f_x 1 hR0 rfl rfl rfl
        all_goals try (exfalso; simp (disch := omega) only [p1, p2, h1, h2, b3, b4, er, e1, e2, e3, ej, kc, nI_eq, nI_ltI, nI_leI, nI_m1, hu_o, not_true_eq_false] at * <;> first | contradiction | omega)
      · have ek : (nI k).toNatClampNeg = k := nI_clamp (by omega)
        by_cases hq : q ≤ 30 - n
        · unfold P_run
          repeat' first
            | refine w_st rfl rfl ?_
            | refine w_no rfl rfl ?_ ?_
            | (refine w_br rfl rfl (fun z => ?_) (fun z => ?_) <;> try (first | contradiction | (simp (disch := omega) only [p1, p2, h1, h2, b1, b2, b3, b4, er, ej, nI_add, kc, nI_eq, nI_ltI, nI_leI, nI_m1, hu_o, not_true_eq_false] at z; first | done | omega)))
            | refine w_in rfl rfl ?_
            | refine w_end rfl rfl ?_
            | refine w_endY rfl rfl ?_ ?_
            | refine w_up ?_
          all_goals try (intro z; simp (disch := omega) only [p1, p2, h1, h2, b1, b2, b3, b4, er, ej, nI_add, nI_clamp, kc, nI_ltI, hu_o] at z <;> omega)
          all_goals try exact f_x 0 hR0 rfl rfl rfl
          all_goals try exact f_x 1 hR0 rfl rfl rfl
          all_goals try (exfalso; simp (disch := omega) only [p1, p2, h1, h2, b1, b2, b3, b4, er, ej, nI_add, kc, nI_eq, nI_ltI, nI_leI, nI_m1, hu_o, not_true_eq_false] at * <;> first | contradiction | omega)
          simp (disch := omega) only [ej, kc, hu_o, b1, b2, b3, b4, ek]
          refine f_r ⟨⟨⟨8, ht, h1, h2⟩, ⟨u, hu1, hu2, hu3⟩, hpw, ⟨op, hop1, hop2, hop3⟩, hsb⟩, hvd, hbt, hsz, hes, fun i hi => ?_, (bk_add (k := k) (x := nI q) 23 44 hbk rfl rfl (by decide) : r_bk (hu c 23 k (c 23 k + nI q)) (hu m 44 k (m 44 k + nI q))), hpy.1, fun z => absurd (h1.symm.trans z) (by decide)⟩ rfl ?_ rfl
          · by_cases e : i = j
            · subst e; exact ⟨k, n + q, hk1, hk2, by omega, by simp [hu, b1], by simp [hu, b2], by simp [hu, nI_add], by simp [hu, nI_add]⟩
            · obtain ⟨k', n', r⟩ := hmg i hi; exact ⟨k', n', by simpa [hu, e] using r⟩
          · simp [hu]
        · unfold P_run
          repeat' first
            | refine w_st rfl rfl ?_
            | refine w_no rfl rfl ?_ ?_
            | (refine w_br rfl rfl (fun z => ?_) (fun z => ?_) <;> try (first | contradiction | (simp (disch := omega) only [p1, p2, h1, h2, b1, b2, b3, b4, er, ej, nI_add, kc, nI_eq, nI_ltI, nI_leI, nI_m1, hu_o, not_true_eq_false] at z; first | done | omega)))
            | refine w_in rfl rfl ?_
            | refine w_end rfl rfl ?_
            | refine w_endY rfl rfl ?_ ?_
            | refine w_up ?_
          all_goals try (intro z; simp (disch := omega) only [p1, p2, h1, h2, b1, b2, b3, b4, er, ej, nI_add, nI_clamp, kc, nI_ltI, hu_o] at z <;> omega)
          all_goals try exact f_x 0 hR0 rfl rfl rfl
          all_goals try exact f_x 1 hR0 rfl rfl rfl
          all_goals try (exfalso; simp (disch := omega) only [p1, p2, h1, h2, b1, b2, b3, b4, er, ej, nI_add, kc, nI_eq, nI_ltI, nI_leI, nI_m1, hu_o, not_true_eq_false] at * <;> first | contradiction | omega)
  · rcases (show pw = 0 ∨ pw = 1 by omega) with rfl | rfl
    · unfold P_run
      repeat' first
        | refine w_st rfl rfl ?_
        | refine w_no rfl rfl ?_ ?_
        | (refine w_br rfl rfl (fun z => ?_) (fun z => ?_) <;> try (first | contradiction | (simp (disch := omega) only [p1, p2, h1, h2, kc, nI_eq, nI_ltI, nI_leI, nI_m1, hu_o, not_true_eq_false] at z; first | done | omega)))
        | refine w_in rfl rfl ?_
        | refine w_end rfl rfl ?_
        | refine w_endY rfl rfl ?_ ?_
        | refine w_up ?_
      all_goals try (intro z; simp (disch := omega) only [p1, p2, h1, h2, nI_clamp, kc, nI_ltI, hu_o] at z <;> omega)
      all_goals try exact f_x 0 hR0 rfl rfl rfl
      all_goals try exact f_x 1 hR0 rfl rfl rfl
      all_goals try (exfalso; simp (disch := omega) only [p1, p2, h1, h2, kc, nI_eq, nI_ltI, nI_leI, nI_m1, hu_o, not_true_eq_false] at * <;> first | contradiction | omega)
    · have ht8 : t ≠ 8 := fun z => hrd ⟨rfl, z⟩
      unfold P_run
      repeat' first
        | refine w_st rfl rfl ?_
        | refine w_no rfl rfl ?_ ?_
        | (refine w_br rfl rfl (fun z => ?_) (fun z => ?_) <;> try (first | contradiction | (simp (disch := omega) only [p1, p2, h1, h2, kc, nI_eq, nI_ltI, nI_leI, nI_m1, hu_o, not_true_eq_false] at z; first | done | omega)))
        | refine w_in rfl rfl ?_
        | refine w_end rfl rfl ?_
        | refine w_endY rfl rfl ?_ ?_
        | refine w_up ?_
      all_goals try (intro z; simp (disch := omega) only [p1, p2, h1, h2, nI_clamp, kc, nI_ltI, hu_o] at z <;> omega)
      all_goals try exact f_x 0 hR0 rfl rfl rfl
      all_goals try exact f_x 1 hR0 rfl rfl rfl
      all_goals try (exfalso; simp (disch := omega) only [p1, p2, h1, h2, kc, nI_eq, nI_ltI, nI_leI, nI_m1, hu_o, not_true_eq_false] at * <;> first | contradiction | omega)
