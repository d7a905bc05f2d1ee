/-! THE CALLS ON CASSETTES (written by wip/whole/gen_ops4.py). -/
theorem ixK (x : Int32) (n : Nat) (hn : n + 1 < 2 ^ 31) : ((x < nI 1) = True) ∨ (((x < nI 1) = False) ∧ ((nI n < x) = True) ∧ (∀ r, r ≤ n → (x ≤ nI r) = False)) ∨ ∃ j, 1 ≤ j ∧ j ≤ n ∧ x = nI j := by
  by_cases h1 : x < nI 1
  · exact Or.inl (eq_true h1)
  · by_cases h2 : x ≤ nI n
    · refine Or.inr (Or.inr ?_)
      have h0 : ¬ x < 0 := fun z => h1 (by
        simp only [Int32.lt_iff_toInt_lt] at z ⊢
        have e0 : (0 : Int32).toInt = 0 := rfl
        have e1 : (nI 1).toInt = 1 := rfl
        omega)
      obtain ⟨j, hj, rfl⟩ := nI_of2 (n := n) (nI_toInt (by omega)) h0 h2
      refine ⟨j, ?_, hj, rfl⟩
      rw [nI_ltI (by omega) (by decide)] at h1
      omega
    · refine Or.inr (Or.inl ⟨eq_false h1, eq_true ?_, fun r hr => eq_false ?_⟩)
      · simp only [Int32.lt_iff_toInt_lt, Int32.le_iff_toInt_le] at h2 ⊢
        omega
      · simp only [Int32.le_iff_toInt_le] at h2 ⊢
        rw [nI_toInt (by omega)] at h2 ⊢
        omega

set_option maxHeartbeats 3000000 in
theorem o_cassette (x w : Int32) : P_W RR 89 134 [0] true [.inl x, .inl w] := by
  refine P_Wof fun c m hR => ?_
  have hR0 := hR
  obtain ⟨⟨⟨t, ht, h1, h2⟩, ⟨u, hu1, hu2, hu3⟩, hpw, ⟨op, hop1, hop2, hop3⟩, hsb⟩, hvd, hbt, hsz, hes, hmg, hbk, hpy⟩ := hR
  rcases ix3 x 3 (by decide) with e1 | ⟨e1, e2, e3, e4⟩ | ⟨j, hj, rfl⟩
  · unfold P_run
    repeat' first
      | refine w_st rfl rfl ?_
      | refine w_no rfl rfl ?_ ?_
      | (refine w_br rfl rfl (fun z => ?_) (fun z => ?_) <;> try (first | contradiction | (simp (disch := omega) only [e1, kc, nI_eq, nI_ltI, nI_leI, nI_m1, hu_o, not_true_eq_false] at z; first | done | omega)))
      | refine w_in rfl rfl ?_
      | refine w_end rfl rfl ?_
      | refine w_endY rfl rfl ?_ ?_
      | refine w_up ?_
    all_goals try (intro z; simp (disch := omega) only [e1, nI_clamp, kc, nI_ltI, hu_o] at z <;> omega)
    all_goals try exact f_x 0 hR0 rfl rfl rfl
    all_goals try (exfalso; simp (disch := omega) only [e1, kc, nI_eq, nI_ltI, nI_leI, nI_m1, hu_o, not_true_eq_false] at * <;> first | contradiction | omega)
  · unfold P_run
    repeat' first
      | refine w_st rfl rfl ?_
      | refine w_no rfl rfl ?_ ?_
      | (refine w_br rfl rfl (fun z => ?_) (fun z => ?_) <;> try (first | contradiction | (simp (disch := omega) only [e1, e2, e3, e4, kc, nI_eq, nI_ltI, nI_leI, nI_m1, hu_o, not_true_eq_false] at z; first | done | omega)))
      | refine w_in rfl rfl ?_
      | refine w_end rfl rfl ?_
      | refine w_endY rfl rfl ?_ ?_
      | refine w_up ?_
    all_goals try (intro z; simp (disch := omega) only [e1, e2, e3, e4, nI_clamp, kc, nI_ltI, hu_o] at z <;> omega)
    all_goals try exact f_x 0 hR0 rfl rfl rfl
    all_goals try (exfalso; simp (disch := omega) only [e1, e2, e3, e4, kc, nI_eq, nI_ltI, nI_leI, nI_m1, hu_o, not_true_eq_false] at * <;> first | contradiction | omega)
  · have ej : (nI j).toNatClampNeg = j := nI_clamp (by omega)
    obtain ⟨k, n, hk1, hk2, hn, b1, b2, b3, b4⟩ := hmg j hj
    unfold P_run
    repeat' first
      | refine w_st rfl rfl ?_
      | refine w_no rfl rfl ?_ ?_
      | (refine w_br rfl rfl (fun z => ?_) (fun z => ?_) <;> try (first | contradiction | (simp (disch := omega) only [ej, b1, b2, b3, b4, kc, nI_eq, nI_ltI, nI_leI, nI_m1, hu_o, not_true_eq_false] at z; first | done | omega)))
      | refine w_in rfl rfl ?_
      | refine w_end rfl rfl ?_
      | refine w_endY rfl rfl ?_ ?_
      | refine w_up ?_
    all_goals try (intro z; simp (disch := omega) only [ej, b1, b2, b3, b4, nI_clamp, kc, nI_ltI, hu_o] at z <;> omega)
    all_goals try exact f_x 0 hR0 rfl rfl rfl
    all_goals try (exfalso; simp (disch := omega) only [ej, b1, b2, b3, b4, kc, nI_eq, nI_ltI, nI_leI, nI_m1, hu_o, not_true_eq_false] at * <;> first | contradiction | omega)
    all_goals (refine f_r hR0 rfl ?_ rfl; simp (disch := omega) only [ej, b1, b2, b3, b4, kc, hu_o]; done)

set_option maxHeartbeats 3000000 in
theorem o_kind (x y : Int32) : P_W RR 82 126 [1, 0, 2] false [.inl x, .inl y] := by
  refine P_Wof fun c m hR => ?_
  have hR0 := hR
  obtain ⟨⟨⟨t, ht, h1, h2⟩, ⟨u, hu1, hu2, hu3⟩, hpw, ⟨op, hop1, hop2, hop3⟩, hsb⟩, hvd, hbt, hsz, hes, hmg, hbk, hpy⟩ := hR
  have hpp : ∃ pw, pw ≤ 1 ∧ c 0 9 = nI pw ∧ m 30 2 = nI (1 - pw) := by
    rcases hpw with ⟨a, b⟩ | ⟨a, b⟩
    · exact ⟨1, by decide, a, b⟩
    · exact ⟨0, by decide, a, b⟩
  obtain ⟨pw, hp, p1, p2⟩ := hpp
  by_cases hrd : pw = 1 ∧ t = 8
  · obtain ⟨rfl, rfl⟩ := hrd
    rcases ix3 x 3 (by decide) with e1 | ⟨e1, e2, e3, e4⟩ | ⟨j, hj, rfl⟩
    · unfold P_run
      repeat' first
        | refine w_st rfl rfl ?_
        | refine w_no rfl rfl ?_ ?_
        | (refine w_br rfl rfl (fun z => ?_) (fun z => ?_) <;> try (first | contradiction | (simp (disch := omega) only [p1, p2, h1, h2, e1, kc, nI_eq, nI_ltI, nI_leI, nI_m1, hu_o, not_true_eq_false] at z; first | done | omega)))
        | refine w_in rfl rfl ?_
        | refine w_end rfl rfl ?_
        | refine w_endY rfl rfl ?_ ?_
        | refine w_up ?_
      all_goals try (intro z; simp (disch := omega) only [p1, p2, h1, h2, e1, nI_clamp, kc, nI_ltI, hu_o] at z <;> omega)
      all_goals try exact f_x 0 hR0 rfl rfl rfl
      all_goals try exact f_x 1 hR0 rfl rfl rfl
      all_goals try exact f_x 2 hR0 rfl rfl rfl
      all_goals try (exfalso; simp (disch := omega) only [p1, p2, h1, h2, e1, kc, nI_eq, nI_ltI, nI_leI, nI_m1, hu_o, not_true_eq_false] at * <;> first | contradiction | omega)
    · unfold P_run
      repeat' first
        | refine w_st rfl rfl ?_
        | refine w_no rfl rfl ?_ ?_
        | (refine w_br rfl rfl (fun z => ?_) (fun z => ?_) <;> try (first | contradiction | (simp (disch := omega) only [p1, p2, h1, h2, e1, e2, e3, e4, kc, nI_eq, nI_ltI, nI_leI, nI_m1, hu_o, not_true_eq_false] at z; first | done | omega)))
        | refine w_in rfl rfl ?_
        | refine w_end rfl rfl ?_
        | refine w_endY rfl rfl ?_ ?_
        | refine w_up ?_
      all_goals try (intro z; simp (disch := omega) only [p1, p2, h1, h2, e1, e2, e3, e4, nI_clamp, kc, nI_ltI, hu_o] at z <;> omega)
      all_goals try exact f_x 0 hR0 rfl rfl rfl
      all_goals try exact f_x 1 hR0 rfl rfl rfl
      all_goals try exact f_x 2 hR0 rfl rfl rfl
      all_goals try (exfalso; simp (disch := omega) only [p1, p2, h1, h2, e1, e2, e3, e4, kc, nI_eq, nI_ltI, nI_leI, nI_m1, hu_o, not_true_eq_false] at * <;> first | contradiction | omega)
    · have ej : (nI j).toNatClampNeg = j := nI_clamp (by omega)
      obtain ⟨k, n, hk1, hk2, hn, b1, b2, b3, b4⟩ := hmg j hj
      rcases ixK y 5 (by decide) with e1 | ⟨e1, e2, e3⟩ | ⟨q, hq1, hq2, rfl⟩
      · unfold P_run
        repeat' first
          | refine w_st rfl rfl ?_
          | refine w_no rfl rfl ?_ ?_
          | (refine w_br rfl rfl (fun z => ?_) (fun z => ?_) <;> try (first | contradiction | (simp (disch := omega) only [p1, p2, h1, h2, e1, ej, kc, nI_eq, nI_ltI, nI_leI, nI_m1, hu_o, not_true_eq_false] at z; first | done | omega)))
          | refine w_in rfl rfl ?_
          | refine w_end rfl rfl ?_
          | refine w_endY rfl rfl ?_ ?_
          | refine w_up ?_
        all_goals try (intro z; simp (disch := omega) only [p1, p2, h1, h2, e1, ej, nI_clamp, kc, nI_ltI, hu_o] at z <;> omega)
        all_goals try exact f_x 0 hR0 rfl rfl rfl
        all_goals try exact f_x 1 hR0 rfl rfl rfl
        all_goals try exact f_x 2 hR0 rfl rfl rfl
        all_goals try (exfalso; simp (disch := omega) only [p1, p2, h1, h2, e1, ej, kc, nI_eq, nI_ltI, nI_leI, nI_m1, hu_o, not_true_eq_false] at * <;> first | contradiction | omega)
      · unfold P_run
        repeat' first
          | refine w_st rfl rfl ?_
          | refine w_no rfl rfl ?_ ?_
          | (refine w_br rfl rfl (fun z => ?_) (fun z => ?_) <;> try (first | contradiction | (simp (disch := omega) only [p1, p2, h1, h2, e1, e2, e3, ej, kc, nI_eq, nI_ltI, nI_leI, nI_m1, hu_o, not_true_eq_false] at z; first | done | omega)))
          | refine w_in rfl rfl ?_
          | refine w_end rfl rfl ?_
          | refine w_endY rfl rfl ?_ ?_
          | refine w_up ?_
        all_goals try (intro z; simp (disch := omega) only [p1, p2, h1, h2, e1, e2, e3, ej, nI_clamp, kc, nI_ltI, hu_o] at z <;> omega)
        all_goals try exact f_x 0 hR0 rfl rfl rfl
        all_goals try exact f_x 1 hR0 rfl rfl rfl
        all_goals try exact f_x 2 hR0 rfl rfl rfl
        all_goals try (exfalso; simp (disch := omega) only [p1, p2, h1, h2, e1, e2, e3, ej, kc, nI_eq, nI_ltI, nI_leI, nI_m1, hu_o, not_true_eq_false] at * <;> first | contradiction | omega)
      · unfold P_run
        repeat' first
          | refine w_st rfl rfl ?_
          | refine w_no rfl rfl ?_ ?_
          | (refine w_br rfl rfl (fun z => ?_) (fun z => ?_) <;> try (first | contradiction | (simp (disch := omega) only [p1, p2, h1, h2, b1, b2, b3, b4, ej, kc, nI_eq, nI_ltI, nI_leI, nI_m1, hu_o, not_true_eq_false] at z; first | done | omega)))
          | refine w_in rfl rfl ?_
          | refine w_end rfl rfl ?_
          | refine w_endY rfl rfl ?_ ?_
          | refine w_up ?_
        all_goals try (intro z; simp (disch := omega) only [p1, p2, h1, h2, b1, b2, b3, b4, ej, nI_clamp, kc, nI_ltI, hu_o] at z <;> omega)
        all_goals try exact f_x 0 hR0 rfl rfl rfl
        all_goals try exact f_x 1 hR0 rfl rfl rfl
        all_goals try exact f_x 2 hR0 rfl rfl rfl
        all_goals try (exfalso; simp (disch := omega) only [p1, p2, h1, h2, b1, b2, b3, b4, ej, kc, nI_eq, nI_ltI, nI_leI, nI_m1, hu_o, not_true_eq_false] at * <;> first | contradiction | omega)
        simp (disch := omega) only [ej, kc, hu_o]
        refine f_r ⟨⟨⟨8, ht, h1, h2⟩, ⟨u, hu1, hu2, hu3⟩, hpw, ⟨op, hop1, hop2, hop3⟩, hsb⟩, hvd, hbt, hsz, hes, fun i hi => ?_, hbk, hpy.1, fun z => absurd (h1.symm.trans z) (by decide)⟩ rfl rfl rfl
        by_cases e : i = j
        · subst e; exact ⟨q, n, hq1, hq2, hn, by simp [hu], by simp [hu], b3, b4⟩
        · obtain ⟨k', n', r⟩ := hmg i hi; exact ⟨k', n', by simpa [hu, e] using r⟩
  · rcases (show pw = 0 ∨ pw = 1 by omega) with rfl | rfl
    · unfold P_run
      repeat' first
        | refine w_st rfl rfl ?_
        | refine w_no rfl rfl ?_ ?_
        | (refine w_br rfl rfl (fun z => ?_) (fun z => ?_) <;> try (first | contradiction | (simp (disch := omega) only [p1, p2, h1, h2, kc, nI_eq, nI_ltI, nI_leI, nI_m1, hu_o, not_true_eq_false] at z; first | done | omega)))
        | refine w_in rfl rfl ?_
        | refine w_end rfl rfl ?_
        | refine w_endY rfl rfl ?_ ?_
        | refine w_up ?_
      all_goals try (intro z; simp (disch := omega) only [p1, p2, h1, h2, nI_clamp, kc, nI_ltI, hu_o] at z <;> omega)
      all_goals try exact f_x 0 hR0 rfl rfl rfl
      all_goals try exact f_x 1 hR0 rfl rfl rfl
      all_goals try exact f_x 2 hR0 rfl rfl rfl
      all_goals try (exfalso; simp (disch := omega) only [p1, p2, h1, h2, kc, nI_eq, nI_ltI, nI_leI, nI_m1, hu_o, not_true_eq_false] at * <;> first | contradiction | omega)
    · have ht8 : t ≠ 8 := fun z => hrd ⟨rfl, z⟩
      unfold P_run
      repeat' first
        | refine w_st rfl rfl ?_
        | refine w_no rfl rfl ?_ ?_
        | (refine w_br rfl rfl (fun z => ?_) (fun z => ?_) <;> try (first | contradiction | (simp (disch := omega) only [p1, p2, h1, h2, kc, nI_eq, nI_ltI, nI_leI, nI_m1, hu_o, not_true_eq_false] at z; first | done | omega)))
        | refine w_in rfl rfl ?_
        | refine w_end rfl rfl ?_
        | refine w_endY rfl rfl ?_ ?_
        | refine w_up ?_
      all_goals try (intro z; simp (disch := omega) only [p1, p2, h1, h2, nI_clamp, kc, nI_ltI, hu_o] at z <;> omega)
      all_goals try exact f_x 0 hR0 rfl rfl rfl
      all_goals try exact f_x 1 hR0 rfl rfl rfl
      all_goals try exact f_x 2 hR0 rfl rfl rfl
      all_goals try (exfalso; simp (disch := omega) only [p1, p2, h1, h2, kc, nI_eq, nI_ltI, nI_leI, nI_m1, hu_o, not_true_eq_false] at * <;> first | contradiction | omega)
