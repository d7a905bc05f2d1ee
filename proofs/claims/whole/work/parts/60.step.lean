/-! THE END OF A STEP, AND step (written by wip/whole/g60.py). -/
set_option maxHeartbeats 4000000 in
theorem end2 {c m : HP} (hR : RR c m) : ∃ c' m', Ec 65 [.inr 0] c (.inl none, c') ∧ Ec 113 [.inr 30] m (.inl none, m') ∧ m' 30 0 = m 30 0 ∧ RR c' m' := by
  have hR0 := hR
  obtain ⟨⟨⟨t, ht, h1, h2⟩, ⟨u, hu1, hu2, hu3⟩, hpw, hop, hsb⟩, hvd, hbt, hsz, ⟨e, he, es1, es2, es3⟩, hmg, hbk, hpy⟩ := hR
  have onb := m_onBelt m
  have ksz := k_size hbt
  have hN := nN_10 (m 32)
  have hsz' : c 3 3 = nI (nN (m 32)) := by
    rw [← ksz]
    exact hsz
  by_cases hn0 : nN (m 32) = 0
  · rw [hn0] at onb hsz'
    rcases (show t = 1 ∨ t = 3 ∨ t = 4 ∨ t = 5 ∨ t = 7 ∨ t = 0 ∨ t = 2 ∨ t = 6 ∨ t = 8 by omega) with rfl | rfl | rfl | rfl | rfl | rfl | rfl | rfl | rfl
    · by_cases hg : u = 0 ∨ e = 24
      · refine ⟨hu (hu (hu c 19 0 (c 19 0 + nI u)) 0 8 (nI 0)) 0 7 (nI 2), hu (hu (hu m 30 1 (nI 2)) 40 0 (m 40 0 + nI u)) 30 5 (nI 0), w_fin ?_, w_fin ?_, rfl, ⟨⟨⟨2, by decide, rfl, rfl⟩, ⟨0, by decide, rfl, rfl⟩, hpw, hop, hsb⟩, hvd, hbt, hsz, ⟨e, he, es1, es2, es3⟩, hmg, (bk_add (k := 0) (x := nI u) 19 40 hbk rfl rfl (by decide) : r_bk (hu c 19 0 (c 19 0 + nI u)) (hu m 40 0 (m 40 0 + nI u))), hpy.1, fun z => absurd (show nI 2 = nI 5 from z) (by decide)⟩⟩
        · rcases Nat.eq_zero_or_pos u with hz | hz
          · skip
            repeat' first
              | refine w_ts h1 ?_
              | refine w_st rfl rfl ?_
              | refine w_no rfl rfl ?_ ?_
              | (refine w_br rfl rfl (fun z => ?_) (fun z => ?_) <;> try (first | (simp (disch := omega) only [hsz', h1, hu2, es1, kc, nI_clamp, nI_eq, nI_ltI, nI_leI, nI_m1, hu_o, hu_k, hu_same, not_true_eq_false, not_false_eq_true] at z; first | done | omega)))
              | refine w_in rfl rfl ?_
              | refine w_end rfl rfl ?_
              | refine w_endY rfl rfl ?_ ?_
              | refine w_up ?_
            all_goals (rw [← hu2]; rfl)
          · skip
            repeat' first
              | refine w_ts h1 ?_
              | refine w_st rfl rfl ?_
              | refine w_no rfl rfl ?_ ?_
              | (refine w_br rfl rfl (fun z => ?_) (fun z => ?_) <;> try (first | (simp (disch := omega) only [hsz', h1, hu2, es1, kc, nI_clamp, nI_eq, nI_ltI, nI_leI, nI_m1, hu_o, hu_k, hu_same, not_true_eq_false, not_false_eq_true] at z; first | done | omega)))
              | refine w_in rfl rfl ?_
              | refine w_end rfl rfl ?_
              | refine w_endY rfl rfl ?_ ?_
              | refine w_up ?_
            all_goals (rw [← hu2]; rfl)
        · rcases Nat.eq_zero_or_pos u with hz | hz
          · skip
            repeat' first
              | refine w_st rfl rfl ?_
              | refine w_ca rfl rfl onb ?_
              | refine w_no rfl rfl ?_ ?_
              | (refine w_br rfl rfl (fun z => ?_) (fun z => ?_) <;> try (first | (simp (disch := omega) only [h2, hu3, es2, kc, nI_clamp, nI_eq, nI_ltI, nI_leI, nI_m1, hu_o, hu_k, hu_same, not_true_eq_false, not_false_eq_true] at z; first | done | omega)))
              | refine w_in rfl rfl ?_
              | refine w_end rfl rfl ?_
              | refine w_endY rfl rfl ?_ ?_
              | refine w_up ?_
            all_goals (rw [← hu3]; rfl)
          · skip
            repeat' first
              | refine w_st rfl rfl ?_
              | refine w_ca rfl rfl onb ?_
              | refine w_no rfl rfl ?_ ?_
              | (refine w_br rfl rfl (fun z => ?_) (fun z => ?_) <;> try (first | (simp (disch := omega) only [h2, hu3, es2, kc, nI_clamp, nI_eq, nI_ltI, nI_leI, nI_m1, hu_o, hu_k, hu_same, not_true_eq_false, not_false_eq_true] at z; first | done | omega)))
              | refine w_in rfl rfl ?_
              | refine w_end rfl rfl ?_
              | refine w_endY rfl rfl ?_ ?_
              | refine w_up ?_
            all_goals (rw [← hu3]; rfl)
      · have hu0 : u ≠ 0 := fun z => hg (Or.inl z)
        have he24 : e ≠ 24 := fun z => hg (Or.inr z)
        refine ⟨c, m, w_fin ?_, w_fin ?_, rfl, hR0⟩
        · skip
          repeat' first
            | refine w_ts h1 ?_
            | refine w_st rfl rfl ?_
            | refine w_no rfl rfl ?_ ?_
            | (refine w_br rfl rfl (fun z => ?_) (fun z => ?_) <;> try (first | (simp (disch := omega) only [hsz', h1, hu2, es1, kc, nI_clamp, nI_eq, nI_ltI, nI_leI, nI_m1, hu_o, hu_k, hu_same, not_true_eq_false, not_false_eq_true] at z; first | done | omega)))
            | refine w_in rfl rfl ?_
            | refine w_end rfl rfl ?_
            | refine w_endY rfl rfl ?_ ?_
            | refine w_up ?_
          all_goals rfl
        · skip
          repeat' first
            | refine w_st rfl rfl ?_
            | refine w_ca rfl rfl onb ?_
            | refine w_no rfl rfl ?_ ?_
            | (refine w_br rfl rfl (fun z => ?_) (fun z => ?_) <;> try (first | (simp (disch := omega) only [h2, hu3, es2, kc, nI_clamp, nI_eq, nI_ltI, nI_leI, nI_m1, hu_o, hu_k, hu_same, not_true_eq_false, not_false_eq_true] at z; first | done | omega)))
            | refine w_in rfl rfl ?_
            | refine w_end rfl rfl ?_
            | refine w_endY rfl rfl ?_ ?_
            | refine w_up ?_
          all_goals rfl
    · rcases Nat.eq_zero_or_pos e with hz | hz
      · subst hz
        refine ⟨hu c 0 7 (nI 0), hu m 30 1 (nI 0), w_fin ?_, w_fin ?_, rfl, ⟨⟨⟨0, by decide, rfl, rfl⟩, ⟨u, hu1, hu2, hu3⟩, hpw, hop, hsb⟩, hvd, hbt, hsz, ⟨0, he, es1, es2, es3⟩, hmg, hbk, hpy.1, fun z => absurd (show nI 0 = nI 5 from z) (by decide)⟩⟩
        · skip
          repeat' first
            | refine w_ts h1 ?_
            | refine w_st rfl rfl ?_
            | refine w_no rfl rfl ?_ ?_
            | (refine w_br rfl rfl (fun z => ?_) (fun z => ?_) <;> try (first | (simp (disch := omega) only [hsz', h1, hu2, es1, kc, nI_clamp, nI_eq, nI_ltI, nI_leI, nI_m1, hu_o, hu_k, hu_same, not_true_eq_false, not_false_eq_true] at z; first | done | omega)))
            | refine w_in rfl rfl ?_
            | refine w_end rfl rfl ?_
            | refine w_endY rfl rfl ?_ ?_
            | refine w_up ?_
          all_goals rfl
        · skip
          repeat' first
            | refine w_st rfl rfl ?_
            | refine w_ca rfl rfl onb ?_
            | refine w_no rfl rfl ?_ ?_
            | (refine w_br rfl rfl (fun z => ?_) (fun z => ?_) <;> try (first | (simp (disch := omega) only [h2, hu3, es2, kc, nI_clamp, nI_eq, nI_ltI, nI_leI, nI_m1, hu_o, hu_k, hu_same, not_true_eq_false, not_false_eq_true] at z; first | done | omega)))
            | refine w_in rfl rfl ?_
            | refine w_end rfl rfl ?_
            | refine w_endY rfl rfl ?_ ?_
            | refine w_up ?_
          all_goals rfl
      · refine ⟨hu c 0 7 (c 0 7), m, w_fin ?_, w_fin ?_, rfl, ⟨⟨⟨3, by decide, h1, h2⟩, ⟨u, hu1, hu2, hu3⟩, hpw, hop, hsb⟩, hvd, hbt, hsz, ⟨e, he, es1, es2, es3⟩, hmg, hbk, hpy⟩⟩
        · skip
          repeat' first
            | refine w_ts h1 ?_
            | refine w_st rfl rfl ?_
            | refine w_no rfl rfl ?_ ?_
            | (refine w_br rfl rfl (fun z => ?_) (fun z => ?_) <;> try (first | (simp (disch := omega) only [hsz', h1, hu2, es1, kc, nI_clamp, nI_eq, nI_ltI, nI_leI, nI_m1, hu_o, hu_k, hu_same, not_true_eq_false, not_false_eq_true] at z; first | done | omega)))
            | refine w_in rfl rfl ?_
            | refine w_end rfl rfl ?_
            | refine w_endY rfl rfl ?_ ?_
            | refine w_up ?_
          all_goals first | rfl | rw [h1]
        · skip
          repeat' first
            | refine w_st rfl rfl ?_
            | refine w_ca rfl rfl onb ?_
            | refine w_no rfl rfl ?_ ?_
            | (refine w_br rfl rfl (fun z => ?_) (fun z => ?_) <;> try (first | (simp (disch := omega) only [h2, hu3, es2, kc, nI_clamp, nI_eq, nI_ltI, nI_leI, nI_m1, hu_o, hu_k, hu_same, not_true_eq_false, not_false_eq_true] at z; first | done | omega)))
            | refine w_in rfl rfl ?_
            | refine w_end rfl rfl ?_
            | refine w_endY rfl rfl ?_ ?_
            | refine w_up ?_
          all_goals rfl
    · rcases Nat.eq_zero_or_pos e with hz | hz
      · subst hz
        refine ⟨hu c 0 7 (nI 0), hu m 30 1 (nI 0), w_fin ?_, w_fin ?_, rfl, ⟨⟨⟨0, by decide, rfl, rfl⟩, ⟨u, hu1, hu2, hu3⟩, hpw, hop, hsb⟩, hvd, hbt, hsz, ⟨0, he, es1, es2, es3⟩, hmg, hbk, hpy.1, fun z => absurd (show nI 0 = nI 5 from z) (by decide)⟩⟩
        · skip
          repeat' first
            | refine w_ts h1 ?_
            | refine w_st rfl rfl ?_
            | refine w_no rfl rfl ?_ ?_
            | (refine w_br rfl rfl (fun z => ?_) (fun z => ?_) <;> try (first | (simp (disch := omega) only [hsz', h1, hu2, es1, kc, nI_clamp, nI_eq, nI_ltI, nI_leI, nI_m1, hu_o, hu_k, hu_same, not_true_eq_false, not_false_eq_true] at z; first | done | omega)))
            | refine w_in rfl rfl ?_
            | refine w_end rfl rfl ?_
            | refine w_endY rfl rfl ?_ ?_
            | refine w_up ?_
          all_goals rfl
        · skip
          repeat' first
            | refine w_st rfl rfl ?_
            | refine w_ca rfl rfl onb ?_
            | refine w_no rfl rfl ?_ ?_
            | (refine w_br rfl rfl (fun z => ?_) (fun z => ?_) <;> try (first | (simp (disch := omega) only [h2, hu3, es2, kc, nI_clamp, nI_eq, nI_ltI, nI_leI, nI_m1, hu_o, hu_k, hu_same, not_true_eq_false, not_false_eq_true] at z; first | done | omega)))
            | refine w_in rfl rfl ?_
            | refine w_end rfl rfl ?_
            | refine w_endY rfl rfl ?_ ?_
            | refine w_up ?_
          all_goals rfl
      · refine ⟨hu c 0 7 (c 0 7), m, w_fin ?_, w_fin ?_, rfl, ⟨⟨⟨4, by decide, h1, h2⟩, ⟨u, hu1, hu2, hu3⟩, hpw, hop, hsb⟩, hvd, hbt, hsz, ⟨e, he, es1, es2, es3⟩, hmg, hbk, hpy⟩⟩
        · skip
          repeat' first
            | refine w_ts h1 ?_
            | refine w_st rfl rfl ?_
            | refine w_no rfl rfl ?_ ?_
            | (refine w_br rfl rfl (fun z => ?_) (fun z => ?_) <;> try (first | (simp (disch := omega) only [hsz', h1, hu2, es1, kc, nI_clamp, nI_eq, nI_ltI, nI_leI, nI_m1, hu_o, hu_k, hu_same, not_true_eq_false, not_false_eq_true] at z; first | done | omega)))
            | refine w_in rfl rfl ?_
            | refine w_end rfl rfl ?_
            | refine w_endY rfl rfl ?_ ?_
            | refine w_up ?_
          all_goals first | rfl | rw [h1]
        · skip
          repeat' first
            | refine w_st rfl rfl ?_
            | refine w_ca rfl rfl onb ?_
            | refine w_no rfl rfl ?_ ?_
            | (refine w_br rfl rfl (fun z => ?_) (fun z => ?_) <;> try (first | (simp (disch := omega) only [h2, hu3, es2, kc, nI_clamp, nI_eq, nI_ltI, nI_leI, nI_m1, hu_o, hu_k, hu_same, not_true_eq_false, not_false_eq_true] at z; first | done | omega)))
            | refine w_in rfl rfl ?_
            | refine w_end rfl rfl ?_
            | refine w_endY rfl rfl ?_ ?_
            | refine w_up ?_
          all_goals rfl
    · obtain ⟨q, q1, q2⟩ := hpy.2 h1
      have s120 : ∀ k, 1 ≤ k → k ≤ 5 → q k ≤ 120 := fun k z1 z2 => Nat.le_trans (q1 k z1 z2).2.2 (stk_120 hmg k)
      have b1 := s120 1 (by decide) (by decide)
      have b2 := s120 2 (by decide) (by decide)
      have b3 := s120 3 (by decide) (by decide)
      have b4 := s120 4 (by decide) (by decide)
      have b5 := s120 5 (by decide) (by decide)
      have sum : Ec 93 [.inr 45] m (.inl (some (nI (q 1 + q 2 + q 3 + q 4 + q 5))), m) := by
        refine w_fin ?_
        repeat' first
          | refine w_st rfl rfl ?_
          | refine w_end rfl rfl ?_
        show (Sum.inl (some (m 45 0 + m 45 1 + m 45 2 + m 45 3 + m 45 4 + m 45 5)), m) = _
        rw [hpy.1, (q1 1 (by decide) (by decide)).2.1, (q1 2 (by decide) (by decide)).2.1, (q1 3 (by decide) (by decide)).2.1, (q1 4 (by decide) (by decide)).2.1, (q1 5 (by decide) (by decide)).2.1]
        simp only [nI_add, Nat.zero_add]
      rcases Nat.eq_zero_or_pos (q 1 + q 2 + q 3 + q 4 + q 5) with hz | hz
      · rw [hz] at sum q2
        refine ⟨hu c 0 7 (nI 0), hu m 30 1 (nI 0), w_fin ?_, w_fin ?_, rfl, ⟨⟨⟨0, by decide, rfl, rfl⟩, ⟨u, hu1, hu2, hu3⟩, hpw, hop, hsb⟩, hvd, hbt, hsz, ⟨e, he, es1, es2, es3⟩, hmg, hbk, hpy.1, fun z => absurd (show nI 0 = nI 5 from z) (by decide)⟩⟩
        · skip
          repeat' first
            | refine w_ts h1 ?_
            | refine w_st rfl rfl ?_
            | refine w_no rfl rfl ?_ ?_
            | (refine w_br rfl rfl (fun z => ?_) (fun z => ?_) <;> try (first | (simp (disch := omega) only [hsz', h1, hu2, es1, q2, kc, nI_clamp, nI_eq, nI_ltI, nI_leI, nI_m1, hu_o, hu_k, hu_same, not_true_eq_false, not_false_eq_true] at z; first | done | omega)))
            | refine w_in rfl rfl ?_
            | refine w_end rfl rfl ?_
            | refine w_endY rfl rfl ?_ ?_
            | refine w_up ?_
          all_goals rfl
        · skip
          repeat' first
            | refine w_st rfl rfl ?_
            | refine w_ca rfl rfl onb ?_
            | refine w_ca rfl rfl sum ?_
            | refine w_no rfl rfl ?_ ?_
            | (refine w_br rfl rfl (fun z => ?_) (fun z => ?_) <;> try (first | (simp (disch := omega) only [h2, hu3, es2, q2, kc, nI_clamp, nI_eq, nI_ltI, nI_leI, nI_m1, hu_o, hu_k, hu_same, not_true_eq_false, not_false_eq_true] at z; first | done | omega)))
            | refine w_in rfl rfl ?_
            | refine w_end rfl rfl ?_
            | refine w_endY rfl rfl ?_ ?_
            | refine w_up ?_
          all_goals rfl
      · refine ⟨hu c 0 7 (nI 5), m, w_fin ?_, w_fin ?_, rfl, ⟨⟨⟨5, by decide, rfl, h2⟩, ⟨u, hu1, hu2, hu3⟩, hpw, hop, hsb⟩, hvd, hbt, hsz, ⟨e, he, es1, es2, es3⟩, hmg, hbk, hpy.1, fun _ => ⟨q, q1, q2⟩⟩⟩
        · skip
          repeat' first
            | refine w_ts h1 ?_
            | refine w_st rfl rfl ?_
            | refine w_no rfl rfl ?_ ?_
            | (refine w_br rfl rfl (fun z => ?_) (fun z => ?_) <;> try (first | (simp (disch := omega) only [hsz', h1, hu2, es1, q2, kc, nI_clamp, nI_eq, nI_ltI, nI_leI, nI_m1, hu_o, hu_k, hu_same, not_true_eq_false, not_false_eq_true] at z; first | done | omega)))
            | refine w_in rfl rfl ?_
            | refine w_end rfl rfl ?_
            | refine w_endY rfl rfl ?_ ?_
            | refine w_up ?_
          all_goals rfl
        · skip
          repeat' first
            | refine w_st rfl rfl ?_
            | refine w_ca rfl rfl onb ?_
            | refine w_ca rfl rfl sum ?_
            | refine w_no rfl rfl ?_ ?_
            | (refine w_br rfl rfl (fun z => ?_) (fun z => ?_) <;> try (first | (simp (disch := omega) only [h2, hu3, es2, q2, kc, nI_clamp, nI_eq, nI_ltI, nI_leI, nI_m1, hu_o, hu_k, hu_same, not_true_eq_false, not_false_eq_true] at z; first | done | omega)))
            | refine w_in rfl rfl ?_
            | refine w_end rfl rfl ?_
            | refine w_endY rfl rfl ?_ ?_
            | refine w_up ?_
          all_goals rfl
    · rcases Nat.eq_zero_or_pos e with hz | hz
      · subst hz
        refine ⟨hu c 0 7 (nI 0), hu m 30 1 (nI 0), w_fin ?_, w_fin ?_, rfl, ⟨⟨⟨0, by decide, rfl, rfl⟩, ⟨u, hu1, hu2, hu3⟩, hpw, hop, hsb⟩, hvd, hbt, hsz, ⟨0, he, es1, es2, es3⟩, hmg, hbk, hpy.1, fun z => absurd (show nI 0 = nI 5 from z) (by decide)⟩⟩
        · skip
          repeat' first
            | refine w_ts h1 ?_
            | refine w_st rfl rfl ?_
            | refine w_no rfl rfl ?_ ?_
            | (refine w_br rfl rfl (fun z => ?_) (fun z => ?_) <;> try (first | (simp (disch := omega) only [hsz', h1, hu2, es1, kc, nI_clamp, nI_eq, nI_ltI, nI_leI, nI_m1, hu_o, hu_k, hu_same, not_true_eq_false, not_false_eq_true] at z; first | done | omega)))
            | refine w_in rfl rfl ?_
            | refine w_end rfl rfl ?_
            | refine w_endY rfl rfl ?_ ?_
            | refine w_up ?_
          all_goals rfl
        · skip
          repeat' first
            | refine w_st rfl rfl ?_
            | refine w_ca rfl rfl onb ?_
            | refine w_no rfl rfl ?_ ?_
            | (refine w_br rfl rfl (fun z => ?_) (fun z => ?_) <;> try (first | (simp (disch := omega) only [h2, hu3, es2, kc, nI_clamp, nI_eq, nI_ltI, nI_leI, nI_m1, hu_o, hu_k, hu_same, not_true_eq_false, not_false_eq_true] at z; first | done | omega)))
            | refine w_in rfl rfl ?_
            | refine w_end rfl rfl ?_
            | refine w_endY rfl rfl ?_ ?_
            | refine w_up ?_
          all_goals rfl
      · refine ⟨hu c 0 7 (nI 2), hu m 30 1 (nI 2), w_fin ?_, w_fin ?_, rfl, ⟨⟨⟨2, by decide, rfl, rfl⟩, ⟨u, hu1, hu2, hu3⟩, hpw, hop, hsb⟩, hvd, hbt, hsz, ⟨e, he, es1, es2, es3⟩, hmg, hbk, hpy.1, fun z => absurd (show nI 2 = nI 5 from z) (by decide)⟩⟩
        · skip
          repeat' first
            | refine w_ts h1 ?_
            | refine w_st rfl rfl ?_
            | refine w_no rfl rfl ?_ ?_
            | (refine w_br rfl rfl (fun z => ?_) (fun z => ?_) <;> try (first | (simp (disch := omega) only [hsz', h1, hu2, es1, kc, nI_clamp, nI_eq, nI_ltI, nI_leI, nI_m1, hu_o, hu_k, hu_same, not_true_eq_false, not_false_eq_true] at z; first | done | omega)))
            | refine w_in rfl rfl ?_
            | refine w_end rfl rfl ?_
            | refine w_endY rfl rfl ?_ ?_
            | refine w_up ?_
          all_goals rfl
        · skip
          repeat' first
            | refine w_st rfl rfl ?_
            | refine w_ca rfl rfl onb ?_
            | refine w_no rfl rfl ?_ ?_
            | (refine w_br rfl rfl (fun z => ?_) (fun z => ?_) <;> try (first | (simp (disch := omega) only [h2, hu3, es2, kc, nI_clamp, nI_eq, nI_ltI, nI_leI, nI_m1, hu_o, hu_k, hu_same, not_true_eq_false, not_false_eq_true] at z; first | done | omega)))
            | refine w_in rfl rfl ?_
            | refine w_end rfl rfl ?_
            | refine w_endY rfl rfl ?_ ?_
            | refine w_up ?_
          all_goals rfl
    · refine ⟨c, m, w_fin ?_, w_fin ?_, rfl, hR0⟩
      · skip
        repeat' first
          | refine w_ts h1 ?_
          | refine w_st rfl rfl ?_
          | refine w_no rfl rfl ?_ ?_
          | (refine w_br rfl rfl (fun z => ?_) (fun z => ?_) <;> try (first | (simp (disch := omega) only [hsz', h1, hu2, es1, kc, nI_clamp, nI_eq, nI_ltI, nI_leI, nI_m1, hu_o, hu_k, hu_same, not_true_eq_false, not_false_eq_true] at z; first | done | omega)))
          | refine w_in rfl rfl ?_
          | refine w_end rfl rfl ?_
          | refine w_endY rfl rfl ?_ ?_
          | refine w_up ?_
        all_goals rfl
      · skip
        repeat' first
          | refine w_st rfl rfl ?_
          | refine w_ca rfl rfl onb ?_
          | refine w_no rfl rfl ?_ ?_
          | (refine w_br rfl rfl (fun z => ?_) (fun z => ?_) <;> try (first | (simp (disch := omega) only [h2, hu3, es2, kc, nI_clamp, nI_eq, nI_ltI, nI_leI, nI_m1, hu_o, hu_k, hu_same, not_true_eq_false, not_false_eq_true] at z; first | done | omega)))
          | refine w_in rfl rfl ?_
          | refine w_end rfl rfl ?_
          | refine w_endY rfl rfl ?_ ?_
          | refine w_up ?_
        all_goals rfl
    · refine ⟨c, m, w_fin ?_, w_fin ?_, rfl, hR0⟩
      · skip
        repeat' first
          | refine w_ts h1 ?_
          | refine w_st rfl rfl ?_
          | refine w_no rfl rfl ?_ ?_
          | (refine w_br rfl rfl (fun z => ?_) (fun z => ?_) <;> try (first | (simp (disch := omega) only [hsz', h1, hu2, es1, kc, nI_clamp, nI_eq, nI_ltI, nI_leI, nI_m1, hu_o, hu_k, hu_same, not_true_eq_false, not_false_eq_true] at z; first | done | omega)))
          | refine w_in rfl rfl ?_
          | refine w_end rfl rfl ?_
          | refine w_endY rfl rfl ?_ ?_
          | refine w_up ?_
        all_goals rfl
      · skip
        repeat' first
          | refine w_st rfl rfl ?_
          | refine w_ca rfl rfl onb ?_
          | refine w_no rfl rfl ?_ ?_
          | (refine w_br rfl rfl (fun z => ?_) (fun z => ?_) <;> try (first | (simp (disch := omega) only [h2, hu3, es2, kc, nI_clamp, nI_eq, nI_ltI, nI_leI, nI_m1, hu_o, hu_k, hu_same, not_true_eq_false, not_false_eq_true] at z; first | done | omega)))
          | refine w_in rfl rfl ?_
          | refine w_end rfl rfl ?_
          | refine w_endY rfl rfl ?_ ?_
          | refine w_up ?_
        all_goals rfl
    · refine ⟨c, m, w_fin ?_, w_fin ?_, rfl, hR0⟩
      · skip
        repeat' first
          | refine w_ts h1 ?_
          | refine w_st rfl rfl ?_
          | refine w_no rfl rfl ?_ ?_
          | (refine w_br rfl rfl (fun z => ?_) (fun z => ?_) <;> try (first | (simp (disch := omega) only [hsz', h1, hu2, es1, kc, nI_clamp, nI_eq, nI_ltI, nI_leI, nI_m1, hu_o, hu_k, hu_same, not_true_eq_false, not_false_eq_true] at z; first | done | omega)))
          | refine w_in rfl rfl ?_
          | refine w_end rfl rfl ?_
          | refine w_endY rfl rfl ?_ ?_
          | refine w_up ?_
        all_goals rfl
      · skip
        repeat' first
          | refine w_st rfl rfl ?_
          | refine w_ca rfl rfl onb ?_
          | refine w_no rfl rfl ?_ ?_
          | (refine w_br rfl rfl (fun z => ?_) (fun z => ?_) <;> try (first | (simp (disch := omega) only [h2, hu3, es2, kc, nI_clamp, nI_eq, nI_ltI, nI_leI, nI_m1, hu_o, hu_k, hu_same, not_true_eq_false, not_false_eq_true] at z; first | done | omega)))
          | refine w_in rfl rfl ?_
          | refine w_end rfl rfl ?_
          | refine w_endY rfl rfl ?_ ?_
          | refine w_up ?_
        all_goals rfl
    · refine ⟨c, m, w_fin ?_, w_fin ?_, rfl, hR0⟩
      · skip
        repeat' first
          | refine w_ts h1 ?_
          | refine w_st rfl rfl ?_
          | refine w_no rfl rfl ?_ ?_
          | (refine w_br rfl rfl (fun z => ?_) (fun z => ?_) <;> try (first | (simp (disch := omega) only [hsz', h1, hu2, es1, kc, nI_clamp, nI_eq, nI_ltI, nI_leI, nI_m1, hu_o, hu_k, hu_same, not_true_eq_false, not_false_eq_true] at z; first | done | omega)))
          | refine w_in rfl rfl ?_
          | refine w_end rfl rfl ?_
          | refine w_endY rfl rfl ?_ ?_
          | refine w_up ?_
        all_goals rfl
      · skip
        repeat' first
          | refine w_st rfl rfl ?_
          | refine w_ca rfl rfl onb ?_
          | refine w_no rfl rfl ?_ ?_
          | (refine w_br rfl rfl (fun z => ?_) (fun z => ?_) <;> try (first | (simp (disch := omega) only [h2, hu3, es2, kc, nI_clamp, nI_eq, nI_ltI, nI_leI, nI_m1, hu_o, hu_k, hu_same, not_true_eq_false, not_false_eq_true] at z; first | done | omega)))
          | refine w_in rfl rfl ?_
          | refine w_end rfl rfl ?_
          | refine w_endY rfl rfl ?_ ?_
          | refine w_up ?_
        all_goals rfl
  · refine ⟨c, m, w_fin ?_, w_fin ?_, rfl, hR0⟩
    · skip
      repeat' first
        | refine w_ts h1 ?_
        | refine w_st rfl rfl ?_
        | refine w_no rfl rfl ?_ ?_
        | (refine w_br rfl rfl (fun z => ?_) (fun z => ?_) <;> try (first | (simp (disch := omega) only [hsz', h1, hu2, es1, kc, nI_clamp, nI_eq, nI_ltI, nI_leI, nI_m1, hu_o, hu_k, hu_same, not_true_eq_false, not_false_eq_true] at z; first | done | omega)))
        | refine w_in rfl rfl ?_
        | refine w_end rfl rfl ?_
        | refine w_endY rfl rfl ?_ ?_
        | refine w_up ?_
      all_goals rfl
    · skip
      repeat' first
        | refine w_st rfl rfl ?_
        | refine w_ca rfl rfl onb ?_
        | refine w_no rfl rfl ?_ ?_
        | (refine w_br rfl rfl (fun z => ?_) (fun z => ?_) <;> try (first | (simp (disch := omega) only [h2, hu3, es2, kc, nI_clamp, nI_eq, nI_ltI, nI_leI, nI_m1, hu_o, hu_k, hu_same, not_true_eq_false, not_false_eq_true] at z; first | done | omega)))
        | refine w_in rfl rfl ?_
        | refine w_end rfl rfl ?_
        | refine w_endY rfl rfl ?_ ?_
        | refine w_up ?_
      all_goals rfl
theorem jam2 {c m : HP} (hR : RR c m) {b : Nat} (hb : b ≤ 1) : ∃ c' m', Ec 66 [.inr 0, .inl (nI b)] c (.inl none, c') ∧ m' 30 0 = m 30 0 ∧ RR c' m' ∧ (∀ (x y : Int32) F, (∀ y', Wp 114 (116, [(3, .inl y'), (2, .inl x), (0, .inr 30), (1, .inl y)], [], m') F) → Wp 114 (92, [(3, .inl (nI b)), (2, .inl x), (0, .inr 30), (1, .inl y)], [], m) F) := by
  have hR0 := hR
  obtain ⟨⟨hst, hsl, hpw, hop, ⟨s, hs, s1, s2⟩⟩, hvd, hbt, hsz, hes, hmg, hbk, hpy⟩ := hR
  rcases (show b = 0 ∨ b = 1 by omega) with rfl | rfl
  · refine ⟨hu c 0 11 (nI 0), hu m 30 4 (nI 0), w_fin ?_, rfl, ⟨⟨hst, hsl, hpw, hop, ⟨0, by decide, rfl, rfl⟩⟩, hvd, hbt, hsz, hes, hmg, hbk, hpy⟩, fun x y F K => ?_⟩
    · skip
      repeat' first
        | refine w_st rfl rfl ?_
        | refine w_no rfl rfl ?_ ?_
        | (refine w_br rfl rfl (fun z => ?_) (fun z => ?_) <;> try (first | (simp (disch := omega) only [kc, nI_clamp, nI_eq, nI_ltI, nI_leI, nI_m1, hu_o, hu_k, hu_same, not_true_eq_false, not_false_eq_true] at z; first | done | omega)))
        | refine w_in rfl rfl ?_
        | refine w_end rfl rfl ?_
        | refine w_endY rfl rfl ?_ ?_
        | refine w_up ?_
      all_goals first | exact Or.inr (Or.inl rfl) | rfl
    · skip
      repeat' first
        | refine g_st 114 116 rfl rfl rfl ?_
        | refine g_no 114 116 rfl rfl rfl ?_ ?_
        | (refine g_br 114 116 rfl rfl rfl (fun z => ?_) (fun z => ?_) <;> try (first | (simp (disch := omega) only [kc, nI_clamp, nI_eq, nI_ltI, nI_leI, nI_m1, hu_o, hu_k, hu_same, not_true_eq_false, not_false_eq_true] at z; first | done | omega)))
        | refine w_in rfl rfl ?_
        | refine w_end rfl rfl ?_
        | refine w_endY rfl rfl ?_ ?_
        | refine w_up ?_
      all_goals exact K _
  · rcases (show s = 0 ∨ s = 1 by omega) with rfl | rfl
    · refine ⟨hu c 0 11 (nI 1), hu m 30 4 (nI 1), w_fin ?_, rfl, ⟨⟨hst, hsl, hpw, hop, ⟨1, by decide, rfl, rfl⟩⟩, hvd, hbt, hsz, hes, hmg, hbk, hpy⟩, fun x y F K => ?_⟩
      · skip
        repeat' first
          | refine w_st rfl rfl ?_
          | refine w_no rfl rfl ?_ ?_
          | (refine w_br rfl rfl (fun z => ?_) (fun z => ?_) <;> try (first | (simp (disch := omega) only [s1, kc, nI_clamp, nI_eq, nI_ltI, nI_leI, nI_m1, hu_o, hu_k, hu_same, not_true_eq_false, not_false_eq_true] at z; first | done | omega)))
          | refine w_in rfl rfl ?_
          | refine w_end rfl rfl ?_
          | refine w_endY rfl rfl ?_ ?_
          | refine w_up ?_
        all_goals first | exact Or.inr (Or.inr rfl) | rfl
      · skip
        repeat' first
          | refine g_st 114 116 rfl rfl rfl ?_
          | refine g_no 114 116 rfl rfl rfl ?_ ?_
          | (refine g_br 114 116 rfl rfl rfl (fun z => ?_) (fun z => ?_) <;> try (first | (simp (disch := omega) only [s2, kc, nI_clamp, nI_eq, nI_ltI, nI_leI, nI_m1, hu_o, hu_k, hu_same, not_true_eq_false, not_false_eq_true] at z; first | done | omega)))
          | refine w_in rfl rfl ?_
          | refine w_end rfl rfl ?_
          | refine w_endY rfl rfl ?_ ?_
          | refine w_up ?_
        all_goals exact K _
    · refine ⟨hu (hu c 0 11 (nI 0)) 0 7 (nI 6), hu (hu m 30 1 (nI 6)) 30 4 (nI 0), w_fin ?_, rfl, ⟨⟨⟨6, by decide, rfl, rfl⟩, hsl, hpw, hop, ⟨0, by decide, rfl, rfl⟩⟩, hvd, hbt, hsz, hes, hmg, hbk, hpy.1, fun z => absurd (show nI 6 = nI 5 from z) (by decide)⟩, fun x y F K => ?_⟩
      · skip
        repeat' first
          | refine w_st rfl rfl ?_
          | refine w_no rfl rfl ?_ ?_
          | (refine w_br rfl rfl (fun z => ?_) (fun z => ?_) <;> try (first | (simp (disch := omega) only [s1, kc, nI_clamp, nI_eq, nI_ltI, nI_leI, nI_m1, hu_o, hu_k, hu_same, not_true_eq_false, not_false_eq_true] at z; first | done | omega)))
          | refine w_in rfl rfl ?_
          | refine w_end rfl rfl ?_
          | refine w_endY rfl rfl ?_ ?_
          | refine w_up ?_
        all_goals first | exact Or.inr (Or.inl rfl) | rfl
      · skip
        repeat' first
          | refine g_st 114 116 rfl rfl rfl ?_
          | refine g_no 114 116 rfl rfl rfl ?_ ?_
          | (refine g_br 114 116 rfl rfl rfl (fun z => ?_) (fun z => ?_) <;> try (first | (simp (disch := omega) only [s2, kc, nI_clamp, nI_eq, nI_ltI, nI_leI, nI_m1, hu_o, hu_k, hu_same, not_true_eq_false, not_false_eq_true] at z; first | done | omega)))
          | refine w_in rfl rfl ?_
          | refine w_end rfl rfl ?_
          | refine w_endY rfl rfl ?_ ?_
          | refine w_up ?_
        all_goals exact K _
set_option maxHeartbeats 4000000 in
theorem once2 {c m : HP} (hR : RR c m) : ∃ c' m', Ec 67 [.inr 0] c (.inl none, c') ∧ m' 30 0 = m 30 0 ∧ RR c' m' ∧ (∀ (x y : Int32) F, Wp 114 (31, [(2, .inl (x + Int32.ofInt 1)), (0, .inr 30), (1, .inl y)], [], m') F → (∀ w', Wp 114 (31, [(2, .inl (x + Int32.ofInt 1)), (3, .inl w'), (0, .inr 30), (1, .inl y)], [], m') F) → Wp 114 (36, [(2, .inl x), (0, .inr 30), (1, .inl y)], [], m) F ∧ ∀ w, Wp 114 (36, [(2, .inl x), (3, .inl w), (0, .inr 30), (1, .inl y)], [], m) F) := by
  have hR0 := hR
  obtain ⟨⟨⟨t, ht, h1, h2⟩, hsl, hpw, hop, hsb⟩, hvd, hbt, hsz, hes, hmg, hbk, hpy⟩ := hR
  obtain ⟨b, c1, c2, m2, hb, r1, r2, r3, r4, r5⟩ := moves2 hR0
  obtain ⟨c3, m3, p1, p2, p3, p4⟩ := bring2 r5
  obtain ⟨c4, m4, q1, q2, q3, q4⟩ := end2 p4
  obtain ⟨c5, m5, j1, j2, j3, j4⟩ := jam2 q4 hb
  by_cases hrun : (c 0 9 = nI 1 ∧ m 30 2 = nI 0) ∧ (t = 1 ∨ t = 3 ∨ t = 4 ∨ t = 5 ∨ t = 7)
  · obtain ⟨⟨w1, w2⟩, ht⟩ := hrun
    refine ⟨c5, m5, w_fin ?_, j2.trans (q3.trans (p3.trans r4)), j3, fun x y F KA KB => ⟨?_, fun w => ?_⟩⟩
    · rcases ht with rfl | rfl | rfl | rfl | rfl
      all_goals
        repeat' first
          | refine w_st rfl rfl ?_
          | refine w_ca rfl rfl r1 ?_
          | refine w_ca rfl rfl r2 ?_
          | refine w_ca rfl rfl p1 ?_
          | refine w_ca rfl rfl q1 ?_
          | refine w_ca rfl rfl j1 ?_
          | refine w_no rfl rfl ?_ ?_
          | (refine w_br rfl rfl (fun z => ?_) (fun z => ?_) <;> try (first | (simp (disch := omega) only [h1, w1, kc, nI_clamp, nI_eq, nI_ltI, nI_leI, nI_m1, hu_o, hu_k, hu_same, not_true_eq_false, not_false_eq_true] at z; first | done | omega)))
          | refine w_in rfl rfl ?_
          | refine w_end rfl rfl ?_
          | refine w_endY rfl rfl ?_ ?_
          | refine w_up ?_
      all_goals rfl
    · rcases ht with rfl | rfl | rfl | rfl | rfl
      all_goals
        repeat' first
          | refine g_st 114 92 rfl rfl rfl ?_
          | refine w_ca rfl rfl r3 ?_
          | refine w_ca rfl rfl p2 ?_
          | refine w_ca rfl rfl q2 ?_
          | refine g_no 114 92 rfl rfl rfl ?_ ?_
          | (refine g_br 114 92 rfl rfl rfl (fun z => ?_) (fun z => ?_) <;> try (first | (simp (disch := omega) only [h2, w2, kc, nI_clamp, nI_eq, nI_ltI, nI_leI, nI_m1, hu_o, hu_k, hu_same, not_true_eq_false, not_false_eq_true] at z; first | done | omega)))
          | refine w_in rfl rfl ?_
          | refine w_end rfl rfl ?_
          | refine w_endY rfl rfl ?_ ?_
          | refine w_up ?_
      all_goals refine j4 _ _ _ (fun w' => ?_)
      all_goals repeat' refine g_st 114 31 rfl rfl rfl ?_
      all_goals exact KB _
    · rcases ht with rfl | rfl | rfl | rfl | rfl
      all_goals
        repeat' first
          | refine g_st 114 92 rfl rfl rfl ?_
          | refine w_ca rfl rfl r3 ?_
          | refine w_ca rfl rfl p2 ?_
          | refine w_ca rfl rfl q2 ?_
          | refine g_no 114 92 rfl rfl rfl ?_ ?_
          | (refine g_br 114 92 rfl rfl rfl (fun z => ?_) (fun z => ?_) <;> try (first | (simp (disch := omega) only [h2, w2, kc, nI_clamp, nI_eq, nI_ltI, nI_leI, nI_m1, hu_o, hu_k, hu_same, not_true_eq_false, not_false_eq_true] at z; first | done | omega)))
          | refine w_in rfl rfl ?_
          | refine w_end rfl rfl ?_
          | refine w_endY rfl rfl ?_ ?_
          | refine w_up ?_
      all_goals refine j4 _ _ _ (fun w' => ?_)
      all_goals repeat' refine g_st 114 31 rfl rfl rfl ?_
      all_goals exact KB _
  · refine ⟨c, m, w_fin ?_, rfl, hR0, fun x y F KA KB => ⟨?_, fun w => ?_⟩⟩
    · rcases hpw with ⟨w1, w2⟩ | ⟨w1, w2⟩
      · have ht' : t = 0 ∨ t = 2 ∨ t = 6 ∨ t = 8 := by
          have : ¬ (t = 1 ∨ t = 3 ∨ t = 4 ∨ t = 5 ∨ t = 7) := fun z => hrun ⟨⟨w1, w2⟩, z⟩
          omega
        rcases ht' with rfl | rfl | rfl | rfl
        all_goals
          repeat' first
            | refine w_st rfl rfl ?_
            | refine w_no rfl rfl ?_ ?_
            | (refine w_br rfl rfl (fun z => ?_) (fun z => ?_) <;> try (first | (simp (disch := omega) only [h1, w1, kc, nI_clamp, nI_eq, nI_ltI, nI_leI, nI_m1, hu_o, hu_k, hu_same, not_true_eq_false, not_false_eq_true] at z; first | done | omega)))
            | refine w_in rfl rfl ?_
            | refine w_end rfl rfl ?_
            | refine w_endY rfl rfl ?_ ?_
            | refine w_up ?_
        all_goals rfl
      · skip
        repeat' first
          | refine w_st rfl rfl ?_
          | refine w_no rfl rfl ?_ ?_
          | (refine w_br rfl rfl (fun z => ?_) (fun z => ?_) <;> try (first | (simp (disch := omega) only [h1, w1, kc, nI_clamp, nI_eq, nI_ltI, nI_leI, nI_m1, hu_o, hu_k, hu_same, not_true_eq_false, not_false_eq_true] at z; first | done | omega)))
          | refine w_in rfl rfl ?_
          | refine w_end rfl rfl ?_
          | refine w_endY rfl rfl ?_ ?_
          | refine w_up ?_
        all_goals rfl
    · rcases hpw with ⟨w1, w2⟩ | ⟨w1, w2⟩
      · have ht' : t = 0 ∨ t = 2 ∨ t = 6 ∨ t = 8 := by
          have : ¬ (t = 1 ∨ t = 3 ∨ t = 4 ∨ t = 5 ∨ t = 7) := fun z => hrun ⟨⟨w1, w2⟩, z⟩
          omega
        rcases ht' with rfl | rfl | rfl | rfl
        all_goals
          repeat' first
            | refine g_st 114 31 rfl rfl rfl ?_
            | refine g_no 114 31 rfl rfl rfl ?_ ?_
            | (refine g_br 114 31 rfl rfl rfl (fun z => ?_) (fun z => ?_) <;> try (first | (simp (disch := omega) only [h2, w2, kc, nI_clamp, nI_eq, nI_ltI, nI_leI, nI_m1, hu_o, hu_k, hu_same, not_true_eq_false, not_false_eq_true] at z; first | done | omega)))
            | refine w_in rfl rfl ?_
            | refine w_end rfl rfl ?_
            | refine w_endY rfl rfl ?_ ?_
            | refine w_up ?_
        all_goals exact KA
      · skip
        repeat' first
          | refine g_st 114 31 rfl rfl rfl ?_
          | refine g_no 114 31 rfl rfl rfl ?_ ?_
          | (refine g_br 114 31 rfl rfl rfl (fun z => ?_) (fun z => ?_) <;> try (first | (simp (disch := omega) only [h2, w2, kc, nI_clamp, nI_eq, nI_ltI, nI_leI, nI_m1, hu_o, hu_k, hu_same, not_true_eq_false, not_false_eq_true] at z; first | done | omega)))
          | refine w_in rfl rfl ?_
          | refine w_end rfl rfl ?_
          | refine w_endY rfl rfl ?_ ?_
          | refine w_up ?_
        all_goals exact KA
    · rcases hpw with ⟨w1, w2⟩ | ⟨w1, w2⟩
      · have ht' : t = 0 ∨ t = 2 ∨ t = 6 ∨ t = 8 := by
          have : ¬ (t = 1 ∨ t = 3 ∨ t = 4 ∨ t = 5 ∨ t = 7) := fun z => hrun ⟨⟨w1, w2⟩, z⟩
          omega
        rcases ht' with rfl | rfl | rfl | rfl
        all_goals
          repeat' first
            | refine g_st 114 31 rfl rfl rfl ?_
            | refine g_no 114 31 rfl rfl rfl ?_ ?_
            | (refine g_br 114 31 rfl rfl rfl (fun z => ?_) (fun z => ?_) <;> try (first | (simp (disch := omega) only [h2, w2, kc, nI_clamp, nI_eq, nI_ltI, nI_leI, nI_m1, hu_o, hu_k, hu_same, not_true_eq_false, not_false_eq_true] at z; first | done | omega)))
            | refine w_in rfl rfl ?_
            | refine w_end rfl rfl ?_
            | refine w_endY rfl rfl ?_ ?_
            | refine w_up ?_
        all_goals exact KB _
      · skip
        repeat' first
          | refine g_st 114 31 rfl rfl rfl ?_
          | refine g_no 114 31 rfl rfl rfl ?_ ?_
          | (refine g_br 114 31 rfl rfl rfl (fun z => ?_) (fun z => ?_) <;> try (first | (simp (disch := omega) only [h2, w2, kc, nI_clamp, nI_eq, nI_ltI, nI_leI, nI_m1, hu_o, hu_k, hu_same, not_true_eq_false, not_false_eq_true] at z; first | done | omega)))
          | refine w_in rfl rfl ?_
          | refine w_end rfl rfl ?_
          | refine w_endY rfl rfl ?_ ?_
          | refine w_up ?_
        all_goals exact KB _
theorem step_loop (n : Nat) (hn : n ≤ 100) : ∀ (d k : Nat), k + d = n → ∀ c m, RR c m → m 30 0 = nI 0 → Wp 68 (21, [(2, .inl (nI k)), (0, .inr 0), (1, .inl (nI n))], [], c) (fun rc => Wp 114 (31, [(2, .inl (nI k)), (0, .inr 30), (1, .inl (nI n))], [], m) (fun rm => P_F [0] true rc rm)) ∧ ∀ w, Wp 68 (21, [(2, .inl (nI k)), (0, .inr 0), (1, .inl (nI n))], [], c) (fun rc => Wp 114 (31, [(2, .inl (nI k)), (3, .inl w), (0, .inr 30), (1, .inl (nI n))], [], m) (fun rm => P_F [0] true rc rm)) := by
  intro d
  induction d with
  | zero =>
    intro k hk c m hR hm
    obtain rfl : k = n := by omega
    obtain ⟨⟨t, ht, h1, h2⟩, _⟩ := hR.1
    have l1 : (nI k ≤ nI k) = True := eq_true ((nI_leI (by omega) (by omega)).mpr (Nat.le_refl _))
    refine ⟨?_, fun w => ?_⟩
    · skip
      repeat' first
        | refine w_st rfl rfl ?_
        | refine w_no rfl rfl ?_ ?_
        | (refine w_br rfl rfl (fun z => ?_) (fun z => ?_) <;> try (first | (simp (disch := omega) only [l1, kc, nI_clamp, nI_eq, nI_ltI, nI_leI, nI_m1, hu_o, hu_k, hu_same, not_true_eq_false, not_false_eq_true] at z; first | done | omega)))
        | refine w_in rfl rfl ?_
        | refine w_end rfl rfl ?_
        | refine w_endY rfl rfl ?_ ?_
        | refine w_up ?_
      all_goals try exact Or.inl rfl
      all_goals (refine f_r hR rfl ?_ hm; show some (c 0 7) = some (m 30 1); rw [h1, h2])
    · skip
      repeat' first
        | refine w_st rfl rfl ?_
        | refine w_no rfl rfl ?_ ?_
        | (refine w_br rfl rfl (fun z => ?_) (fun z => ?_) <;> try (first | (simp (disch := omega) only [l1, kc, nI_clamp, nI_eq, nI_ltI, nI_leI, nI_m1, hu_o, hu_k, hu_same, not_true_eq_false, not_false_eq_true] at z; first | done | omega)))
        | refine w_in rfl rfl ?_
        | refine w_end rfl rfl ?_
        | refine w_endY rfl rfl ?_ ?_
        | refine w_up ?_
      all_goals try exact Or.inl rfl
      all_goals (refine f_r hR rfl ?_ hm; show some (c 0 7) = some (m 30 1); rw [h1, h2])
  | succ d ih =>
    intro k hk c m hR hm
    obtain ⟨c', m', r1, r2, r3, r4⟩ := once2 hR
    have l1 : (nI n ≤ nI k) = False := eq_false (fun z => by rw [nI_leI (by omega) (by omega)] at z; omega)
    obtain ⟨iA, iB⟩ := ih (k + 1) (by omega) c' m' r3 (r2.trans hm)
    have e1 : nI k + Int32.ofInt 1 = nI (k + 1) := nI_add k 1
    refine ⟨?_, fun w => ?_⟩
    · refine w_st rfl rfl ?_
      refine w_st rfl rfl ?_
      refine w_br rfl rfl (fun z => absurd z (of_eq_false l1)) (fun _ => ?_)
      refine w_st rfl rfl ?_
      refine w_ca rfl rfl r1 ?_
      refine w_st rfl rfl ?_
      refine w_st rfl rfl ?_
      refine w_sw ?_
      refine w_st rfl rfl ?_
      refine w_st rfl rfl ?_
      refine w_br rfl rfl (fun z => absurd z (of_eq_false l1)) (fun _ => ?_)
      refine (r4 _ _ _ ?_ (fun w' => ?_)).1
      · refine w_sw ?_
        rw [e1]
        exact iA
      · refine w_sw ?_
        rw [e1]
        exact iB w'
    · refine w_st rfl rfl ?_
      refine w_st rfl rfl ?_
      refine w_br rfl rfl (fun z => absurd z (of_eq_false l1)) (fun _ => ?_)
      refine w_st rfl rfl ?_
      refine w_ca rfl rfl r1 ?_
      refine w_st rfl rfl ?_
      refine w_st rfl rfl ?_
      refine w_sw ?_
      refine w_st rfl rfl ?_
      refine w_st rfl rfl ?_
      refine w_br rfl rfl (fun z => absurd z (of_eq_false l1)) (fun _ => ?_)
      refine (r4 _ _ _ ?_ (fun w' => ?_)).2 w
      · refine w_sw ?_
        rw [e1]
        exact iA
      · refine w_sw ?_
        rw [e1]
        exact iB w'
set_option maxHeartbeats 2000000 in
theorem o_step (x : Int32) : P_W RR 68 114 [0] true [.inl x] := by
  refine P_Wof fun c m hR => ?_
  have hR0 := hR
  rcases ixK x 100 (by decide) with e1 | ⟨e1, e2, e3⟩ | ⟨j, hj1, hj2, rfl⟩
  · unfold P_run
    repeat' first
      | refine w_st rfl rfl ?_
      | refine w_no rfl rfl ?_ ?_
      | (refine w_br rfl rfl (fun z => ?_) (fun z => ?_) <;> try (first | contradiction | (simp (disch := omega) only [e1, kc, nI_clamp, nI_eq, nI_ltI, nI_leI, nI_m1, hu_o, hu_k, hu_same, not_true_eq_false, not_false_eq_true] at z; first | done | omega)))
      | refine w_in rfl rfl ?_
      | refine w_end rfl rfl ?_
      | refine w_endY rfl rfl ?_ ?_
      | refine w_up ?_
    all_goals try exact f_x 0 hR0 rfl rfl rfl
  · have e4 := e3 100 (Nat.le_refl _)
    unfold P_run
    repeat' first
      | refine w_st rfl rfl ?_
      | refine w_no rfl rfl ?_ ?_
      | (refine w_br rfl rfl (fun z => ?_) (fun z => ?_) <;> try (first | contradiction | (simp (disch := omega) only [e1, e2, e4, kc, nI_clamp, nI_eq, nI_ltI, nI_leI, nI_m1, hu_o, hu_k, hu_same, not_true_eq_false, not_false_eq_true] at z; first | done | omega)))
      | refine w_in rfl rfl ?_
      | refine w_end rfl rfl ?_
      | refine w_endY rfl rfl ?_ ?_
      | refine w_up ?_
    all_goals try exact f_x 0 hR0 rfl rfl rfl
  · have l1 : (nI j < nI 1) = False := eq_false (fun z => by rw [nI_ltI (by omega) (by omega)] at z; omega)
    have l2 : (nI j ≤ nI 100) = True := eq_true ((nI_leI (by omega) (by omega)).mpr hj2)
    unfold P_run
    repeat' first
      | refine g_st 68 21 rfl rfl rfl ?_
      | refine g_no 68 21 rfl rfl rfl ?_ ?_
      | (refine g_br 68 21 rfl rfl rfl (fun z => ?_) (fun z => ?_) <;> try (first | contradiction | (simp (disch := omega) only [l1, l2, kc, nI_clamp, nI_eq, nI_ltI, nI_leI, nI_m1, hu_o, hu_k, hu_same, not_true_eq_false, not_false_eq_true] at z; first | done | omega)))
      | refine w_in rfl rfl ?_
      | refine w_end rfl rfl ?_
      | refine w_endY rfl rfl ?_ ?_
      | refine w_up ?_
    refine w_sw ?_
    repeat' first
      | refine g_st 114 31 rfl rfl rfl ?_
      | refine g_no 114 31 rfl rfl rfl ?_ ?_
      | (refine g_br 114 31 rfl rfl rfl (fun z => ?_) (fun z => ?_) <;> try (first | contradiction | (simp (disch := omega) only [l1, l2, kc, nI_clamp, nI_eq, nI_ltI, nI_leI, nI_m1, hu_o, hu_k, hu_same, not_true_eq_false, not_false_eq_true] at z; first | done | omega)))
      | refine w_in rfl rfl ?_
      | refine w_end rfl rfl ?_
      | refine w_endY rfl rfl ?_ ?_
      | refine w_up ?_
    refine w_sw ?_
    exact (step_loop j hj2 j 0 (by omega) c _ (show RR c (hu m 30 0 (Int32.ofInt 0)) from hR0) rfl).1
