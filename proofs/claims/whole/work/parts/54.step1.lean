/-! A STEP OF THE BELT AT ONE SEGMENT (written by wip/whole/g54.py). -/
theorem gf_a {g : Nat} (hg : g ≤ 8) (h : HP) : Ec 94 [.inl (nI g)] h (.inl (some (qGf g)), h) := by
  rcases (show g = 0 ∨ 1 ≤ g by omega) with rfl | h1
  · exact gf_0 h
  · exact gf_s g h1 hg h
set_option maxHeartbeats 2000000 in
theorem adv2 {b : Nat} {c m : HP} (hR : RRb b c m) {s x k g : Nat} (hs : s < 10) (hk : k ≤ 5) (hg : g ≤ 8) (hn : r_nt c m s k g 0) (h0 : s < 9 → c 5 (s + 1) = -1 → g = 0 → s = 0 ∧ 1 < b) : ∃ c' m', Ec 16 [.inr 3, .inl (nI s)] c (.inl none, c') ∧ RRb b c' m' ∧ m' 30 0 = m 30 0 ∧ (∀ F, Wp 109 (133, [(2, .inl (nI s)), (1, .inl (nI x)), (0, .inr 30)], [], m') F → Wp 109 (68, [(2, .inl (nI s)), (1, .inl (nI x)), (0, .inr 30)], [], m) F) := by
  have hn0 := hn
  obtain ⟨b1, b2, b3, b4, b5, b6⟩ := hn
  have ec : (nI s).toNatClampNeg = s := nI_clamp (by omega)
  have em : (nI k = -1) = False := nI_m1 (by omega)
  by_cases h9 : s < 9
  · have ec1 : (nI (s + 1)).toNatClampNeg = s + 1 := nI_clamp (by omega)
    rcases hR.2.2.1 (s + 1) (by omega) with ⟨q1, q2, q3, q4⟩ | ⟨k', g', y', hk', hg', hy', hgs', d1, d2, d3, d4, d5, d6⟩
    · have h00 := h0 h9 q1
      have e1 := c_adv1 h9 hg b3 q1
      rw [b1, b3] at e1
      have e2 : Ec 107 [.inr 30, .inl (nI s + Int32.ofInt 1), .inl (m 32 (nI s).toNatClampNeg), .inl (m 33 (nI s).toNatClampNeg)] m (.inl none, mP m (s + 1) (nI k) (nI g)) := by
        simp only [kc, nI_add, ec, b2, b4]
        exact m_put (by omega)
      have hR1 := RR_put hR (s := s + 1) (by omega) hk hg (fun z => by have := h00 z; omega) ⟨q1, q2, q3, q4⟩
      have hR2 := RR_clear hR1 (s := s) (k := k) (g := g) (t := 0) hs hg (by decide) ⟨by simp [cP, hu, b1], by simp [mP, hu, b2], by simp [cP, hu, b3], by simp [mP, hu, b4], b5, by simp [mP, hu, b6]⟩
      refine ⟨_, _, e1, hR2, rfl, fun F K => ?_⟩
      have g2 : mP m (s + 1) (nI k) (nI g) 33 (s + 1) = nI g := by simp [mP, hu]
      by_cases s1 : s = 1
      · subst s1
        have hg0 : g ≠ 0 := fun z => by have := h00 z; omega
        have e22 : (nI 2).toNatClampNeg = 2 := by decide
        repeat' first
          | refine g_st 109 133 rfl rfl rfl ?_
          | refine w_ca rfl rfl e2 ?_
          | refine g_no 109 133 rfl rfl rfl ?_ ?_
          | (refine g_br 109 133 rfl rfl rfl (fun z => ?_) (fun z => ?_) <;> try (first | contradiction | (simp (disch := omega) only [ec, ec1, q2, nI_add, g2, e22, kc, nI_eq, nI_ltI, nI_leI, nI_m1, hu_o, hu_k, hu_same, not_true_eq_false, not_false_eq_true] at z; first | done | omega)))
          | refine w_in rfl rfl ?_
          | refine w_end rfl rfl ?_
          | refine w_endY rfl rfl ?_ ?_
          | refine w_up ?_
        all_goals try (intro z; simp (disch := omega) only [ec, ec1, q2, nI_add, g2, e22, nI_clamp, kc, nI_ltI, hu_o, hu_k, hu_same, false_or] at z <;> omega)
        all_goals (simp only [ec, kc]; exact K)
      · skip
        repeat' first
          | refine g_st 109 133 rfl rfl rfl ?_
          | refine w_ca rfl rfl e2 ?_
          | refine g_no 109 133 rfl rfl rfl ?_ ?_
          | (refine g_br 109 133 rfl rfl rfl (fun z => ?_) (fun z => ?_) <;> try (first | contradiction | (simp (disch := omega) only [ec, ec1, q2, nI_add, kc, nI_eq, nI_ltI, nI_leI, nI_m1, hu_o, hu_k, hu_same, not_true_eq_false, not_false_eq_true] at z; first | done | omega)))
          | refine w_in rfl rfl ?_
          | refine w_end rfl rfl ?_
          | refine w_endY rfl rfl ?_ ?_
          | refine w_up ?_
        all_goals try (intro z; simp (disch := omega) only [ec, ec1, q2, nI_add, nI_clamp, kc, nI_ltI, hu_o, hu_k, hu_same, false_or] at z <;> omega)
        all_goals (simp only [ec, kc]; exact K)
    · have n1 : (nI k' = -1) = False := nI_m1 (by omega)
      refine ⟨c, m, c_adv0 hs (fun _ => by rw [d3]; exact of_eq_false (nI_m1 (by omega))), hR, rfl, fun F K => ?_⟩
      repeat' first
        | refine g_st 109 133 rfl rfl rfl ?_
        | refine g_no 109 133 rfl rfl rfl ?_ ?_
        | (refine g_br 109 133 rfl rfl rfl (fun z => ?_) (fun z => ?_) <;> try (first | contradiction | (simp (disch := omega) only [ec, ec1, d2, n1, nI_add, kc, nI_eq, nI_ltI, nI_leI, nI_m1, hu_o, hu_k, hu_same, not_true_eq_false, not_false_eq_true] at z; first | done | omega)))
        | refine w_in rfl rfl ?_
        | refine w_end rfl rfl ?_
        | refine w_endY rfl rfl ?_ ?_
        | refine w_up ?_
      all_goals try (intro z; simp (disch := omega) only [ec, ec1, d2, n1, nI_add, nI_clamp, kc, nI_ltI, hu_o, hu_k, hu_same, false_or] at z <;> omega)
      all_goals exact K
  · obtain rfl : s = 9 := by omega
    refine ⟨c, m, c_adv0 hs (fun z => absurd z (by decide)), hR, rfl, fun F K => ?_⟩
    repeat' first
      | refine g_st 109 133 rfl rfl rfl ?_
      | refine g_no 109 133 rfl rfl rfl ?_ ?_
      | (refine g_br 109 133 rfl rfl rfl (fun z => ?_) (fun z => ?_) <;> try (first | contradiction | (simp (disch := omega) only [kc, nI_eq, nI_ltI, nI_leI, nI_m1, hu_o, hu_k, hu_same, not_true_eq_false, not_false_eq_true] at z; first | done | omega)))
      | refine w_in rfl rfl ?_
      | refine w_end rfl rfl ?_
      | refine w_endY rfl rfl ?_ ?_
      | refine w_up ?_
    all_goals exact K
set_option maxHeartbeats 2000000 in
theorem mn2 {b : Nat} {c m : HP} (hR : RRb b c m) {s x k g : Nat} (hs : s < 10) (hk : k ≤ 5) (hg : g ≤ 8) (hn : r_nt c m s k g 0) (h0 : s < 9 → c 5 (s + 1) = -1 → g = 0 → s = 0 ∧ 1 < b) : ∃ c' m', Ec 56 [.inr 0, .inl (nI s)] c (.inl none, c') ∧ RRb b c' m' ∧ m' 30 0 = m 30 0 ∧ (∀ F, Wp 109 (133, [(2, .inl (nI s)), (1, .inl (nI x)), (0, .inr 30)], [], m') F → Wp 109 (36, [(2, .inl (nI s)), (1, .inl (nI x)), (0, .inr 30)], [], m) F) := by
  have hn0 := hn
  obtain ⟨b1, b2, b3, b4, b5, b6⟩ := hn
  have ec : (nI s).toNatClampNeg = s := nI_clamp (by omega)
  have sg : Ec 94 [.inl (m 33 (nI s).toNatClampNeg)] m (.inl (some (qGf g)), m) := by
    rw [ec, b4]
    exact gf_a hg m
  have at1 := c_atG hs hg b3
  by_cases hq : qGf g = nI s
  · have a1 := at1.1 hq
    have hq' : (qGf g = nI s) = True := eq_true hq
    have hg1 : 1 ≤ g := by
      rcases (show g = 0 ∨ 1 ≤ g by omega) with rfl | h
      · exact absurd hq.symm (of_eq_false (nI_m1 (by omega)))
      · exact h
    rcases go2 hR hs hk hg1 hg hq hn0 with ⟨c1, m1, g1, g2, g3, g4, g5⟩ | ⟨h5, g1, g2⟩
    · have g1' : Ec 55 [.inr 0, .inl (c 4 (nI s).toNatClampNeg), .inl (c 5 (nI s).toNatClampNeg)] c (.inl (some (nI 1)), c1) := by
        rw [ec, b1, b3]; exact g1
      have cl := c_clr (c := c1) hs hg g4.2.2.1
      refine ⟨cC c1 s, hu m1 32 s (-1), w_fin ?_, RR_clear g3 hs hg (by decide) g4, g5, fun F K => ?_⟩
      · skip
        repeat' first
          | refine w_st rfl rfl ?_
          | refine w_ca rfl rfl a1 ?_
          | refine w_ca rfl rfl g1' ?_
          | refine w_ca rfl rfl cl ?_
          | refine w_no rfl rfl ?_ ?_
          | (refine w_br rfl rfl (fun z => ?_) (fun z => ?_) <;> try (first | contradiction | (simp (disch := omega) only [ec, kc, nI_eq, nI_ltI, nI_leI, nI_m1, hu_o, hu_k, hu_same, not_true_eq_false, not_false_eq_true] at z; first | done | omega)))
          | refine w_in rfl rfl ?_
          | refine w_end rfl rfl ?_
          | refine w_endY rfl rfl ?_ ?_
          | refine w_up ?_
        all_goals try (intro z; simp (disch := omega) only [ec, nI_clamp, kc, nI_ltI, hu_o, hu_k, hu_same, false_or] at z <;> omega)
        all_goals rfl
      · skip
        repeat' first
          | refine g_st 109 133 rfl rfl rfl ?_
          | refine w_ca rfl rfl sg ?_
          | refine w_ca rfl rfl g2 ?_
          | refine g_no 109 133 rfl rfl rfl ?_ ?_
          | (refine g_br 109 133 rfl rfl rfl (fun z => ?_) (fun z => ?_) <;> try (first | contradiction | (simp (disch := omega) only [ec, hq', kc, nI_eq, nI_ltI, nI_leI, nI_m1, hu_o, hu_k, hu_same, not_true_eq_false, not_false_eq_true] at z; first | done | omega)))
          | refine w_in rfl rfl ?_
          | refine w_end rfl rfl ?_
          | refine w_endY rfl rfl ?_ ?_
          | refine w_up ?_
        all_goals try (intro z; simp (disch := omega) only [ec, hq', nI_clamp, kc, nI_ltI, hu_o, hu_k, hu_same, false_or] at z <;> omega)
        all_goals exact K
    · have g1' : Ec 55 [.inr 0, .inl (c 4 (nI s).toNatClampNeg), .inl (c 5 (nI s).toNatClampNeg)] c (.inl (some (nI 0)), c) := by
        rw [ec, b1, b3]; exact g1
      have hR1 := RR_goal (g' := 7) hR hs hk hg (by decide) (by decide) (fun z => absurd z (by decide)) hn0
      obtain ⟨c', m', w1, w2, w3, w4⟩ := adv2 (x := x) (k := k) (g := 7) hR1 hs hk (by decide) ⟨b1, b2, by simp [hu], by simp [hu], b5, b6⟩ (fun _ _ z => absurd z (by decide))
      have w1' : Ec 16 [.inr 3, .inl (nI s)] (hu c 5 (nI s).toNatClampNeg (Int8.ofInt 7).toInt32) (.inl none, c') := by
        rw [ec]; exact w1
      refine ⟨c', m', w_fin ?_, w2, w3, fun F K => ?_⟩
      · skip
        repeat' first
          | refine w_st rfl rfl ?_
          | refine w_ca rfl rfl a1 ?_
          | refine w_ca rfl rfl g1' ?_
          | refine w_ca rfl rfl w1' ?_
          | refine w_no rfl rfl ?_ ?_
          | (refine w_br rfl rfl (fun z => ?_) (fun z => ?_) <;> try (first | contradiction | (simp (disch := omega) only [ec, kc, nI_eq, nI_ltI, nI_leI, nI_m1, hu_o, hu_k, hu_same, not_true_eq_false, not_false_eq_true] at z; first | done | omega)))
          | refine w_in rfl rfl ?_
          | refine w_end rfl rfl ?_
          | refine w_endY rfl rfl ?_ ?_
          | refine w_up ?_
        all_goals try (intro z; simp (disch := omega) only [ec, nI_clamp, kc, nI_ltI, hu_o, hu_k, hu_same, false_or] at z <;> omega)
        all_goals rfl
      · skip
        repeat' first
          | refine g_st 109 68 rfl rfl rfl ?_
          | refine w_ca rfl rfl sg ?_
          | refine w_ca rfl rfl g2 ?_
          | refine g_no 109 68 rfl rfl rfl ?_ ?_
          | (refine g_br 109 68 rfl rfl rfl (fun z => ?_) (fun z => ?_) <;> try (first | contradiction | (simp (disch := omega) only [ec, hq', kc, nI_eq, nI_ltI, nI_leI, nI_m1, hu_o, hu_k, hu_same, not_true_eq_false, not_false_eq_true] at z; first | done | omega)))
          | refine w_in rfl rfl ?_
          | refine w_end rfl rfl ?_
          | refine w_endY rfl rfl ?_ ?_
          | refine w_up ?_
        all_goals try (intro z; simp (disch := omega) only [ec, hq', nI_clamp, kc, nI_ltI, hu_o, hu_k, hu_same, false_or] at z <;> omega)
        all_goals (rw [ec]; exact w4 F K)
  · have a1 := at1.2 hq
    have hq' : (qGf g = nI s) = False := eq_false hq
    obtain ⟨c', m', w1, w2, w3, w4⟩ := adv2 (x := x) hR hs hk hg hn0 h0
    refine ⟨c', m', w_fin ?_, w2, w3, fun F K => ?_⟩
    · skip
      repeat' first
        | refine w_st rfl rfl ?_
        | refine w_ca rfl rfl a1 ?_
        | refine w_ca rfl rfl w1 ?_
        | refine w_no rfl rfl ?_ ?_
        | (refine w_br rfl rfl (fun z => ?_) (fun z => ?_) <;> try (first | contradiction | (simp (disch := omega) only [ec, kc, nI_eq, nI_ltI, nI_leI, nI_m1, hu_o, hu_k, hu_same, not_true_eq_false, not_false_eq_true] at z; first | done | omega)))
        | refine w_in rfl rfl ?_
        | refine w_end rfl rfl ?_
        | refine w_endY rfl rfl ?_ ?_
        | refine w_up ?_
      all_goals try (intro z; simp (disch := omega) only [ec, nI_clamp, kc, nI_ltI, hu_o, hu_k, hu_same, false_or] at z <;> omega)
      all_goals rfl
    · skip
      repeat' first
        | refine g_st 109 68 rfl rfl rfl ?_
        | refine w_ca rfl rfl sg ?_
        | refine g_no 109 68 rfl rfl rfl ?_ ?_
        | (refine g_br 109 68 rfl rfl rfl (fun z => ?_) (fun z => ?_) <;> try (first | contradiction | (simp (disch := omega) only [ec, hq', kc, nI_eq, nI_ltI, nI_leI, nI_m1, hu_o, hu_k, hu_same, not_true_eq_false, not_false_eq_true] at z; first | done | omega)))
        | refine w_in rfl rfl ?_
        | refine w_end rfl rfl ?_
        | refine w_endY rfl rfl ?_ ?_
        | refine w_up ?_
      all_goals try (intro z; simp (disch := omega) only [ec, hq', nI_clamp, kc, nI_ltI, hu_o, hu_k, hu_same, false_or] at z <;> omega)
      all_goals exact w4 F K
set_option maxHeartbeats 2000000 in
theorem it2 {b : Nat} {c m : HP} (hR : RRb b c m) {s x : Nat} (hs : s < 10) (hx : x ≤ 1) (h0 : ∀ k, r_nt c m s k 0 0 → s < 9 → c 5 (s + 1) = -1 → s = 0 ∧ 1 < b) : ∃ c' m' y, y ≤ 1 ∧ RRb b c' m' ∧ m' 30 0 = m 30 0 ∧ (∀ F, Wp 57 (5, [(2, .inl (nI s + Int32.ofInt (-1))), (1, .inl (nI y)), (0, .inr 0)], [], c') F → Wp 57 (5, [(2, .inl (nI s)), (1, .inl (nI x)), (0, .inr 0)], [], c) F) ∧ (∀ F, Wp 109 (5, [(2, .inl (nI s + Int32.ofInt (-1))), (1, .inl (nI y)), (0, .inr 30)], [], m') F → Wp 109 (5, [(2, .inl (nI s)), (1, .inl (nI x)), (0, .inr 30)], [], m) F) := by
  have ec : (nI s).toNatClampNeg = s := nI_clamp (by omega)
  have hl : (nI s < nI 0) = False := eq_false (fun z => by rw [nI_ltI (by omega) (by omega)] at z; omega)
  rcases hR.2.2.1 s hs with ⟨q1, q2, q3, q4⟩ | ⟨k, g, t, hk, hg, ht, hgs, hn⟩
  · refine ⟨c, m, x, hx, hR, rfl, fun F K => ?_, fun F K => ?_⟩
    · skip
      refine w_st rfl rfl ?_
      refine w_br rfl rfl (fun z => absurd z (of_eq_false hl)) (fun _ => ?_)
      repeat' first
        | refine g_st 57 5 rfl rfl rfl ?_
        | refine g_no 57 5 rfl rfl rfl ?_ ?_
        | (refine g_br 57 5 rfl rfl rfl (fun z => ?_) (fun z => ?_) <;> try (first | contradiction | (simp (disch := omega) only [ec, q1, q2, q3, kc, nI_eq, nI_ltI, nI_leI, nI_m1, hu_o, hu_k, hu_same, not_true_eq_false, not_false_eq_true] at z; first | done | omega)))
        | refine w_in rfl rfl ?_
        | refine w_end rfl rfl ?_
        | refine w_endY rfl rfl ?_ ?_
        | refine w_up ?_
      all_goals try (intro z; simp (disch := omega) only [ec, q1, q2, q3, nI_clamp, kc, nI_ltI, hu_o, hu_k, hu_same, false_or] at z <;> omega)
      all_goals try (right; rw [ec, q3]; exact Or.inl rfl)
      all_goals exact K
    · skip
      refine w_st rfl rfl ?_
      refine w_br rfl rfl (fun z => absurd z (of_eq_false hl)) (fun _ => ?_)
      repeat' first
        | refine g_st 109 5 rfl rfl rfl ?_
        | refine g_no 109 5 rfl rfl rfl ?_ ?_
        | (refine g_br 109 5 rfl rfl rfl (fun z => ?_) (fun z => ?_) <;> try (first | contradiction | (simp (disch := omega) only [ec, q1, q2, q3, kc, nI_eq, nI_ltI, nI_leI, nI_m1, hu_o, hu_k, hu_same, not_true_eq_false, not_false_eq_true] at z; first | done | omega)))
        | refine w_in rfl rfl ?_
        | refine w_end rfl rfl ?_
        | refine w_endY rfl rfl ?_ ?_
        | refine w_up ?_
      all_goals try (intro z; simp (disch := omega) only [ec, q1, q2, q3, nI_clamp, kc, nI_ltI, hu_o, hu_k, hu_same, false_or] at z <;> omega)
      all_goals try (right; rw [ec, q3]; exact Or.inl rfl)
      all_goals exact K
  · have em : (nI k = -1) = False := nI_m1 (by omega)
    have en : (nI g = -1) = False := nI_m1 (by omega)
    have hn0 := hn
    obtain ⟨b1, b2, b3, b4, b5, b6⟩ := hn
    rcases (show t = 1 ∨ t = 0 by omega) with rfl | rfl
    · refine ⟨c, m, 1, by decide, hR, rfl, fun F K => ?_, fun F K => ?_⟩
      · skip
        refine w_st rfl rfl ?_
        refine w_br rfl rfl (fun z => absurd z (of_eq_false hl)) (fun _ => ?_)
        repeat' first
          | refine g_st 57 5 rfl rfl rfl ?_
          | refine g_no 57 5 rfl rfl rfl ?_ ?_
          | (refine g_br 57 5 rfl rfl rfl (fun z => ?_) (fun z => ?_) <;> try (first | contradiction | (simp (disch := omega) only [ec, b2, b3, b5, b6, em, en, kc, nI_eq, nI_ltI, nI_leI, nI_m1, hu_o, hu_k, hu_same, not_true_eq_false, not_false_eq_true] at z; first | done | omega)))
          | refine w_in rfl rfl ?_
          | refine w_end rfl rfl ?_
          | refine w_endY rfl rfl ?_ ?_
          | refine w_up ?_
        all_goals try (intro z; simp (disch := omega) only [ec, b2, b3, b5, b6, em, en, nI_clamp, kc, nI_ltI, hu_o, hu_k, hu_same, false_or] at z <;> omega)
        all_goals try (right; rw [ec, b5]; exact Or.inr rfl)
        all_goals exact K
      · skip
        refine w_st rfl rfl ?_
        refine w_br rfl rfl (fun z => absurd z (of_eq_false hl)) (fun _ => ?_)
        repeat' first
          | refine g_st 109 5 rfl rfl rfl ?_
          | refine g_no 109 5 rfl rfl rfl ?_ ?_
          | (refine g_br 109 5 rfl rfl rfl (fun z => ?_) (fun z => ?_) <;> try (first | contradiction | (simp (disch := omega) only [ec, b2, b3, b5, b6, em, en, kc, nI_eq, nI_ltI, nI_leI, nI_m1, hu_o, hu_k, hu_same, not_true_eq_false, not_false_eq_true] at z; first | done | omega)))
          | refine w_in rfl rfl ?_
          | refine w_end rfl rfl ?_
          | refine w_endY rfl rfl ?_ ?_
          | refine w_up ?_
        all_goals try (intro z; simp (disch := omega) only [ec, b2, b3, b5, b6, em, en, nI_clamp, kc, nI_ltI, hu_o, hu_k, hu_same, false_or] at z <;> omega)
        all_goals try (right; rw [ec, b5]; exact Or.inr rfl)
        all_goals exact K
    · obtain ⟨c', m', w1, w2, w3, w4⟩ := mn2 (x := x) hR hs hk hg hn0 (fun z1 z2 z3 => by subst z3; exact h0 k hn0 z1 z2)
      refine ⟨c', m', x, hx, w2, w3, fun F K => ?_, fun F K => ?_⟩
      · skip
        refine w_st rfl rfl ?_
        refine w_br rfl rfl (fun z => absurd z (of_eq_false hl)) (fun _ => ?_)
        repeat' first
          | refine g_st 57 5 rfl rfl rfl ?_
          | refine w_ca rfl rfl w1 ?_
          | refine g_no 57 5 rfl rfl rfl ?_ ?_
          | (refine g_br 57 5 rfl rfl rfl (fun z => ?_) (fun z => ?_) <;> try (first | contradiction | (simp (disch := omega) only [ec, b2, b3, b5, b6, em, en, kc, nI_eq, nI_ltI, nI_leI, nI_m1, hu_o, hu_k, hu_same, not_true_eq_false, not_false_eq_true] at z; first | done | omega)))
          | refine w_in rfl rfl ?_
          | refine w_end rfl rfl ?_
          | refine w_endY rfl rfl ?_ ?_
          | refine w_up ?_
        all_goals try (intro z; simp (disch := omega) only [ec, b2, b3, b5, b6, em, en, nI_clamp, kc, nI_ltI, hu_o, hu_k, hu_same, false_or] at z <;> omega)
        all_goals try (right; rw [ec, b5]; exact Or.inl rfl)
        all_goals exact K
      · skip
        refine w_st rfl rfl ?_
        refine w_br rfl rfl (fun z => absurd z (of_eq_false hl)) (fun _ => ?_)
        repeat' first
          | refine g_st 109 36 rfl rfl rfl ?_
          | refine g_no 109 36 rfl rfl rfl ?_ ?_
          | (refine g_br 109 36 rfl rfl rfl (fun z => ?_) (fun z => ?_) <;> try (first | contradiction | (simp (disch := omega) only [ec, b2, b3, b5, b6, em, en, kc, nI_eq, nI_ltI, nI_leI, nI_m1, hu_o, hu_k, hu_same, not_true_eq_false, not_false_eq_true] at z; first | done | omega)))
          | refine w_in rfl rfl ?_
          | refine w_end rfl rfl ?_
          | refine w_endY rfl rfl ?_ ?_
          | refine w_up ?_
        all_goals try (intro z; simp (disch := omega) only [ec, b2, b3, b5, b6, em, en, nI_clamp, kc, nI_ltI, hu_o, hu_k, hu_same, false_or] at z <;> omega)
        refine w4 F ?_
        repeat' refine g_st 109 5 rfl rfl rfl ?_
        exact K
