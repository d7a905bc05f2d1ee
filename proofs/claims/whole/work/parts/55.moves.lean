/-! THE BELT MOVES AND THE JUDGE JUDGES (written by wip/whole/g55.py). -/
theorem mv_down : ∀ n, n ≤ 8 → ∀ (c m : HP) (x : Nat), RR c m → x ≤ 1 → ∃ c' m' y, y ≤ 1 ∧ RR c' m' ∧ m' 30 0 = m 30 0 ∧ (∀ F, Wp 57 (5, [(2, .inl (nI 1)), (1, .inl (nI y)), (0, .inr 0)], [], c') F → Wp 57 (5, [(2, .inl (nI (n + 1))), (1, .inl (nI x)), (0, .inr 0)], [], c) F) ∧ (∀ F, Wp 109 (5, [(2, .inl (nI 1)), (1, .inl (nI y)), (0, .inr 30)], [], m') F → Wp 109 (5, [(2, .inl (nI (n + 1))), (1, .inl (nI x)), (0, .inr 30)], [], m) F) := by
  intro n
  induction n with
  | zero => exact fun _ c m x hR hx => ⟨c, m, x, hx, hR, rfl, fun F K => K, fun F K => K⟩
  | succ n ih =>
    intro hn c m x hR hx
    obtain ⟨c1, m1, y1, a1, a2, a3, a4, a5⟩ := it2 (b := 2) hR (s := n + 1 + 1) (x := x) (by omega) hx (fun k hk0 _ _ => by
      exfalso
      rcases hR.2.2.1 (n + 1 + 1) (by omega) with ⟨q1, q2, q3, q4⟩ | ⟨k, g, t, hk, hg, ht, hgs, b1, b2, b3, b4, b5, b6⟩
      · have := hk0.2.2.1.symm.trans q1
        exact absurd this (by decide)
      · have := (nI_eq (by omega) (by omega)).mp (b3.symm.trans hk0.2.2.1)
        have := hgs this
        omega)
    obtain ⟨c2, m2, y2, d1, d2, d3, d4, d5⟩ := ih (by omega) c1 m1 y1 a2 a1
    have e : nI (n + 1 + 1) + Int32.ofInt (-1) = nI (n + 1) := nI_dec (n + 1)
    rw [e] at a4 a5
    exact ⟨c2, m2, y2, d1, d2, d3.trans a3, fun F K => a4 F (d4 F K), fun F K => a5 F (d5 F K)⟩
theorem mJ_a (m : HP) : mJ m 30 0 = m 30 0 ∧ (∀ b, b ≠ 2 → mJ m 32 b = m 32 b) ∧ (∀ b, b ≠ 2 → mJ m 33 b = m 33 b) ∧ (∀ b, mJ m 34 b = m 34 b) := by
  have v : mV m 30 0 = m 30 0 ∧ (∀ b, mV m 32 b = m 32 b) ∧ (∀ b, mV m 33 b = m 33 b) ∧ (∀ b, mV m 34 b = m 34 b) := by
    simp only [mV]
    split
    · exact ⟨rfl, fun _ => rfl, fun _ => rfl, fun _ => rfl⟩
    · exact ⟨rfl, fun _ => rfl, fun _ => rfl, fun _ => rfl⟩
  obtain ⟨v1, v2, v3, v4⟩ := v
  simp only [mJ, mK]
  split
  · refine ⟨v1, fun b _ => v2 b, fun b hb => ?_, fun b => v4 b⟩
    rw [hu_k hb]
    exact v3 b
  · refine ⟨v1, fun b hb => ?_, fun b hb => ?_, fun b => v4 b⟩
    · rw [hu_o (by decide), hu_o (by decide), hu_k hb]
      exact v2 b
    · rw [hu_o (by decide), hu_k hb]
      exact v3 b
/-- the judge and the step of the first segment do not meet -/
theorem mJ_comm (m : HP) (k g : Int32) : hu (mP (mJ m) 1 k g) 32 0 (-1) = mJ (hu (mP m 1 k g) 32 0 (-1)) := by
  have hA : ∀ h : HP, (hu (mP h 1 k g) 32 0 (-1)) 30 7 = h 30 7 ∧ (hu (mP h 1 k g) 32 0 (-1)) 31 = h 31 ∧ (hu (mP h 1 k g) 32 0 (-1)) 44 = h 44 := fun h => ⟨rfl, rfl, rfl⟩
  have e1 : vJ (hu (mP m 1 k g) 32 0 (-1)) = vJ m := rfl
  have e2 : mV (hu (mP m 1 k g) 32 0 (-1)) = hu (mP (mV m) 1 k g) 32 0 (-1) := by
    simp only [mV]
    show (if m 30 7 ≤ nI 0 then _ else _) = _
    split
    · rfl
    · show shf (hu (hu (mP m 1 k g) 32 0 (-1)) 30 7 (m 30 7 - nI 1)) (m 30 7 - nI 1).toNatClampNeg = _
      funext a b
      simp only [shf, mP, hu]
      by_cases h1 : a = 31
      · subst h1; simp
      · by_cases h2 : a = 30
        · subst h2; simp
        · simp only [h1, h2, if_false]
  rw [mJ, mJ, e1, e2]
  generalize vJ m = v
  generalize mV m = M
  simp only [mK]
  show _ = if v ≤ nI 0 ∨ nI 6 ≤ v then _ else hu _ 44 _ (M 44 v.toNatClampNeg + nI 1)
  split
  · funext a b
    simp only [mP, hu]
    by_cases h1 : a = 33
    · subst h1
      by_cases h2 : b = 2
      · subst h2; simp
      · simp [h2]
    · simp only [h1, if_false]
  · funext a b
    simp only [mP, hu]
    by_cases h1 : a = 33
    · subst h1
      by_cases h2 : b = 2
      · subst h2; simp
      · simp [h2]
    · by_cases h3 : a = 32
      · subst h3
        by_cases h2 : b = 2
        · subst h2; simp
        · simp [h2]
      · by_cases h4 : a = 44
        · subst h4; simp
        · simp only [h1, h3, h4, if_false]
theorem qGf_0 {g s : Nat} (hg : g ≤ 8) (hs : s < 4) : qGf g ≠ nI s := by
  rcases (show g = 0 ∨ g = 1 ∨ g = 2 ∨ g = 3 ∨ g = 4 ∨ g = 5 ∨ g = 6 ∨ g = 7 ∨ g = 8 by omega) with rfl | rfl | rfl | rfl | rfl | rfl | rfl | rfl | rfl <;> rcases (show s = 0 ∨ s = 1 ∨ s = 2 ∨ s = 3 by omega) with rfl | rfl | rfl | rfl <;> decide
/-- a note that isn't at its goal moves on: the class -/
theorem c_mv {c : HP} {s g : Nat} (hs : s < 4) (hg : g ≤ 8) (h : c 5 s = nI g) (h1 : c 5 (s + 1) = -1) : Ec 56 [.inr 0, .inl (nI s)] c (.inl none, cC (cP c (s + 1) (c 4 s) (c 5 s)) s) := by
  have a1 := (c_atG (by omega) hg h).2 (qGf_0 hg hs)
  have a2 := c_adv1 (by omega) hg h h1
  refine w_fin ?_
  repeat' first
    | refine w_st rfl rfl ?_
    | refine w_ca rfl rfl a1 ?_
    | refine w_ca rfl rfl a2 ?_
    | refine w_no rfl rfl ?_ ?_
    | (refine w_br rfl rfl (fun z => ?_) (fun z => ?_) <;> try (first | contradiction | (simp (disch := omega) only [kc, nI_eq, nI_ltI, nI_leI, nI_m1, hu_o, hu_k, hu_same, not_true_eq_false, not_false_eq_true] at z; first | done | omega)))
    | refine w_in rfl rfl ?_
    | refine w_end rfl rfl ?_
    | refine w_endY rfl rfl ?_ ?_
    | refine w_up ?_
  rfl
/-- no note under the judge that isn't judged: the class does nothing -/
theorem c_jn {c m : HP} (hR : RR c m) : Ec 58 [.inr 0] c (.inl none, c) := by
  have e22 : (nI 2).toNatClampNeg = 2 := by decide
  have h : (c 5 2 = nI 0) = False := by
    refine eq_false (fun z => ?_)
    rcases hR.2.2.1 2 (by decide) with ⟨q1, q2, q3, q4⟩ | ⟨k, g, t, hk, hg, ht, hgs, b1, b2, b3, b4, b5, b6⟩
    · exact absurd (z.symm.trans q1) (by decide)
    · have := (nI_eq (by omega) (by omega)).mp (b3.symm.trans z)
      have := hgs this
      omega
  refine w_fin ?_
  repeat' first
    | refine w_st rfl rfl ?_
    | refine w_no rfl rfl ?_ ?_
    | (refine w_br rfl rfl (fun z => ?_) (fun z => ?_) <;> try (first | contradiction | (simp (disch := omega) only [e22, h, kc, nI_eq, nI_ltI, nI_leI, nI_m1, hu_o, hu_k, hu_same, not_true_eq_false, not_false_eq_true] at z; first | done | omega)))
    | refine w_in rfl rfl ?_
    | refine w_end rfl rfl ?_
    | refine w_endY rfl rfl ?_ ?_
    | refine w_up ?_
  all_goals rfl
set_option maxHeartbeats 4000000 in
theorem moves2 {c m : HP} (hR : RR c m) : ∃ b c1 c2 m', b ≤ 1 ∧ Ec 57 [.inr 0] c (.inl (some (nI b)), c1) ∧ Ec 58 [.inr 0] c1 (.inl none, c2) ∧ Ec 109 [.inr 30] m (.inl (some (nI b)), m') ∧ m' 30 0 = m 30 0 ∧ RR c2 m' := by
  obtain ⟨c0, m0, x, hx, hR0, hm0, kc0, km0⟩ := mv_down 8 (Nat.le_refl _) c m 0 hR (by decide)
  have bool : ∀ y, y ≤ 1 → (nI y = 0 ∨ nI y = 1) := fun y hy => by
    rcases (show y = 0 ∨ y = 1 by omega) with rfl | rfl
    · exact Or.inl rfl
    · exact Or.inr rfl
  have endC : ∀ (y : Nat) (h : HP), y ≤ 1 → Wp 57 (5, [(2, .inl (nI 0 + Int32.ofInt (-1))), (1, .inl (nI y)), (0, .inr 0)], [], h) (fun r => r = (.inl (some (nI y)), h)) := fun y h hy => by
    refine w_st rfl rfl ?_
    refine w_st rfl rfl ?_
    refine w_st rfl rfl ?_
    exact w_endY rfl rfl (Or.inr (bool y hy)) rfl
  have endM : ∀ (y : Nat) (h : HP), y ≤ 1 → Wp 109 (5, [(2, .inl (nI 0 + Int32.ofInt (-1))), (1, .inl (nI y)), (0, .inr 30)], [], h) (fun r => r = (.inl (some (nI y)), h)) := fun y h hy => by
    refine w_st rfl rfl ?_
    refine w_st rfl rfl ?_
    refine w_st rfl rfl ?_
    exact w_endY rfl rfl (Or.inr (bool y hy)) rfl
  have topC : ∀ (y : Nat) (h : HP), Wp 57 (5, [(2, .inl (nI 1)), (1, .inl (nI x)), (0, .inr 0)], [], c0) (fun r => r = (.inl (some (nI y)), h)) → Ec 57 [.inr 0] c (.inl (some (nI y)), h) := fun y h K => by
    refine w_fin ?_
    refine w_st rfl rfl ?_
    refine w_st rfl rfl ?_
    refine w_st rfl rfl ?_
    refine w_st rfl rfl ?_
    exact kc0 _ K
  have topM : ∀ (y : Nat) (h : HP), Wp 109 (5, [(2, .inl (nI 1)), (1, .inl (nI x)), (0, .inr 30)], [], m0) (fun r => r = (.inl (some (nI y)), h)) → Ec 109 [.inr 30] m (.inl (some (nI y)), h) := fun y h K => by
    refine w_fin ?_
    refine w_st rfl rfl ?_
    refine w_st rfl rfl ?_
    refine w_st rfl rfl ?_
    refine w_st rfl rfl ?_
    exact km0 _ K
  by_cases sp : (∃ k, k ≤ 5 ∧ r_nt c0 m0 1 k 0 0) ∧ c0 5 2 = -1
  · obtain ⟨⟨k, hk, hn⟩, h2⟩ := sp
    have hn0 := hn
    obtain ⟨b1, b2, b3, b4, b5, b6⟩ := hn
    have e22 : (nI 2).toNatClampNeg = 2 := by decide
    have e11 : (nI 1).toNatClampNeg = 1 := by decide
    have e12 : (nI 1 + nI 1).toNatClampNeg = 2 := by decide
    have e00 : (nI 0).toNatClampNeg = 0 := by decide
    have hno : r_no c0 m0 2 := by
      rcases hR0.2.2.1 2 (by decide) with h | ⟨k, g, t, hk, hg, ht, hgs, d1, d2, d3, d4, d5, d6⟩
      · exact h
      · exact absurd (d3.symm.trans h2) (of_eq_false (nI_m1 (by omega)))
    have hR1 := RR_put (RRb3 hR0) (s := 2) (k := k) (g := 0) (by decide) hk (by decide) (fun _ => by decide) hno
    have hR2 := RR_clear hR1 (s := 1) (k := k) (g := 0) (t := 0) (by decide) (by decide) (by decide) ⟨by simp [cP, hu, b1], by simp [mP, hu, b2], by simp [cP, hu, b3], by simp [mP, hu, b4], b5, by simp [mP, hu, b6]⟩
    have mv := c_mv (s := 1) (by decide) (by decide) b3 h2
    rw [b1, b3] at mv
    obtain ⟨C1, hC1⟩ : ∃ C1, C1 = cC (cP c0 2 (nI k) (nI 0)) 1 := ⟨_, rfl⟩
    obtain ⟨M1, hM1⟩ : ∃ M1, M1 = hu (mP m0 2 (nI k) (nI 0)) 32 1 (-1) := ⟨_, rfl⟩
    have hR3 : RRb 3 C1 M1 := by rw [hC1, hM1]; exact hR2
    have mv' : Ec 56 [.inr 0, .inl (nI 1)] c0 (.inl none, C1) := by rw [hC1]; exact mv
    have n2 : r_nt C1 M1 2 k 0 0 := by
      rw [hC1, hM1]
      exact ⟨by simp [cC, cP, hu], by simp [mP, hu], by simp [cC, cP, hu], by simp [mP, hu], by simp [cC, cP, hu]; exact hno.2.2.1, by simp [mP, hu]⟩
    have n1 : C1 5 1 = -1 ∧ M1 32 1 = -1 ∧ M1 30 0 = m0 30 0 := by
      rw [hC1, hM1]
      exact ⟨by simp [cC, hu], by simp [hu], rfl⟩
    obtain ⟨c3, j1, j2, j3⟩ := jd2 hR3 hk (by decide) n2
    obtain ⟨w1, w2, w3, w4⟩ := mJ_a M1
    have em : (nI k = -1) = False := nI_m1 (by omega)
    have e0 : (nI 0 = -1) = False := nI_m1 (by decide)
    have stepC : ∀ F, Wp 57 (5, [(2, .inl (nI 0)), (1, .inl (nI x)), (0, .inr 0)], [], C1) F → Wp 57 (5, [(2, .inl (nI 1)), (1, .inl (nI x)), (0, .inr 0)], [], c0) F := fun F K => by
      refine w_st rfl rfl ?_
      refine w_st rfl rfl ?_
      repeat' first
        | refine g_st 57 5 rfl rfl rfl ?_
        | refine w_ca rfl rfl mv' ?_
        | refine g_no 57 5 rfl rfl rfl ?_ ?_
        | (refine g_br 57 5 rfl rfl rfl (fun z => ?_) (fun z => ?_) <;> try (first | contradiction | (simp (disch := omega) only [e11, e22, b3, b5, e0, kc, nI_eq, nI_ltI, nI_leI, nI_m1, hu_o, hu_k, hu_same, not_true_eq_false, not_false_eq_true] at z; first | done | omega)))
        | refine w_in rfl rfl ?_
        | refine w_end rfl rfl ?_
        | refine w_endY rfl rfl ?_ ?_
        | refine w_up ?_
      all_goals try (intro z; simp (disch := omega) only [e11, e22, b3, b5, e0, nI_clamp, kc, nI_ltI, hu_o, hu_k, hu_same, false_or] at z <;> omega)
      all_goals try (right; rw [e11, b5]; exact Or.inl rfl)
      all_goals exact K
    have hM1' : hu (mP m0 2 (m0 32 1) (m0 33 1)) 32 1 (-1) = M1 := by rw [b2, b4, hM1]
    have pt : Ec 107 [.inr 30, .inl (nI 1 + Int32.ofInt 1), .inl (m0 32 (nI 1).toNatClampNeg), .inl (m0 33 (nI 1).toNatClampNeg)] m0 (.inl none, mP m0 2 (m0 32 1) (m0 33 1)) := m_put (by decide)
    have g33 : mP m0 2 (m0 32 1) (m0 33 1) 33 2 = nI 0 := by rw [b4]; simp [mP, hu]
    have jm : Ec 108 [.inr 30] (hu (mP m0 2 (m0 32 1) (m0 33 1)) 32 (nI 1).toNatClampNeg (Int32.ofInt (-1))) (.inl none, mJ M1) := by
      have e : hu (mP m0 2 (m0 32 1) (m0 33 1)) 32 (nI 1).toNatClampNeg (Int32.ofInt (-1)) = M1 := hM1'
      rw [e]
      exact j2
    have sg : Ec 94 [.inl (m0 33 (nI 1).toNatClampNeg)] m0 (.inl (some (-1)), m0) := by
      rw [e11, b4]
      exact gf_0 m0
    have stepM : ∀ F, Wp 109 (5, [(2, .inl (nI 0)), (1, .inl (nI x)), (0, .inr 30)], [], mJ M1) F → Wp 109 (5, [(2, .inl (nI 1)), (1, .inl (nI x)), (0, .inr 30)], [], m0) F := fun F K => by
      refine w_st rfl rfl ?_
      refine w_st rfl rfl ?_
      repeat' first
        | refine g_st 109 5 rfl rfl rfl ?_
        | refine w_ca rfl rfl sg ?_
        | refine w_ca rfl rfl pt ?_
        | refine w_ca rfl rfl jm ?_
        | refine g_no 109 5 rfl rfl rfl ?_ ?_
        | (refine g_br 109 5 rfl rfl rfl (fun z => ?_) (fun z => ?_) <;> try (first | contradiction | (simp (disch := omega) only [e11, e22, e12, b2, b4, b6, em, hno.2.1, g33, kc, nI_eq, nI_ltI, nI_leI, nI_m1, hu_o, hu_k, hu_same, not_true_eq_false, not_false_eq_true] at z; first | done | omega)))
        | refine w_in rfl rfl ?_
        | refine w_end rfl rfl ?_
        | refine w_endY rfl rfl ?_ ?_
        | refine w_up ?_
      all_goals try (intro z; simp (disch := omega) only [e11, e22, e12, b2, b4, b6, em, hno.2.1, g33, nI_clamp, kc, nI_ltI, hu_o, hu_k, hu_same, false_or] at z <;> omega)
      all_goals exact K
    rcases hR3.2.2.1 0 (by decide) with ⟨q1, q2, q3, q4⟩ | ⟨k0, g0, t0, hk0, hg0, ht0, hgs0, d1, d2, d3, d4, d5, d6⟩
    · have q2' : mJ M1 32 0 = -1 := (w2 0 (by decide)).trans q2
      refine ⟨x, C1, c3, mJ M1, hx, topC x C1 (stepC _ ?_), j1, topM x _ (stepM _ ?_), w1.trans (n1.2.2.trans hm0), j3⟩
      · refine w_st rfl rfl ?_
        refine w_st rfl rfl ?_
        repeat' first
          | refine g_st 57 5 rfl rfl rfl ?_
          | refine g_no 57 5 rfl rfl rfl ?_ ?_
          | (refine g_br 57 5 rfl rfl rfl (fun z => ?_) (fun z => ?_) <;> try (first | contradiction | (simp (disch := omega) only [e00, q1, q3, kc, nI_eq, nI_ltI, nI_leI, nI_m1, hu_o, hu_k, hu_same, not_true_eq_false, not_false_eq_true] at z; first | done | omega)))
          | refine w_in rfl rfl ?_
          | refine w_end rfl rfl ?_
          | refine w_endY rfl rfl ?_ ?_
          | refine w_up ?_
        all_goals try (intro z; simp (disch := omega) only [e00, q1, q3, nI_clamp, kc, nI_ltI, hu_o, hu_k, hu_same, false_or] at z <;> omega)
        all_goals try (right; rw [e00, q3]; exact Or.inl rfl)
        all_goals exact endC x _ hx
      · refine w_st rfl rfl ?_
        refine w_st rfl rfl ?_
        repeat' first
          | refine g_st 109 5 rfl rfl rfl ?_
          | refine g_no 109 5 rfl rfl rfl ?_ ?_
          | (refine g_br 109 5 rfl rfl rfl (fun z => ?_) (fun z => ?_) <;> try (first | contradiction | (simp (disch := omega) only [e00, q2', kc, nI_eq, nI_ltI, nI_leI, nI_m1, hu_o, hu_k, hu_same, not_true_eq_false, not_false_eq_true] at z; first | done | omega)))
          | refine w_in rfl rfl ?_
          | refine w_end rfl rfl ?_
          | refine w_endY rfl rfl ?_ ?_
          | refine w_up ?_
        all_goals try (intro z; simp (disch := omega) only [e00, q2', nI_clamp, kc, nI_ltI, hu_o, hu_k, hu_same, false_or] at z <;> omega)
        all_goals exact endM x _ hx
    · have d2' : mJ M1 32 0 = nI k0 := (w2 0 (by decide)).trans d2
      have d4' : mJ M1 33 0 = nI g0 := (w3 0 (by decide)).trans d4
      have d6' : mJ M1 34 0 = nI t0 := (w4 0).trans d6
      have ek : (nI k0 = -1) = False := nI_m1 (by omega)
      have eg : (nI g0 = -1) = False := nI_m1 (by omega)
      rcases (show t0 = 1 ∨ t0 = 0 by omega) with rfl | rfl
      · refine ⟨1, C1, c3, mJ M1, by decide, topC 1 C1 (stepC _ ?_), j1, topM 1 _ (stepM _ ?_), w1.trans (n1.2.2.trans hm0), j3⟩
        · refine w_st rfl rfl ?_
          refine w_st rfl rfl ?_
          repeat' first
            | refine g_st 57 5 rfl rfl rfl ?_
            | refine g_no 57 5 rfl rfl rfl ?_ ?_
            | (refine g_br 57 5 rfl rfl rfl (fun z => ?_) (fun z => ?_) <;> try (first | contradiction | (simp (disch := omega) only [e00, d3, d5, kc, nI_eq, nI_ltI, nI_leI, nI_m1, hu_o, hu_k, hu_same, not_true_eq_false, not_false_eq_true] at z; first | done | omega)))
            | refine w_in rfl rfl ?_
            | refine w_end rfl rfl ?_
            | refine w_endY rfl rfl ?_ ?_
            | refine w_up ?_
          all_goals try (intro z; simp (disch := omega) only [e00, d3, d5, nI_clamp, kc, nI_ltI, hu_o, hu_k, hu_same, false_or] at z <;> omega)
          all_goals try (right; rw [e00, d5]; exact Or.inr rfl)
          all_goals exact endC 1 _ (by decide)
        · refine w_st rfl rfl ?_
          refine w_st rfl rfl ?_
          repeat' first
            | refine g_st 109 5 rfl rfl rfl ?_
            | refine g_no 109 5 rfl rfl rfl ?_ ?_
            | (refine g_br 109 5 rfl rfl rfl (fun z => ?_) (fun z => ?_) <;> try (first | contradiction | (simp (disch := omega) only [e00, d2', d6', ek, kc, nI_eq, nI_ltI, nI_leI, nI_m1, hu_o, hu_k, hu_same, not_true_eq_false, not_false_eq_true] at z; first | done | omega)))
            | refine w_in rfl rfl ?_
            | refine w_end rfl rfl ?_
            | refine w_endY rfl rfl ?_ ?_
            | refine w_up ?_
          all_goals try (intro z; simp (disch := omega) only [e00, d2', d6', ek, nI_clamp, kc, nI_ltI, hu_o, hu_k, hu_same, false_or] at z <;> omega)
          all_goals exact endM 1 _ (by decide)
      · have mv2 := c_mv (s := 0) (by decide) hg0 d3 n1.1
        rw [d1, d3] at mv2
        have hno1 : r_no C1 M1 1 := by
          rcases hR3.2.2.1 1 (by decide) with h | ⟨k, g, t, hk, hg, ht, hgs, f1, f2, f3, f4, f5, f6⟩
          · exact h
          · exact absurd (f3.symm.trans n1.1) (of_eq_false (nI_m1 (by omega)))
        have hR4 := RR_put hR3 (s := 1) (k := k0) (g := g0) (by decide) hk0 hg0 (fun _ => by decide) hno1
        have hR5 := RR_clear hR4 (s := 0) (k := k0) (g := g0) (t := 0) (by decide) hg0 (by decide) ⟨by simp [cP, hu, d1], by simp [mP, hu, d2], by simp [cP, hu, d3], by simp [mP, hu, d4], d5, by simp [mP, hu, d6]⟩
        obtain ⟨f1, f2, f3, f4, f5, f6⟩ := n2
        obtain ⟨c4, l1, l2, l3⟩ := jd2 hR5 (k := k) (t := 0) hk (by decide) ⟨by simp [cC, cP, hu, f1], by simp [mP, hu, f2], by simp [cC, cP, hu, f3], by simp [mP, hu, f4], by simp [cC, cP, hu, f5], by simp [mP, hu, f6]⟩
        have pt2 : Ec 107 [.inr 30, .inl (nI 0 + Int32.ofInt 1), .inl (mJ M1 32 (nI 0).toNatClampNeg), .inl (mJ M1 33 (nI 0).toNatClampNeg)] (mJ M1) (.inl none, mP (mJ M1) 1 (mJ M1 32 0) (mJ M1 33 0)) := m_put (by decide)
        rw [d2', d4'] at pt2
        have sg2 : Ec 94 [.inl (mJ M1 33 (nI 0).toNatClampNeg)] (mJ M1) (.inl (some (qGf g0)), mJ M1) := by
          rw [e00, d4']
          exact gf_a hg0 _
        have q0 : (qGf g0 = nI 0) = False := eq_false (qGf_0 hg0 (by decide))
        have n1' : mJ M1 32 1 = -1 := (w2 1 (by decide)).trans n1.2.1
        have e1 : ((nI 0 + nI 1).toNatClampNeg) = 1 := by decide
        refine ⟨x, _, c4, mJ (hu (mP M1 1 (nI k0) (nI g0)) 32 0 (-1)), hx, topC x _ (stepC _ ?_), l1, topM x _ (stepM _ ?_), ?_, l3⟩
        · refine w_st rfl rfl ?_
          refine w_st rfl rfl ?_
          repeat' first
            | refine g_st 57 5 rfl rfl rfl ?_
            | refine w_ca rfl rfl mv2 ?_
            | refine g_no 57 5 rfl rfl rfl ?_ ?_
            | (refine g_br 57 5 rfl rfl rfl (fun z => ?_) (fun z => ?_) <;> try (first | contradiction | (simp (disch := omega) only [e00, d3, d5, eg, kc, nI_eq, nI_ltI, nI_leI, nI_m1, hu_o, hu_k, hu_same, not_true_eq_false, not_false_eq_true] at z; first | done | omega)))
            | refine w_in rfl rfl ?_
            | refine w_end rfl rfl ?_
            | refine w_endY rfl rfl ?_ ?_
            | refine w_up ?_
          all_goals try (intro z; simp (disch := omega) only [e00, d3, d5, eg, nI_clamp, kc, nI_ltI, hu_o, hu_k, hu_same, false_or] at z <;> omega)
          all_goals try (right; rw [e00, d5]; exact Or.inl rfl)
          all_goals exact endC x _ hx
        · refine w_st rfl rfl ?_
          refine w_st rfl rfl ?_
          repeat' first
            | refine g_st 109 5 rfl rfl rfl ?_
            | refine w_ca rfl rfl sg2 ?_
            | refine w_ca rfl rfl pt2 ?_
            | refine g_no 109 5 rfl rfl rfl ?_ ?_
            | (refine g_br 109 5 rfl rfl rfl (fun z => ?_) (fun z => ?_) <;> try (first | contradiction | (simp (disch := omega) only [e00, d2', d6', ek, q0, n1', e1, kc, nI_eq, nI_ltI, nI_leI, nI_m1, hu_o, hu_k, hu_same, not_true_eq_false, not_false_eq_true] at z; first | done | omega)))
            | refine w_in rfl rfl ?_
            | refine w_end rfl rfl ?_
            | refine w_endY rfl rfl ?_ ?_
            | refine w_up ?_
          all_goals try (intro z; simp (disch := omega) only [e00, d2', d6', ek, q0, n1', e1, nI_clamp, kc, nI_ltI, hu_o, hu_k, hu_same, false_or] at z <;> omega)
          all_goals (rw [← mJ_comm]; exact endM x _ hx)
        · exact (mJ_a _).1.trans (n1.2.2.trans hm0)
  · obtain ⟨c1, m1, y1, a1, a2, a3, a4, a5⟩ := it2 (b := 2) hR0 (s := 1) (x := x) (by decide) hx (fun k hk _ h2 => by
      exfalso
      refine sp ⟨?_, h2⟩
      rcases hR0.2.2.1 1 (by decide) with ⟨q1, q2, q3, q4⟩ | ⟨k', g, t, hk', hg, ht, hgs, b1, b2, b3, b4, b5, b6⟩
      · exact absurd (hk.2.2.1.symm.trans q1) (by decide)
      · have g0 := (nI_eq (by omega) (by omega)).mp (b3.symm.trans hk.2.2.1)
        have t0 := (nI_eq (by omega) (by omega)).mp (b5.symm.trans hk.2.2.2.2.1)
        subst g0 t0
        exact ⟨k', hk', b1, b2, b3, b4, b5, b6⟩)
    obtain ⟨c2, m2, y2, d1, d2, d3, d4, d5⟩ := it2 (b := 2) a2 (s := 0) (x := y1) (by decide) a1 (fun _ _ _ _ => ⟨rfl, by decide⟩)
    exact ⟨y2, c2, c2, m2, d1, topC _ _ (a4 _ (d4 _ (endC y2 c2 d1))), c_jn d2, topM _ _ (a5 _ (d5 _ (endM y2 m2 d1))), d3.trans (a3.trans hm0), d2⟩
