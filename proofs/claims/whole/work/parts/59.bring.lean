/-! bringNote AND comes (written by wip/whole/g59.py). -/
theorem nN_10 (g : Nat → Int32) : nN g ≤ 10 := by
  have := sm_le (f := fun s => if g s = -1 then 0 else 1) (b := 1) (n := 10) (fun i _ => by split <;> omega)
  simpa [nN] using this
set_option maxHeartbeats 4000000 in
theorem slot2 {c m : HP} (hR : RR c m) (h1 : c 0 7 = nI 1) (h2 : m 30 1 = nI 1) : ∃ c' m', Ec 59 [.inr 0] c (.inl none, c') ∧ (∀ F, Wp 112 (56, [(0, .inr 30)], [], m') F → Wp 112 (0, [(0, .inr 30)], [], m) F) ∧ m' 30 0 = m 30 0 ∧ m' 30 1 = nI 1 ∧ RR c' m' := by
  have hR0 := hR
  obtain ⟨⟨hst, ⟨u, hu1, hu2, hu3⟩, hpw, hop, hsb⟩, hvd, hbt, hsz, ⟨e, he, es1, es2, es3⟩, hmg, hbk, hpy⟩ := hR
  have onb := m_onBelt m
  have ksz := k_size hbt
  have hN := nN_10 (m 32)
  have hsz' : c 3 3 = nI (nN (m 32)) := by
    rw [← ksz]
    exact hsz
  by_cases hgo : 0 < u ∧ c 5 0 = -1 ∧ nN (m 32) + e < 24
  · obtain ⟨g1, g2, g3⟩ := hgo
    have hno : r_no c m 0 := by
      rcases hbt 0 (by decide) with h | ⟨k, g, t, hk, hg, ht, hgs, d1, d2, d3, d4, d5, d6⟩
      · exact h
      · exact absurd (d3.symm.trans g2) (of_eq_false (nI_m1 (by omega)))
    have q2 := hno.2.1
    have eu : nI u - nI 1 = nI (u - 1) := pk_sub (by omega)
    have hR1 : RR (hu c 0 8 (nI (u - 1))) (hu m 30 5 (nI (u - 1))) := ⟨⟨hst, ⟨u - 1, by omega, rfl, rfl⟩, hpw, hop, hsb⟩, hvd, hbt, hsz, ⟨e, he, es1, es2, es3⟩, hmg, hbk, hpy⟩
    have hR2 := RR_put (b := 2) hR1 (s := 0) (k := 0) (g := 0) (by decide) (by decide) (by decide) (fun _ => by decide) hno
    have hc1 : hu c 0 8 (c 0 8 - Int32.ofInt 1) = hu c 0 8 (nI (u - 1)) := by simp only [kc, hu2, eu]
    have hm1 : hu m 30 5 (m 30 5 - Int32.ofInt 1) = hu m 30 5 (nI (u - 1)) := by simp only [kc, hu3, eu]
    have pC : Ec 14 [.inr 3, .inl (nI 0), .inl (nI 0), .inl (nI 0)] (hu c 0 8 (nI (u - 1))) (.inl none, _) := c_put (by decide) g2
    have pM : Ec 107 [.inr 30, .inl (nI 0), .inl (nI 0), .inl (nI 0)] (hu m 30 5 (nI (u - 1))) (.inl none, _) := m_put (by decide)
    rw [← hc1] at pC
    rw [← hm1] at pM
    refine ⟨_, _, w_fin ?_, fun F K => ?_, ?_, ?_, hR2⟩
    · skip
      repeat' first
        | refine w_st rfl rfl ?_
        | refine w_ca rfl rfl pC ?_
        | refine w_no rfl rfl ?_ ?_
        | (refine w_br rfl rfl (fun z => ?_) (fun z => ?_) <;> try (first | (simp (disch := omega) only [hu2, g2, hsz', es1, nI_add, kc, nI_clamp, nI_eq, nI_ltI, nI_leI, nI_m1, hu_o, hu_k, hu_same, not_true_eq_false, not_false_eq_true] at z; first | done | omega)))
        | refine w_in rfl rfl ?_
        | refine w_end rfl rfl ?_
        | refine w_endY rfl rfl ?_ ?_
        | refine w_up ?_
      all_goals try (intro z; simp (disch := omega) only [hu2, g2, hsz', es1, nI_add, nI_clamp, kc, nI_ltI, hu_o, hu_k, hu_same, false_or] at z <;> omega)
      all_goals try (exact absurd g2 (by assumption))
      all_goals (rw [hc1])
    · skip
      repeat' first
        | refine g_st 112 56 rfl rfl rfl ?_
        | refine w_ca rfl rfl onb ?_
        | refine w_ca rfl rfl pM ?_
        | refine g_no 112 56 rfl rfl rfl ?_ ?_
        | (refine g_br 112 56 rfl rfl rfl (fun z => ?_) (fun z => ?_) <;> try (first | (simp (disch := omega) only [hu3, q2, h2, es2, nI_add, kc, nI_clamp, nI_eq, nI_ltI, nI_leI, nI_m1, hu_o, hu_k, hu_same, not_true_eq_false, not_false_eq_true] at z; first | done | omega)))
        | refine w_in rfl rfl ?_
        | refine w_end rfl rfl ?_
        | refine w_endY rfl rfl ?_ ?_
        | refine w_up ?_
      all_goals try (intro z; simp (disch := omega) only [hu3, q2, h2, es2, nI_add, nI_clamp, kc, nI_ltI, hu_o, hu_k, hu_same, false_or] at z <;> omega)
      all_goals try (exact absurd q2 (by assumption))
      all_goals (rw [hm1]; exact K)
    · rfl
    · exact h2
  · refine ⟨c, m, w_fin ?_, fun F K => ?_, rfl, h2, hR0⟩
    · by_cases g1 : 0 < u
      · by_cases g2 : c 5 0 = -1
        · have g3 : ¬ nN (m 32) + e < 24 := fun z => hgo ⟨g1, g2, z⟩
          repeat' first
            | refine w_st rfl rfl ?_
            | refine w_no rfl rfl ?_ ?_
            | (refine w_br rfl rfl (fun z => ?_) (fun z => ?_) <;> try (first | (simp (disch := omega) only [hu2, g2, hsz', es1, nI_add, kc, nI_clamp, nI_eq, nI_ltI, nI_leI, nI_m1, hu_o, hu_k, hu_same, not_true_eq_false, not_false_eq_true] at z; first | done | omega)))
            | refine w_in rfl rfl ?_
            | refine w_end rfl rfl ?_
            | refine w_endY rfl rfl ?_ ?_
            | refine w_up ?_
          all_goals try (intro z; simp (disch := omega) only [hu2, g2, hsz', es1, nI_add, nI_clamp, kc, nI_ltI, hu_o, hu_k, hu_same, false_or] at z <;> omega)
          all_goals try (exact absurd g2 (by assumption))
          all_goals rfl
        · have g2' : (c 5 0 = -1) = False := eq_false g2
          repeat' first
            | refine w_st rfl rfl ?_
            | refine w_no rfl rfl ?_ ?_
            | (refine w_br rfl rfl (fun z => ?_) (fun z => ?_) <;> try (first | (simp (disch := omega) only [hu2, g2', hsz', es1, nI_add, kc, nI_clamp, nI_eq, nI_ltI, nI_leI, nI_m1, hu_o, hu_k, hu_same, not_true_eq_false, not_false_eq_true] at z; first | done | omega)))
            | refine w_in rfl rfl ?_
            | refine w_end rfl rfl ?_
            | refine w_endY rfl rfl ?_ ?_
            | refine w_up ?_
          all_goals try (intro z; simp (disch := omega) only [hu2, g2', hsz', es1, nI_add, nI_clamp, kc, nI_ltI, hu_o, hu_k, hu_same, false_or] at z <;> omega)
          all_goals try (exact absurd (by assumption) g2)
          all_goals rfl
      · skip
        repeat' first
          | refine w_st rfl rfl ?_
          | refine w_no rfl rfl ?_ ?_
          | (refine w_br rfl rfl (fun z => ?_) (fun z => ?_) <;> try (first | (simp (disch := omega) only [hu2, kc, nI_clamp, nI_eq, nI_ltI, nI_leI, nI_m1, hu_o, hu_k, hu_same, not_true_eq_false, not_false_eq_true] at z; first | done | omega)))
          | refine w_in rfl rfl ?_
          | refine w_end rfl rfl ?_
          | refine w_endY rfl rfl ?_ ?_
          | refine w_up ?_
        all_goals rfl
    · by_cases g1 : 0 < u
      · by_cases g2 : c 5 0 = -1
        · have g3 : ¬ nN (m 32) + e < 24 := fun z => hgo ⟨g1, g2, z⟩
          have q2 : m 32 0 = -1 := by
            rcases hbt 0 (by decide) with h | ⟨k, g, t, hk, hg, ht, hgs, d1, d2, d3, d4, d5, d6⟩
            · exact h.2.1
            · exact absurd (d3.symm.trans g2) (of_eq_false (nI_m1 (by omega)))
          repeat' first
            | refine g_st 112 56 rfl rfl rfl ?_
            | refine w_ca rfl rfl onb ?_
            | refine g_no 112 56 rfl rfl rfl ?_ ?_
            | (refine g_br 112 56 rfl rfl rfl (fun z => ?_) (fun z => ?_) <;> try (first | (simp (disch := omega) only [hu3, q2, h2, es2, nI_add, kc, nI_clamp, nI_eq, nI_ltI, nI_leI, nI_m1, hu_o, hu_k, hu_same, not_true_eq_false, not_false_eq_true] at z; first | done | omega)))
            | refine w_in rfl rfl ?_
            | refine w_end rfl rfl ?_
            | refine w_endY rfl rfl ?_ ?_
            | refine w_up ?_
          all_goals try (intro z; simp (disch := omega) only [hu3, q2, h2, es2, nI_add, nI_clamp, kc, nI_ltI, hu_o, hu_k, hu_same, false_or] at z <;> omega)
          all_goals try (exact absurd q2 (by assumption))
          all_goals exact K
        · have q2 : ¬ m 32 0 = -1 := by
            rcases hbt 0 (by decide) with h | ⟨k, g, t, hk, hg, ht, hgs, d1, d2, d3, d4, d5, d6⟩
            · exact absurd h.1 g2
            · rw [d2]; exact of_eq_false (nI_m1 (by omega))
          have q2' : (m 32 0 = -1) = False := eq_false q2
          repeat' first
            | refine g_st 112 56 rfl rfl rfl ?_
            | refine w_ca rfl rfl onb ?_
            | refine g_no 112 56 rfl rfl rfl ?_ ?_
            | (refine g_br 112 56 rfl rfl rfl (fun z => ?_) (fun z => ?_) <;> try (first | (simp (disch := omega) only [hu3, q2', h2, es2, nI_add, kc, nI_clamp, nI_eq, nI_ltI, nI_leI, nI_m1, hu_o, hu_k, hu_same, not_true_eq_false, not_false_eq_true] at z; first | done | omega)))
            | refine w_in rfl rfl ?_
            | refine w_end rfl rfl ?_
            | refine w_endY rfl rfl ?_ ?_
            | refine w_up ?_
          all_goals try (intro z; simp (disch := omega) only [hu3, q2', h2, es2, nI_add, nI_clamp, kc, nI_ltI, hu_o, hu_k, hu_same, false_or] at z <;> omega)
          all_goals try (exact absurd (by assumption) q2)
          all_goals exact K
      · skip
        repeat' first
          | refine g_st 112 56 rfl rfl rfl ?_
          | refine g_no 112 56 rfl rfl rfl ?_ ?_
          | (refine g_br 112 56 rfl rfl rfl (fun z => ?_) (fun z => ?_) <;> try (first | (simp (disch := omega) only [hu3, h2, kc, nI_clamp, nI_eq, nI_ltI, nI_leI, nI_m1, hu_o, hu_k, hu_same, not_true_eq_false, not_false_eq_true] at z; first | done | omega)))
          | refine w_in rfl rfl ?_
          | refine w_end rfl rfl ?_
          | refine w_endY rfl rfl ?_ ?_
          | refine w_up ?_
        all_goals exact K
set_option maxHeartbeats 4000000 in
theorem esc2 {c m : HP} (hR : RR c m) {t : Nat} (ht : t = 3 ∨ t = 4) (h1 : c 0 7 = nI t) (h2 : m 30 1 = nI t) : ∃ c' m', Ec 61 [.inr 0] c (.inl none, c') ∧ (∀ F, Wp 112 (139, [(0, .inr 30)], [], m') F → Wp 112 (72, [(0, .inr 30)], [], m) F) ∧ m' 30 0 = m 30 0 ∧ m' 30 1 = nI t ∧ RR c' m' := by
  have hR0 := hR
  obtain ⟨hfl, hvd, hbt, hsz, ⟨e, he, es1, es2, es3⟩, hmg, hbk, hpy⟩ := hR
  by_cases hgo : 0 < e ∧ c 5 4 = -1
  · obtain ⟨g1, g2⟩ := hgo
    have hno : r_no c m 4 := by
      rcases hbt 4 (by decide) with h | ⟨k, g, t, hk, hg, ht, hgs, d1, d2, d3, d4, d5, d6⟩
      · exact h
      · exact absurd (d3.symm.trans g2) (of_eq_false (nI_m1 (by omega)))
    have q2 := hno.2.1
    have ee : nI e - nI 1 = nI (e - 1) := pk_sub (by omega)
    have e1 : (nI (e - 1)).toNatClampNeg = e - 1 := nI_clamp (by omega)
    obtain ⟨k, hk, k1, k2⟩ := es3 (e - 1) (by omega)
    have hR1 : RR (hu c 7 1 (nI (e - 1))) (hu m 30 12 (nI (e - 1))) := ⟨hfl, hvd, hbt, hsz, ⟨e - 1, by omega, rfl, rfl, fun i hi => es3 i (by omega)⟩, hmg, hbk, hpy⟩
    obtain ⟨g, hg2, hg7, sC, sM⟩ := sg2 hR1 hk
    have hc1 : hu c 7 1 (c 7 1 - Int32.ofInt 1) = hu c 7 1 (nI (e - 1)) := by simp only [kc, es1, ee]
    have hm1 : hu m 30 12 (m 30 12 - Int32.ofInt 1) = hu m 30 12 (nI (e - 1)) := by simp only [kc, es2, ee]
    have pop : Ec 22 [.inr 7] c (.inl (some (nI k)), hu c 7 1 (nI (e - 1))) := by
      refine w_fin ?_
      repeat' first
        | refine w_st rfl rfl ?_
        | refine w_no rfl rfl ?_ ?_
        | (refine w_br rfl rfl (fun z => ?_) (fun z => ?_) <;> try (first | (simp (disch := omega) only [es1, kc, nI_clamp, nI_eq, nI_ltI, nI_leI, nI_m1, hu_o, hu_k, hu_same, not_true_eq_false, not_false_eq_true] at z; first | done | omega)))
        | refine w_in rfl rfl ?_
        | refine w_end rfl rfl ?_
        | refine w_endY rfl rfl ?_ ?_
        | refine w_up ?_
      all_goals try (intro z; simp (disch := omega) only [kc, hu_same, es1, ee, e1, nI_clamp, nI_ltI, false_or] at z <;> omega)
      all_goals (simp only [kc, hu_same, es1, ee, e1]; rw [hu_o (by decide), k1])
    have pC : ∀ x : Int32, Ec 14 [.inr 3, .inl (nI 4), .inl (nI k), .inl x] (hu c 7 1 (nI (e - 1))) (.inl none, cP (hu c 7 1 (nI (e - 1))) 4 (nI k) x) := fun x => c_put (by decide) g2
    have pM : ∀ x : Int32, Ec 107 [.inr 30, .inl (nI 4), .inl (nI k), .inl x] (hu m 30 12 (nI (e - 1))) (.inl none, mP (hu m 30 12 (nI (e - 1))) 4 (nI k) x) := fun x => m_put (by decide)
    have rd : (hu m 30 12 (nI (e - 1))) 35 ((hu m 30 12 (nI (e - 1))) 30 12).toNatClampNeg = nI k := by
      rw [hu_same, e1, hu_o (by decide), k2]
    have pM' : ∀ x : Int32, Ec 107 [.inr 30, .inl (nI 4), .inl ((hu m 30 12 (nI (e - 1))) 35 ((hu m 30 12 (nI (e - 1))) 30 12).toNatClampNeg), .inl x] (hu m 30 12 (nI (e - 1))) (.inl none, mP (hu m 30 12 (nI (e - 1))) 4 (nI k) x) := fun x => by
      rw [rd]; exact pM x
    have sM' : Ec 110 [.inr 30, .inl ((hu m 30 12 (nI (e - 1))) 35 ((hu m 30 12 (nI (e - 1))) 30 12).toNatClampNeg)] (hu m 30 12 (nI (e - 1))) (.inl (some (nI g)), hu m 30 12 (nI (e - 1))) := by
      rw [rd]; exact sM
    rw [← hm1] at pM' sM'
    rcases ht with rfl | rfl
    · have hR2 := RR_put (b := 2) hR1 (s := 4) (k := k) (g := g) (by decide) hk (by omega) (fun z => by omega) hno
      refine ⟨_, _, w_fin ?_, fun F K => ?_, ?_, ?_, hR2⟩
      · skip
        repeat' first
          | refine w_st rfl rfl ?_
          | refine w_ca rfl rfl pop ?_
          | refine w_ca rfl rfl sC ?_
          | refine w_ca rfl rfl (pC _) ?_
          | refine w_no rfl rfl ?_ ?_
          | (refine w_br rfl rfl (fun z => ?_) (fun z => ?_) <;> try (first | (simp (disch := omega) only [es1, h1, g2, kc, nI_clamp, nI_eq, nI_ltI, nI_leI, nI_m1, hu_o, hu_k, hu_same, not_true_eq_false, not_false_eq_true] at z; first | done | omega)))
          | refine w_in rfl rfl ?_
          | refine w_end rfl rfl ?_
          | refine w_endY rfl rfl ?_ ?_
          | refine w_up ?_
        all_goals try (exact absurd g2 (by assumption))
        all_goals rfl
      · skip
        repeat' first
          | refine g_st 112 139 rfl rfl rfl ?_
          | refine w_ca rfl rfl sM' ?_
          | refine w_ca rfl rfl (pM' _) ?_
          | refine g_no 112 139 rfl rfl rfl ?_ ?_
          | (refine g_br 112 139 rfl rfl rfl (fun z => ?_) (fun z => ?_) <;> try (first | (simp (disch := omega) only [es2, h2, q2, kc, nI_clamp, nI_eq, nI_ltI, nI_leI, nI_m1, hu_o, hu_k, hu_same, not_true_eq_false, not_false_eq_true] at z; first | done | omega)))
          | refine w_in rfl rfl ?_
          | refine w_end rfl rfl ?_
          | refine w_endY rfl rfl ?_ ?_
          | refine w_up ?_
        all_goals try (intro z; simp (disch := omega) only [kc, hu_same, es2, ee, e1, nI_clamp, nI_ltI, false_or] at z <;> omega)
        all_goals try (exact absurd q2 (by assumption))
        all_goals (rw [hm1]; exact K)
      · rfl
      · exact h2
    · have hR2 := RR_put (b := 2) hR1 (s := 4) (k := k) (g := 8) (by decide) hk (by decide) (fun z => by omega) hno
      refine ⟨_, _, w_fin ?_, fun F K => ?_, ?_, ?_, hR2⟩
      · skip
        repeat' first
          | refine w_st rfl rfl ?_
          | refine w_ca rfl rfl pop ?_
          | refine w_ca rfl rfl sC ?_
          | refine w_ca rfl rfl (pC _) ?_
          | refine w_no rfl rfl ?_ ?_
          | (refine w_br rfl rfl (fun z => ?_) (fun z => ?_) <;> try (first | (simp (disch := omega) only [es1, h1, g2, kc, nI_clamp, nI_eq, nI_ltI, nI_leI, nI_m1, hu_o, hu_k, hu_same, not_true_eq_false, not_false_eq_true] at z; first | done | omega)))
          | refine w_in rfl rfl ?_
          | refine w_end rfl rfl ?_
          | refine w_endY rfl rfl ?_ ?_
          | refine w_up ?_
        all_goals try (exact absurd g2 (by assumption))
        all_goals rfl
      · skip
        repeat' first
          | refine g_st 112 139 rfl rfl rfl ?_
          | refine w_ca rfl rfl sM' ?_
          | refine w_ca rfl rfl (pM' _) ?_
          | refine g_no 112 139 rfl rfl rfl ?_ ?_
          | (refine g_br 112 139 rfl rfl rfl (fun z => ?_) (fun z => ?_) <;> try (first | (simp (disch := omega) only [es2, h2, q2, kc, nI_clamp, nI_eq, nI_ltI, nI_leI, nI_m1, hu_o, hu_k, hu_same, not_true_eq_false, not_false_eq_true] at z; first | done | omega)))
          | refine w_in rfl rfl ?_
          | refine w_end rfl rfl ?_
          | refine w_endY rfl rfl ?_ ?_
          | refine w_up ?_
        all_goals try (intro z; simp (disch := omega) only [kc, hu_same, es2, ee, e1, nI_clamp, nI_ltI, false_or] at z <;> omega)
        all_goals try (exact absurd q2 (by assumption))
        all_goals (rw [hm1]; exact K)
      · rfl
      · exact h2
  · refine ⟨c, m, w_fin ?_, fun F K => ?_, rfl, h2, hR0⟩
    · by_cases g1 : 0 < e
      · have g2 : ¬ c 5 4 = -1 := fun z => hgo ⟨g1, z⟩
        have g2' : (c 5 4 = -1) = False := eq_false g2
        repeat' first
          | refine w_st rfl rfl ?_
          | refine w_no rfl rfl ?_ ?_
          | (refine w_br rfl rfl (fun z => ?_) (fun z => ?_) <;> try (first | (simp (disch := omega) only [es1, g2', kc, nI_clamp, nI_eq, nI_ltI, nI_leI, nI_m1, hu_o, hu_k, hu_same, not_true_eq_false, not_false_eq_true] at z; first | done | omega)))
          | refine w_in rfl rfl ?_
          | refine w_end rfl rfl ?_
          | refine w_endY rfl rfl ?_ ?_
          | refine w_up ?_
        all_goals try (exact absurd (by assumption) g2)
        all_goals rfl
      · skip
        repeat' first
          | refine w_st rfl rfl ?_
          | refine w_no rfl rfl ?_ ?_
          | (refine w_br rfl rfl (fun z => ?_) (fun z => ?_) <;> try (first | (simp (disch := omega) only [es1, kc, nI_clamp, nI_eq, nI_ltI, nI_leI, nI_m1, hu_o, hu_k, hu_same, not_true_eq_false, not_false_eq_true] at z; first | done | omega)))
          | refine w_in rfl rfl ?_
          | refine w_end rfl rfl ?_
          | refine w_endY rfl rfl ?_ ?_
          | refine w_up ?_
        all_goals rfl
    · by_cases g1 : 0 < e
      · have g2 : ¬ c 5 4 = -1 := fun z => hgo ⟨g1, z⟩
        have q2 : ¬ m 32 4 = -1 := by
          rcases hbt 4 (by decide) with h | ⟨k, g, t, hk, hg, ht, hgs, d1, d2, d3, d4, d5, d6⟩
          · exact absurd h.1 g2
          · rw [d2]; exact of_eq_false (nI_m1 (by omega))
        have q2' : (m 32 4 = -1) = False := eq_false q2
        repeat' first
          | refine g_st 112 139 rfl rfl rfl ?_
          | refine g_no 112 139 rfl rfl rfl ?_ ?_
          | (refine g_br 112 139 rfl rfl rfl (fun z => ?_) (fun z => ?_) <;> try (first | (simp (disch := omega) only [es2, q2', kc, nI_clamp, nI_eq, nI_ltI, nI_leI, nI_m1, hu_o, hu_k, hu_same, not_true_eq_false, not_false_eq_true] at z; first | done | omega)))
          | refine w_in rfl rfl ?_
          | refine w_end rfl rfl ?_
          | refine w_endY rfl rfl ?_ ?_
          | refine w_up ?_
        all_goals try (exact absurd (by assumption) q2)
        all_goals exact K
      · skip
        repeat' first
          | refine g_st 112 139 rfl rfl rfl ?_
          | refine g_no 112 139 rfl rfl rfl ?_ ?_
          | (refine g_br 112 139 rfl rfl rfl (fun z => ?_) (fun z => ?_) <;> try (first | (simp (disch := omega) only [es2, kc, nI_clamp, nI_eq, nI_ltI, nI_leI, nI_m1, hu_o, hu_k, hu_same, not_true_eq_false, not_false_eq_true] at z; first | done | omega)))
          | refine w_in rfl rfl ?_
          | refine w_end rfl rfl ?_
          | refine w_endY rfl rfl ?_ ?_
          | refine w_up ?_
        all_goals exact K
set_option maxHeartbeats 4000000 in
theorem bring2 {c m : HP} (hR : RR c m) : ∃ c' m', Ec 63 [.inr 0] c (.inl none, c') ∧ Ec 112 [.inr 30] m (.inl none, m') ∧ m' 30 0 = m 30 0 ∧ RR c' m' := by
  have hR0 := hR
  obtain ⟨⟨t, ht, h1, h2⟩, _⟩ := hR.1
  rcases (show t = 1 ∨ (t = 3 ∨ t = 4) ∨ t = 5 ∨ t = 0 ∨ t = 2 ∨ t = 6 ∨ t = 7 ∨ t = 8 by omega) with rfl | h34 | rfl | rfl | rfl | rfl | rfl | rfl
  · obtain ⟨c', m', r1, r2, r3, r4, r5⟩ := slot2 hR0 h1 h2
    refine ⟨c', m', w_fin ?_, w_fin (r2 _ ?_), r3, r5⟩
    · skip
      repeat' first
        | refine w_ts h1 ?_
        | refine w_st rfl rfl ?_
        | refine w_ca rfl rfl r1 ?_
        | refine w_no rfl rfl ?_ ?_
        | refine w_in rfl rfl ?_
        | refine w_end rfl rfl ?_
        | refine w_endY rfl rfl ?_ ?_
        | refine w_up ?_
        | refine w_br rfl rfl (fun z => ?_) (fun z => ?_)
      all_goals rfl
    · skip
      repeat' first
        | refine w_ts r4 ?_
        | refine w_st rfl rfl ?_
        | refine w_no rfl rfl ?_ ?_
        | refine w_in rfl rfl ?_
        | refine w_end rfl rfl ?_
        | refine w_endY rfl rfl ?_ ?_
        | refine w_up ?_
        | refine w_br rfl rfl (fun z => ?_) (fun z => ?_)
      all_goals rfl
  · obtain ⟨c', m', r1, r2, r3, r4, r5⟩ := esc2 hR0 h34 h1 h2
    rcases h34 with rfl | rfl
    · refine ⟨c', m', w_fin ?_, w_fin ?_, r3, r5⟩
      · skip
        repeat' first
          | refine w_ts h1 ?_
          | refine w_st rfl rfl ?_
          | refine w_ca rfl rfl r1 ?_
          | refine w_no rfl rfl ?_ ?_
          | refine w_in rfl rfl ?_
          | refine w_end rfl rfl ?_
          | refine w_endY rfl rfl ?_ ?_
          | refine w_up ?_
          | refine w_br rfl rfl (fun z => ?_) (fun z => ?_)
        all_goals rfl
      · skip
        repeat' first
          | refine w_ts h2 ?_
          | refine g_st 112 72 rfl rfl rfl ?_
          | refine g_no 112 72 rfl rfl rfl ?_ ?_
          | refine w_in rfl rfl ?_
          | refine w_end rfl rfl ?_
          | refine w_endY rfl rfl ?_ ?_
          | refine w_up ?_
        refine r2 _ ?_
        repeat' first
          | refine w_ts r4 ?_
          | refine w_st rfl rfl ?_
          | refine w_no rfl rfl ?_ ?_
          | refine w_in rfl rfl ?_
          | refine w_end rfl rfl ?_
          | refine w_endY rfl rfl ?_ ?_
          | refine w_up ?_
          | refine w_br rfl rfl (fun z => ?_) (fun z => ?_)
        all_goals rfl
    · refine ⟨c', m', w_fin ?_, w_fin ?_, r3, r5⟩
      · skip
        repeat' first
          | refine w_ts h1 ?_
          | refine w_st rfl rfl ?_
          | refine w_ca rfl rfl r1 ?_
          | refine w_no rfl rfl ?_ ?_
          | refine w_in rfl rfl ?_
          | refine w_end rfl rfl ?_
          | refine w_endY rfl rfl ?_ ?_
          | refine w_up ?_
          | refine w_br rfl rfl (fun z => ?_) (fun z => ?_)
        all_goals rfl
      · skip
        repeat' first
          | refine w_ts h2 ?_
          | refine g_st 112 72 rfl rfl rfl ?_
          | refine g_no 112 72 rfl rfl rfl ?_ ?_
          | refine w_in rfl rfl ?_
          | refine w_end rfl rfl ?_
          | refine w_endY rfl rfl ?_ ?_
          | refine w_up ?_
        refine r2 _ ?_
        repeat' first
          | refine w_ts r4 ?_
          | refine w_st rfl rfl ?_
          | refine w_no rfl rfl ?_ ?_
          | refine w_in rfl rfl ?_
          | refine w_end rfl rfl ?_
          | refine w_endY rfl rfl ?_ ?_
          | refine w_up ?_
          | refine w_br rfl rfl (fun z => ?_) (fun z => ?_)
        all_goals rfl
  · obtain ⟨c', m', r1, r2, r3, r5⟩ := pay2 hR0 h1
    refine ⟨c', m', w_fin ?_, w_fin ?_, r3, r5⟩
    · skip
      repeat' first
        | refine w_ts h1 ?_
        | refine w_st rfl rfl ?_
        | refine w_ca rfl rfl r1 ?_
        | refine w_no rfl rfl ?_ ?_
        | refine w_in rfl rfl ?_
        | refine w_end rfl rfl ?_
        | refine w_endY rfl rfl ?_ ?_
        | refine w_up ?_
        | refine w_br rfl rfl (fun z => ?_) (fun z => ?_)
      all_goals rfl
    · skip
      repeat' first
        | refine w_ts h2 ?_
        | refine w_st rfl rfl ?_
        | refine w_ca rfl rfl r2 ?_
        | refine w_no rfl rfl ?_ ?_
        | refine w_in rfl rfl ?_
        | refine w_end rfl rfl ?_
        | refine w_endY rfl rfl ?_ ?_
        | refine w_up ?_
        | refine w_br rfl rfl (fun z => ?_) (fun z => ?_)
      all_goals rfl
  all_goals refine ⟨c, m, w_fin ?_, w_fin ?_, rfl, hR0⟩
  · skip
    repeat' first
      | refine w_ts h1 ?_
      | refine w_st rfl rfl ?_
      | refine w_no rfl rfl ?_ ?_
      | refine w_in rfl rfl ?_
      | refine w_end rfl rfl ?_
      | refine w_endY rfl rfl ?_ ?_
      | refine w_up ?_
      | refine w_br rfl rfl (fun z => ?_) (fun z => ?_)
    all_goals rfl
  · skip
    repeat' first
      | refine w_ts h2 ?_
      | refine w_st rfl rfl ?_
      | refine w_no rfl rfl ?_ ?_
      | refine w_in rfl rfl ?_
      | refine w_end rfl rfl ?_
      | refine w_endY rfl rfl ?_ ?_
      | refine w_up ?_
      | refine w_br rfl rfl (fun z => ?_) (fun z => ?_)
    all_goals rfl
  · skip
    repeat' first
      | refine w_ts h1 ?_
      | refine w_st rfl rfl ?_
      | refine w_no rfl rfl ?_ ?_
      | refine w_in rfl rfl ?_
      | refine w_end rfl rfl ?_
      | refine w_endY rfl rfl ?_ ?_
      | refine w_up ?_
      | refine w_br rfl rfl (fun z => ?_) (fun z => ?_)
    all_goals rfl
  · skip
    repeat' first
      | refine w_ts h2 ?_
      | refine w_st rfl rfl ?_
      | refine w_no rfl rfl ?_ ?_
      | refine w_in rfl rfl ?_
      | refine w_end rfl rfl ?_
      | refine w_endY rfl rfl ?_ ?_
      | refine w_up ?_
      | refine w_br rfl rfl (fun z => ?_) (fun z => ?_)
    all_goals rfl
  · skip
    repeat' first
      | refine w_ts h1 ?_
      | refine w_st rfl rfl ?_
      | refine w_no rfl rfl ?_ ?_
      | refine w_in rfl rfl ?_
      | refine w_end rfl rfl ?_
      | refine w_endY rfl rfl ?_ ?_
      | refine w_up ?_
      | refine w_br rfl rfl (fun z => ?_) (fun z => ?_)
    all_goals rfl
  · skip
    repeat' first
      | refine w_ts h2 ?_
      | refine w_st rfl rfl ?_
      | refine w_no rfl rfl ?_ ?_
      | refine w_in rfl rfl ?_
      | refine w_end rfl rfl ?_
      | refine w_endY rfl rfl ?_ ?_
      | refine w_up ?_
      | refine w_br rfl rfl (fun z => ?_) (fun z => ?_)
    all_goals rfl
  · skip
    repeat' first
      | refine w_ts h1 ?_
      | refine w_st rfl rfl ?_
      | refine w_no rfl rfl ?_ ?_
      | refine w_in rfl rfl ?_
      | refine w_end rfl rfl ?_
      | refine w_endY rfl rfl ?_ ?_
      | refine w_up ?_
      | refine w_br rfl rfl (fun z => ?_) (fun z => ?_)
    all_goals rfl
  · skip
    repeat' first
      | refine w_ts h2 ?_
      | refine w_st rfl rfl ?_
      | refine w_no rfl rfl ?_ ?_
      | refine w_in rfl rfl ?_
      | refine w_end rfl rfl ?_
      | refine w_endY rfl rfl ?_ ?_
      | refine w_up ?_
      | refine w_br rfl rfl (fun z => ?_) (fun z => ?_)
    all_goals rfl
  · skip
    repeat' first
      | refine w_ts h1 ?_
      | refine w_st rfl rfl ?_
      | refine w_no rfl rfl ?_ ?_
      | refine w_in rfl rfl ?_
      | refine w_end rfl rfl ?_
      | refine w_endY rfl rfl ?_ ?_
      | refine w_up ?_
      | refine w_br rfl rfl (fun z => ?_) (fun z => ?_)
    all_goals rfl
  · skip
    repeat' first
      | refine w_ts h2 ?_
      | refine w_st rfl rfl ?_
      | refine w_no rfl rfl ?_ ?_
      | refine w_in rfl rfl ?_
      | refine w_end rfl rfl ?_
      | refine w_endY rfl rfl ?_ ?_
      | refine w_up ?_
      | refine w_br rfl rfl (fun z => ?_) (fun z => ?_)
    all_goals rfl
