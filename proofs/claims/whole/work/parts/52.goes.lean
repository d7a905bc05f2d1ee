/-! A NOTE THAT STANDS AT ITS GOAL GOES IN, OR NOT (written by wip/whole/g52.py). -/
theorem stk_le {ks ns ns' : Nat → Int32} (h : ∀ i, i < 4 → (ns i).toNatClampNeg ≤ (ns' i).toNatClampNeg) (k : Nat) : stk ks ns k ≤ stk ks ns' k := by
  refine sm_mono (fun i hi => ?_)
  have := h i hi
  split <;> omega
theorem nI_sub0 {a b : Nat} (ha : a < 2 ^ 31) (hb : b < 2 ^ 31) : (nI a - nI b = nI 0) = (a = b) := by
  rw [Int32.sub_eq_iff_eq_add, nI_add, Nat.zero_add]
  exact propext (nI_eq ha hb)
set_option maxHeartbeats 4000000 in
theorem go2 {b : Nat} {c m : HP} (hR : RRb b c m) {s k g : Nat} (hs : s < 10) (hk : k ≤ 5) (h1 : 1 ≤ g) (hg : g ≤ 8) (hq : qGf g = nI s) (hn : r_nt c m s k g 0) : (∃ c' m', Ec 55 [.inr 0, .inl (nI k), .inl (nI g)] c (.inl (some (nI 1)), c') ∧ Ec 106 [.inr 30, .inl (nI s)] m (.inl (some (nI 1)), hu m' 32 s (-1)) ∧ RRb b c' m' ∧ r_nt c' m' s k g 0 ∧ m' 30 0 = m 30 0) ∨ (g ≤ 5 ∧ Ec 55 [.inr 0, .inl (nI k), .inl (nI g)] c (.inl (some (nI 0)), c) ∧ Ec 106 [.inr 30, .inl (nI s)] m (.inl (some (nI 0)), m)) := by
  obtain ⟨hfl, hvd, hbt, hsz, hes, hmg, hbk, hpy⟩ := hR
  have hn0 := hn
  obtain ⟨b1, b2, b3, b4, b5, b6⟩ := hn
  have ek : (nI k).toNatClampNeg = k := nI_clamp (by omega)
  have es : (nI s).toNatClampNeg = s := nI_clamp (by omega)
  rcases (show g = 1 ∨ g = 2 ∨ g = 3 ∨ g = 4 ∨ g = 5 ∨ g = 6 ∨ g = 7 ∨ g = 8 by omega) with rfl | rfl | rfl | rfl | rfl | rfl | rfl | rfl
  · obtain rfl : 4 = s := (nI_eq (by omega) (by omega)).mp hq
    obtain ⟨e, he, es1, es2, es3⟩ := hes
    by_cases h24 : e = 24
    · subst h24
      refine Or.inr ⟨by decide, w_fin ?_, w_fin ?_⟩
      · skip
        repeat' first
          | refine w_st rfl rfl ?_
          | refine w_no rfl rfl ?_ ?_
          | (refine w_br rfl rfl (fun z => ?_) (fun z => ?_) <;> try (first | contradiction | (simp (disch := omega) only [b1, b2, b4, ek, es, es1, es2, kc, nI_eq, nI_ltI, nI_leI, nI_m1, hu_o, hu_k, hu_same, not_true_eq_false, not_false_eq_true] at z; first | done | omega)))
          | refine w_in rfl rfl ?_
          | refine w_end rfl rfl ?_
          | refine w_endY rfl rfl ?_ ?_
          | refine w_up ?_
        all_goals try (intro z; simp (disch := omega) only [b1, b2, b4, ek, es, es1, es2, nI_clamp, kc, nI_ltI, hu_o, hu_k, hu_same, false_or] at z <;> omega)
        all_goals try exact Or.inr (Or.inr rfl)
        all_goals try exact Or.inr (Or.inl rfl)
        all_goals rfl
      · skip
        repeat' first
          | refine w_st rfl rfl ?_
          | refine w_no rfl rfl ?_ ?_
          | (refine w_br rfl rfl (fun z => ?_) (fun z => ?_) <;> try (first | contradiction | (simp (disch := omega) only [b1, b2, b4, ek, es, es1, es2, kc, nI_eq, nI_ltI, nI_leI, nI_m1, hu_o, hu_k, hu_same, not_true_eq_false, not_false_eq_true] at z; first | done | omega)))
          | refine w_in rfl rfl ?_
          | refine w_end rfl rfl ?_
          | refine w_endY rfl rfl ?_ ?_
          | refine w_up ?_
        all_goals try (intro z; simp (disch := omega) only [b1, b2, b4, ek, es, es1, es2, nI_clamp, kc, nI_ltI, hu_o, hu_k, hu_same, false_or] at z <;> omega)
        all_goals try exact Or.inr (Or.inr rfl)
        all_goals try exact Or.inr (Or.inl rfl)
        all_goals rfl
    · have ee : (nI e).toNatClampNeg = e := nI_clamp (by omega)
      refine Or.inl ⟨hu (hu c 8 e (nI k)) 7 1 (nI (e + 1)), hu (hu m 35 e (nI k)) 30 12 (nI (e + 1)), w_fin ?_, w_fin ?_, ⟨hfl, hvd, hbt, hsz, ⟨e + 1, by omega, rfl, rfl, fun i hi => ?_⟩, hmg, hbk, hpy⟩, hn0, rfl⟩
      · skip
        repeat' first
          | refine w_st rfl rfl ?_
          | refine w_no rfl rfl ?_ ?_
          | (refine w_br rfl rfl (fun z => ?_) (fun z => ?_) <;> try (first | contradiction | (simp (disch := omega) only [b1, b2, b4, ek, es, es1, es2, ee, kc, nI_eq, nI_ltI, nI_leI, nI_m1, hu_o, hu_k, hu_same, not_true_eq_false, not_false_eq_true] at z; first | done | omega)))
          | refine w_in rfl rfl ?_
          | refine w_end rfl rfl ?_
          | refine w_endY rfl rfl ?_ ?_
          | refine w_up ?_
        all_goals try (intro z; simp (disch := omega) only [b1, b2, b4, ek, es, es1, es2, ee, nI_clamp, kc, nI_ltI, hu_o, hu_k, hu_same, false_or] at z <;> omega)
        all_goals try exact Or.inr (Or.inr rfl)
        all_goals try exact Or.inr (Or.inl rfl)
        all_goals (simp (disch := omega) only [kc, es1, es2, ee, nI_clamp, hu_o, hu_k, nI_add, b2] <;> first | done | rfl)
      · skip
        repeat' first
          | refine w_st rfl rfl ?_
          | refine w_no rfl rfl ?_ ?_
          | (refine w_br rfl rfl (fun z => ?_) (fun z => ?_) <;> try (first | contradiction | (simp (disch := omega) only [b1, b2, b4, ek, es, es1, es2, ee, kc, nI_eq, nI_ltI, nI_leI, nI_m1, hu_o, hu_k, hu_same, not_true_eq_false, not_false_eq_true] at z; first | done | omega)))
          | refine w_in rfl rfl ?_
          | refine w_end rfl rfl ?_
          | refine w_endY rfl rfl ?_ ?_
          | refine w_up ?_
        all_goals try (intro z; simp (disch := omega) only [b1, b2, b4, ek, es, es1, es2, ee, nI_clamp, kc, nI_ltI, hu_o, hu_k, hu_same, false_or] at z <;> omega)
        all_goals try exact Or.inr (Or.inr rfl)
        all_goals try exact Or.inr (Or.inl rfl)
        all_goals (simp (disch := omega) only [kc, es1, es2, ee, nI_clamp, hu_o, hu_k, nI_add, b2] <;> first | done | rfl)
      · by_cases hi2 : i = e
        · subst hi2
          exact ⟨k, hk, by simp [hu], by simp [hu]⟩
        · obtain ⟨k', q1, q2, q3⟩ := es3 i (by omega)
          refine ⟨k', q1, ?_, ?_⟩
          · simp only [hu]; simp [hi2, q2]
          · simp only [hu]; simp [hi2, q3]
  · obtain rfl : 5 = s := (nI_eq (by omega) (by omega)).mp hq
    obtain ⟨k', n, hk1, hk2, hn, d1, d2, d3, d4⟩ := hmg 0 (by decide)
    have ei : (nI 2 - nI 2).toNatClampNeg = 0 := by decide
    have el : (nI 2 - nI 2 < nI 0) = False := eq_false (by decide)
    by_cases hc : n = 30 ∨ k' ≠ k
    · refine Or.inr ⟨by decide, ?_⟩
      have rm : (nI 30 - nI n = nI 0) = (n = 30) := (nI_sub0 (by omega) (by omega)).trans (propext eq_comm)
      rcases (show (k' = k ∧ n = 30) ∨ k' ≠ k by omega) with ⟨hc1, hc2⟩ | hc1
      all_goals refine ⟨w_fin ?_, w_fin ?_⟩
      · skip
        repeat' first
          | refine w_st rfl rfl ?_
          | refine w_no rfl rfl ?_ ?_
          | (refine w_br rfl rfl (fun z => ?_) (fun z => ?_) <;> try (first | contradiction | (simp (disch := omega) only [b1, b2, b4, ek, es, d1, d2, d3, d4, rm, ei, el, kc, nI_eq, nI_ltI, nI_leI, nI_m1, hu_o, hu_k, hu_same, not_true_eq_false, not_false_eq_true] at z; first | done | omega)))
          | refine w_in rfl rfl ?_
          | refine w_end rfl rfl ?_
          | refine w_endY rfl rfl ?_ ?_
          | refine w_up ?_
        all_goals try (intro z; simp (disch := omega) only [b1, b2, b4, ek, es, d1, d2, d3, d4, rm, ei, el, nI_clamp, kc, nI_ltI, hu_o, hu_k, hu_same, false_or] at z <;> omega)
        all_goals try exact Or.inr (Or.inr rfl)
        all_goals try exact Or.inr (Or.inl rfl)
        all_goals rfl
      · skip
        repeat' first
          | refine w_st rfl rfl ?_
          | refine w_no rfl rfl ?_ ?_
          | (refine w_br rfl rfl (fun z => ?_) (fun z => ?_) <;> try (first | contradiction | (simp (disch := omega) only [b1, b2, b4, ek, es, d1, d2, d3, d4, rm, ei, el, kc, nI_eq, nI_ltI, nI_leI, nI_m1, hu_o, hu_k, hu_same, not_true_eq_false, not_false_eq_true] at z; first | done | omega)))
          | refine w_in rfl rfl ?_
          | refine w_end rfl rfl ?_
          | refine w_endY rfl rfl ?_ ?_
          | refine w_up ?_
        all_goals try (intro z; simp (disch := omega) only [b1, b2, b4, ek, es, d1, d2, d3, d4, rm, ei, el, nI_clamp, kc, nI_ltI, hu_o, hu_k, hu_same, false_or] at z <;> omega)
        all_goals try exact Or.inr (Or.inr rfl)
        all_goals try exact Or.inr (Or.inl rfl)
        all_goals rfl
      · skip
        repeat' first
          | refine w_st rfl rfl ?_
          | refine w_no rfl rfl ?_ ?_
          | (refine w_br rfl rfl (fun z => ?_) (fun z => ?_) <;> try (first | contradiction | (simp (disch := omega) only [b1, b2, b4, ek, es, d1, d2, d3, d4, rm, ei, el, kc, nI_eq, nI_ltI, nI_leI, nI_m1, hu_o, hu_k, hu_same, not_true_eq_false, not_false_eq_true] at z; first | done | omega)))
          | refine w_in rfl rfl ?_
          | refine w_end rfl rfl ?_
          | refine w_endY rfl rfl ?_ ?_
          | refine w_up ?_
        all_goals try (intro z; simp (disch := omega) only [b1, b2, b4, ek, es, d1, d2, d3, d4, rm, ei, el, nI_clamp, kc, nI_ltI, hu_o, hu_k, hu_same, false_or] at z <;> omega)
        all_goals try exact Or.inr (Or.inr rfl)
        all_goals try exact Or.inr (Or.inl rfl)
        all_goals rfl
      · skip
        repeat' first
          | refine w_st rfl rfl ?_
          | refine w_no rfl rfl ?_ ?_
          | (refine w_br rfl rfl (fun z => ?_) (fun z => ?_) <;> try (first | contradiction | (simp (disch := omega) only [b1, b2, b4, ek, es, d1, d2, d3, d4, rm, ei, el, kc, nI_eq, nI_ltI, nI_leI, nI_m1, hu_o, hu_k, hu_same, not_true_eq_false, not_false_eq_true] at z; first | done | omega)))
          | refine w_in rfl rfl ?_
          | refine w_end rfl rfl ?_
          | refine w_endY rfl rfl ?_ ?_
          | refine w_up ?_
        all_goals try (intro z; simp (disch := omega) only [b1, b2, b4, ek, es, d1, d2, d3, d4, rm, ei, el, nI_clamp, kc, nI_ltI, hu_o, hu_k, hu_same, false_or] at z <;> omega)
        all_goals try exact Or.inr (Or.inr rfl)
        all_goals try exact Or.inr (Or.inl rfl)
        all_goals rfl
    · have rm : (nI 30 - nI n = nI 0) = (n = 30) := (nI_sub0 (by omega) (by omega)).trans (propext eq_comm)
      have hn30 : n ≠ 30 := fun z => hc (Or.inl z)
      have hkk : k' = k := Classical.byContradiction (fun z => hc (Or.inr z))
      subst hkk
      refine Or.inl ⟨hu c 11 0 (nI (n + 1)), hu m 37 0 (nI (n + 1)), w_fin ?_, w_fin ?_, ⟨hfl, hvd, hbt, hsz, hes, fun i hi => ?_, hbk, hpy.1, fun z => ?_⟩, hn0, rfl⟩
      · skip
        repeat' first
          | refine w_st rfl rfl ?_
          | refine w_no rfl rfl ?_ ?_
          | (refine w_br rfl rfl (fun z => ?_) (fun z => ?_) <;> try (first | contradiction | (simp (disch := omega) only [b1, b2, b4, ek, es, d1, d2, d3, d4, rm, ei, el, kc, nI_eq, nI_ltI, nI_leI, nI_m1, hu_o, hu_k, hu_same, not_true_eq_false, not_false_eq_true] at z; first | done | omega)))
          | refine w_in rfl rfl ?_
          | refine w_end rfl rfl ?_
          | refine w_endY rfl rfl ?_ ?_
          | refine w_up ?_
        all_goals try (intro z; simp (disch := omega) only [b1, b2, b4, ek, es, d1, d2, d3, d4, rm, ei, el, nI_clamp, kc, nI_ltI, hu_o, hu_k, hu_same, false_or] at z <;> omega)
        all_goals try exact Or.inr (Or.inr rfl)
        all_goals try exact Or.inr (Or.inl rfl)
        all_goals try (exfalso; simp (disch := omega) only [b1, b2, b4, ek, es, d1, d2, d3, d4, rm, ei, el, kc, nI_eq, nI_clamp, hu_o, hu_k] at * <;> omega)
        all_goals (simp (disch := omega) only [kc, d3, d4, nI_clamp, ei, es, b4, hu_o, hu_k, nI_add] <;> first | done | rfl)
      · skip
        repeat' first
          | refine w_st rfl rfl ?_
          | refine w_no rfl rfl ?_ ?_
          | (refine w_br rfl rfl (fun z => ?_) (fun z => ?_) <;> try (first | contradiction | (simp (disch := omega) only [b1, b2, b4, ek, es, d1, d2, d3, d4, rm, ei, el, kc, nI_eq, nI_ltI, nI_leI, nI_m1, hu_o, hu_k, hu_same, not_true_eq_false, not_false_eq_true] at z; first | done | omega)))
          | refine w_in rfl rfl ?_
          | refine w_end rfl rfl ?_
          | refine w_endY rfl rfl ?_ ?_
          | refine w_up ?_
        all_goals try (intro z; simp (disch := omega) only [b1, b2, b4, ek, es, d1, d2, d3, d4, rm, ei, el, nI_clamp, kc, nI_ltI, hu_o, hu_k, hu_same, false_or] at z <;> omega)
        all_goals try exact Or.inr (Or.inr rfl)
        all_goals try exact Or.inr (Or.inl rfl)
        all_goals try (exfalso; simp (disch := omega) only [b1, b2, b4, ek, es, d1, d2, d3, d4, rm, ei, el, kc, nI_eq, nI_clamp, hu_o, hu_k] at * <;> omega)
        all_goals (simp (disch := omega) only [kc, d3, d4, nI_clamp, ei, es, b4, hu_o, hu_k, nI_add] <;> first | done | rfl)
      · by_cases hi2 : i = 0
        · subst hi2
          exact ⟨k', n + 1, hk1, hk2, by omega, d1, d2, by simp [hu], by simp [hu]⟩
        · obtain ⟨k2, n2, r⟩ := hmg i hi
          exact ⟨k2, n2, by simpa [hu, hi2] using r⟩
      · obtain ⟨q, q1, q2⟩ := hpy.2 z
        refine ⟨q, fun kk z1 z2 => ?_, q2⟩
        obtain ⟨w1, w2, w3⟩ := q1 kk z1 z2
        refine ⟨w1, w2, Nat.le_trans w3 (stk_le (fun i hi => ?_) kk)⟩
        by_cases hi2 : i = 0
        · subst hi2
          simp only [hu_same]
          rw [d4, nI_clamp (by omega), nI_clamp (by omega)]
          omega
        · rw [hu_k hi2]
          exact Nat.le_refl _
  · obtain rfl : 5 = s := (nI_eq (by omega) (by omega)).mp hq
    obtain ⟨k', n, hk1, hk2, hn, d1, d2, d3, d4⟩ := hmg 1 (by decide)
    have ei : (nI 3 - nI 2).toNatClampNeg = 1 := by decide
    have el : (nI 3 - nI 2 < nI 0) = False := eq_false (by decide)
    by_cases hc : n = 30 ∨ k' ≠ k
    · refine Or.inr ⟨by decide, ?_⟩
      have rm : (nI 30 - nI n = nI 0) = (n = 30) := (nI_sub0 (by omega) (by omega)).trans (propext eq_comm)
      rcases (show (k' = k ∧ n = 30) ∨ k' ≠ k by omega) with ⟨hc1, hc2⟩ | hc1
      all_goals refine ⟨w_fin ?_, w_fin ?_⟩
      · skip
        repeat' first
          | refine w_st rfl rfl ?_
          | refine w_no rfl rfl ?_ ?_
          | (refine w_br rfl rfl (fun z => ?_) (fun z => ?_) <;> try (first | contradiction | (simp (disch := omega) only [b1, b2, b4, ek, es, d1, d2, d3, d4, rm, ei, el, kc, nI_eq, nI_ltI, nI_leI, nI_m1, hu_o, hu_k, hu_same, not_true_eq_false, not_false_eq_true] at z; first | done | omega)))
          | refine w_in rfl rfl ?_
          | refine w_end rfl rfl ?_
          | refine w_endY rfl rfl ?_ ?_
          | refine w_up ?_
        all_goals try (intro z; simp (disch := omega) only [b1, b2, b4, ek, es, d1, d2, d3, d4, rm, ei, el, nI_clamp, kc, nI_ltI, hu_o, hu_k, hu_same, false_or] at z <;> omega)
        all_goals try exact Or.inr (Or.inr rfl)
        all_goals try exact Or.inr (Or.inl rfl)
        all_goals rfl
      · skip
        repeat' first
          | refine w_st rfl rfl ?_
          | refine w_no rfl rfl ?_ ?_
          | (refine w_br rfl rfl (fun z => ?_) (fun z => ?_) <;> try (first | contradiction | (simp (disch := omega) only [b1, b2, b4, ek, es, d1, d2, d3, d4, rm, ei, el, kc, nI_eq, nI_ltI, nI_leI, nI_m1, hu_o, hu_k, hu_same, not_true_eq_false, not_false_eq_true] at z; first | done | omega)))
          | refine w_in rfl rfl ?_
          | refine w_end rfl rfl ?_
          | refine w_endY rfl rfl ?_ ?_
          | refine w_up ?_
        all_goals try (intro z; simp (disch := omega) only [b1, b2, b4, ek, es, d1, d2, d3, d4, rm, ei, el, nI_clamp, kc, nI_ltI, hu_o, hu_k, hu_same, false_or] at z <;> omega)
        all_goals try exact Or.inr (Or.inr rfl)
        all_goals try exact Or.inr (Or.inl rfl)
        all_goals rfl
      · skip
        repeat' first
          | refine w_st rfl rfl ?_
          | refine w_no rfl rfl ?_ ?_
          | (refine w_br rfl rfl (fun z => ?_) (fun z => ?_) <;> try (first | contradiction | (simp (disch := omega) only [b1, b2, b4, ek, es, d1, d2, d3, d4, rm, ei, el, kc, nI_eq, nI_ltI, nI_leI, nI_m1, hu_o, hu_k, hu_same, not_true_eq_false, not_false_eq_true] at z; first | done | omega)))
          | refine w_in rfl rfl ?_
          | refine w_end rfl rfl ?_
          | refine w_endY rfl rfl ?_ ?_
          | refine w_up ?_
        all_goals try (intro z; simp (disch := omega) only [b1, b2, b4, ek, es, d1, d2, d3, d4, rm, ei, el, nI_clamp, kc, nI_ltI, hu_o, hu_k, hu_same, false_or] at z <;> omega)
        all_goals try exact Or.inr (Or.inr rfl)
        all_goals try exact Or.inr (Or.inl rfl)
        all_goals rfl
      · skip
        repeat' first
          | refine w_st rfl rfl ?_
          | refine w_no rfl rfl ?_ ?_
          | (refine w_br rfl rfl (fun z => ?_) (fun z => ?_) <;> try (first | contradiction | (simp (disch := omega) only [b1, b2, b4, ek, es, d1, d2, d3, d4, rm, ei, el, kc, nI_eq, nI_ltI, nI_leI, nI_m1, hu_o, hu_k, hu_same, not_true_eq_false, not_false_eq_true] at z; first | done | omega)))
          | refine w_in rfl rfl ?_
          | refine w_end rfl rfl ?_
          | refine w_endY rfl rfl ?_ ?_
          | refine w_up ?_
        all_goals try (intro z; simp (disch := omega) only [b1, b2, b4, ek, es, d1, d2, d3, d4, rm, ei, el, nI_clamp, kc, nI_ltI, hu_o, hu_k, hu_same, false_or] at z <;> omega)
        all_goals try exact Or.inr (Or.inr rfl)
        all_goals try exact Or.inr (Or.inl rfl)
        all_goals rfl
    · have rm : (nI 30 - nI n = nI 0) = (n = 30) := (nI_sub0 (by omega) (by omega)).trans (propext eq_comm)
      have hn30 : n ≠ 30 := fun z => hc (Or.inl z)
      have hkk : k' = k := Classical.byContradiction (fun z => hc (Or.inr z))
      subst hkk
      refine Or.inl ⟨hu c 11 1 (nI (n + 1)), hu m 37 1 (nI (n + 1)), w_fin ?_, w_fin ?_, ⟨hfl, hvd, hbt, hsz, hes, fun i hi => ?_, hbk, hpy.1, fun z => ?_⟩, hn0, rfl⟩
      · skip
        repeat' first
          | refine w_st rfl rfl ?_
          | refine w_no rfl rfl ?_ ?_
          | (refine w_br rfl rfl (fun z => ?_) (fun z => ?_) <;> try (first | contradiction | (simp (disch := omega) only [b1, b2, b4, ek, es, d1, d2, d3, d4, rm, ei, el, kc, nI_eq, nI_ltI, nI_leI, nI_m1, hu_o, hu_k, hu_same, not_true_eq_false, not_false_eq_true] at z; first | done | omega)))
          | refine w_in rfl rfl ?_
          | refine w_end rfl rfl ?_
          | refine w_endY rfl rfl ?_ ?_
          | refine w_up ?_
        all_goals try (intro z; simp (disch := omega) only [b1, b2, b4, ek, es, d1, d2, d3, d4, rm, ei, el, nI_clamp, kc, nI_ltI, hu_o, hu_k, hu_same, false_or] at z <;> omega)
        all_goals try exact Or.inr (Or.inr rfl)
        all_goals try exact Or.inr (Or.inl rfl)
        all_goals try (exfalso; simp (disch := omega) only [b1, b2, b4, ek, es, d1, d2, d3, d4, rm, ei, el, kc, nI_eq, nI_clamp, hu_o, hu_k] at * <;> omega)
        all_goals (simp (disch := omega) only [kc, d3, d4, nI_clamp, ei, es, b4, hu_o, hu_k, nI_add] <;> first | done | rfl)
      · skip
        repeat' first
          | refine w_st rfl rfl ?_
          | refine w_no rfl rfl ?_ ?_
          | (refine w_br rfl rfl (fun z => ?_) (fun z => ?_) <;> try (first | contradiction | (simp (disch := omega) only [b1, b2, b4, ek, es, d1, d2, d3, d4, rm, ei, el, kc, nI_eq, nI_ltI, nI_leI, nI_m1, hu_o, hu_k, hu_same, not_true_eq_false, not_false_eq_true] at z; first | done | omega)))
          | refine w_in rfl rfl ?_
          | refine w_end rfl rfl ?_
          | refine w_endY rfl rfl ?_ ?_
          | refine w_up ?_
        all_goals try (intro z; simp (disch := omega) only [b1, b2, b4, ek, es, d1, d2, d3, d4, rm, ei, el, nI_clamp, kc, nI_ltI, hu_o, hu_k, hu_same, false_or] at z <;> omega)
        all_goals try exact Or.inr (Or.inr rfl)
        all_goals try exact Or.inr (Or.inl rfl)
        all_goals try (exfalso; simp (disch := omega) only [b1, b2, b4, ek, es, d1, d2, d3, d4, rm, ei, el, kc, nI_eq, nI_clamp, hu_o, hu_k] at * <;> omega)
        all_goals (simp (disch := omega) only [kc, d3, d4, nI_clamp, ei, es, b4, hu_o, hu_k, nI_add] <;> first | done | rfl)
      · by_cases hi2 : i = 1
        · subst hi2
          exact ⟨k', n + 1, hk1, hk2, by omega, d1, d2, by simp [hu], by simp [hu]⟩
        · obtain ⟨k2, n2, r⟩ := hmg i hi
          exact ⟨k2, n2, by simpa [hu, hi2] using r⟩
      · obtain ⟨q, q1, q2⟩ := hpy.2 z
        refine ⟨q, fun kk z1 z2 => ?_, q2⟩
        obtain ⟨w1, w2, w3⟩ := q1 kk z1 z2
        refine ⟨w1, w2, Nat.le_trans w3 (stk_le (fun i hi => ?_) kk)⟩
        by_cases hi2 : i = 1
        · subst hi2
          simp only [hu_same]
          rw [d4, nI_clamp (by omega), nI_clamp (by omega)]
          omega
        · rw [hu_k hi2]
          exact Nat.le_refl _
  · obtain rfl : 6 = s := (nI_eq (by omega) (by omega)).mp hq
    obtain ⟨k', n, hk1, hk2, hn, d1, d2, d3, d4⟩ := hmg 2 (by decide)
    have ei : (nI 4 - nI 2).toNatClampNeg = 2 := by decide
    have el : (nI 4 - nI 2 < nI 0) = False := eq_false (by decide)
    by_cases hc : n = 30 ∨ k' ≠ k
    · refine Or.inr ⟨by decide, ?_⟩
      have rm : (nI 30 - nI n = nI 0) = (n = 30) := (nI_sub0 (by omega) (by omega)).trans (propext eq_comm)
      rcases (show (k' = k ∧ n = 30) ∨ k' ≠ k by omega) with ⟨hc1, hc2⟩ | hc1
      all_goals refine ⟨w_fin ?_, w_fin ?_⟩
      · skip
        repeat' first
          | refine w_st rfl rfl ?_
          | refine w_no rfl rfl ?_ ?_
          | (refine w_br rfl rfl (fun z => ?_) (fun z => ?_) <;> try (first | contradiction | (simp (disch := omega) only [b1, b2, b4, ek, es, d1, d2, d3, d4, rm, ei, el, kc, nI_eq, nI_ltI, nI_leI, nI_m1, hu_o, hu_k, hu_same, not_true_eq_false, not_false_eq_true] at z; first | done | omega)))
          | refine w_in rfl rfl ?_
          | refine w_end rfl rfl ?_
          | refine w_endY rfl rfl ?_ ?_
          | refine w_up ?_
        all_goals try (intro z; simp (disch := omega) only [b1, b2, b4, ek, es, d1, d2, d3, d4, rm, ei, el, nI_clamp, kc, nI_ltI, hu_o, hu_k, hu_same, false_or] at z <;> omega)
        all_goals try exact Or.inr (Or.inr rfl)
        all_goals try exact Or.inr (Or.inl rfl)
        all_goals rfl
      · skip
        repeat' first
          | refine w_st rfl rfl ?_
          | refine w_no rfl rfl ?_ ?_
          | (refine w_br rfl rfl (fun z => ?_) (fun z => ?_) <;> try (first | contradiction | (simp (disch := omega) only [b1, b2, b4, ek, es, d1, d2, d3, d4, rm, ei, el, kc, nI_eq, nI_ltI, nI_leI, nI_m1, hu_o, hu_k, hu_same, not_true_eq_false, not_false_eq_true] at z; first | done | omega)))
          | refine w_in rfl rfl ?_
          | refine w_end rfl rfl ?_
          | refine w_endY rfl rfl ?_ ?_
          | refine w_up ?_
        all_goals try (intro z; simp (disch := omega) only [b1, b2, b4, ek, es, d1, d2, d3, d4, rm, ei, el, nI_clamp, kc, nI_ltI, hu_o, hu_k, hu_same, false_or] at z <;> omega)
        all_goals try exact Or.inr (Or.inr rfl)
        all_goals try exact Or.inr (Or.inl rfl)
        all_goals rfl
      · skip
        repeat' first
          | refine w_st rfl rfl ?_
          | refine w_no rfl rfl ?_ ?_
          | (refine w_br rfl rfl (fun z => ?_) (fun z => ?_) <;> try (first | contradiction | (simp (disch := omega) only [b1, b2, b4, ek, es, d1, d2, d3, d4, rm, ei, el, kc, nI_eq, nI_ltI, nI_leI, nI_m1, hu_o, hu_k, hu_same, not_true_eq_false, not_false_eq_true] at z; first | done | omega)))
          | refine w_in rfl rfl ?_
          | refine w_end rfl rfl ?_
          | refine w_endY rfl rfl ?_ ?_
          | refine w_up ?_
        all_goals try (intro z; simp (disch := omega) only [b1, b2, b4, ek, es, d1, d2, d3, d4, rm, ei, el, nI_clamp, kc, nI_ltI, hu_o, hu_k, hu_same, false_or] at z <;> omega)
        all_goals try exact Or.inr (Or.inr rfl)
        all_goals try exact Or.inr (Or.inl rfl)
        all_goals rfl
      · skip
        repeat' first
          | refine w_st rfl rfl ?_
          | refine w_no rfl rfl ?_ ?_
          | (refine w_br rfl rfl (fun z => ?_) (fun z => ?_) <;> try (first | contradiction | (simp (disch := omega) only [b1, b2, b4, ek, es, d1, d2, d3, d4, rm, ei, el, kc, nI_eq, nI_ltI, nI_leI, nI_m1, hu_o, hu_k, hu_same, not_true_eq_false, not_false_eq_true] at z; first | done | omega)))
          | refine w_in rfl rfl ?_
          | refine w_end rfl rfl ?_
          | refine w_endY rfl rfl ?_ ?_
          | refine w_up ?_
        all_goals try (intro z; simp (disch := omega) only [b1, b2, b4, ek, es, d1, d2, d3, d4, rm, ei, el, nI_clamp, kc, nI_ltI, hu_o, hu_k, hu_same, false_or] at z <;> omega)
        all_goals try exact Or.inr (Or.inr rfl)
        all_goals try exact Or.inr (Or.inl rfl)
        all_goals rfl
    · have rm : (nI 30 - nI n = nI 0) = (n = 30) := (nI_sub0 (by omega) (by omega)).trans (propext eq_comm)
      have hn30 : n ≠ 30 := fun z => hc (Or.inl z)
      have hkk : k' = k := Classical.byContradiction (fun z => hc (Or.inr z))
      subst hkk
      refine Or.inl ⟨hu c 11 2 (nI (n + 1)), hu m 37 2 (nI (n + 1)), w_fin ?_, w_fin ?_, ⟨hfl, hvd, hbt, hsz, hes, fun i hi => ?_, hbk, hpy.1, fun z => ?_⟩, hn0, rfl⟩
      · skip
        repeat' first
          | refine w_st rfl rfl ?_
          | refine w_no rfl rfl ?_ ?_
          | (refine w_br rfl rfl (fun z => ?_) (fun z => ?_) <;> try (first | contradiction | (simp (disch := omega) only [b1, b2, b4, ek, es, d1, d2, d3, d4, rm, ei, el, kc, nI_eq, nI_ltI, nI_leI, nI_m1, hu_o, hu_k, hu_same, not_true_eq_false, not_false_eq_true] at z; first | done | omega)))
          | refine w_in rfl rfl ?_
          | refine w_end rfl rfl ?_
          | refine w_endY rfl rfl ?_ ?_
          | refine w_up ?_
        all_goals try (intro z; simp (disch := omega) only [b1, b2, b4, ek, es, d1, d2, d3, d4, rm, ei, el, nI_clamp, kc, nI_ltI, hu_o, hu_k, hu_same, false_or] at z <;> omega)
        all_goals try exact Or.inr (Or.inr rfl)
        all_goals try exact Or.inr (Or.inl rfl)
        all_goals try (exfalso; simp (disch := omega) only [b1, b2, b4, ek, es, d1, d2, d3, d4, rm, ei, el, kc, nI_eq, nI_clamp, hu_o, hu_k] at * <;> omega)
        all_goals (simp (disch := omega) only [kc, d3, d4, nI_clamp, ei, es, b4, hu_o, hu_k, nI_add] <;> first | done | rfl)
      · skip
        repeat' first
          | refine w_st rfl rfl ?_
          | refine w_no rfl rfl ?_ ?_
          | (refine w_br rfl rfl (fun z => ?_) (fun z => ?_) <;> try (first | contradiction | (simp (disch := omega) only [b1, b2, b4, ek, es, d1, d2, d3, d4, rm, ei, el, kc, nI_eq, nI_ltI, nI_leI, nI_m1, hu_o, hu_k, hu_same, not_true_eq_false, not_false_eq_true] at z; first | done | omega)))
          | refine w_in rfl rfl ?_
          | refine w_end rfl rfl ?_
          | refine w_endY rfl rfl ?_ ?_
          | refine w_up ?_
        all_goals try (intro z; simp (disch := omega) only [b1, b2, b4, ek, es, d1, d2, d3, d4, rm, ei, el, nI_clamp, kc, nI_ltI, hu_o, hu_k, hu_same, false_or] at z <;> omega)
        all_goals try exact Or.inr (Or.inr rfl)
        all_goals try exact Or.inr (Or.inl rfl)
        all_goals try (exfalso; simp (disch := omega) only [b1, b2, b4, ek, es, d1, d2, d3, d4, rm, ei, el, kc, nI_eq, nI_clamp, hu_o, hu_k] at * <;> omega)
        all_goals (simp (disch := omega) only [kc, d3, d4, nI_clamp, ei, es, b4, hu_o, hu_k, nI_add] <;> first | done | rfl)
      · by_cases hi2 : i = 2
        · subst hi2
          exact ⟨k', n + 1, hk1, hk2, by omega, d1, d2, by simp [hu], by simp [hu]⟩
        · obtain ⟨k2, n2, r⟩ := hmg i hi
          exact ⟨k2, n2, by simpa [hu, hi2] using r⟩
      · obtain ⟨q, q1, q2⟩ := hpy.2 z
        refine ⟨q, fun kk z1 z2 => ?_, q2⟩
        obtain ⟨w1, w2, w3⟩ := q1 kk z1 z2
        refine ⟨w1, w2, Nat.le_trans w3 (stk_le (fun i hi => ?_) kk)⟩
        by_cases hi2 : i = 2
        · subst hi2
          simp only [hu_same]
          rw [d4, nI_clamp (by omega), nI_clamp (by omega)]
          omega
        · rw [hu_k hi2]
          exact Nat.le_refl _
  · obtain rfl : 6 = s := (nI_eq (by omega) (by omega)).mp hq
    obtain ⟨k', n, hk1, hk2, hn, d1, d2, d3, d4⟩ := hmg 3 (by decide)
    have ei : (nI 5 - nI 2).toNatClampNeg = 3 := by decide
    have el : (nI 5 - nI 2 < nI 0) = False := eq_false (by decide)
    by_cases hc : n = 30 ∨ k' ≠ k
    · refine Or.inr ⟨by decide, ?_⟩
      have rm : (nI 30 - nI n = nI 0) = (n = 30) := (nI_sub0 (by omega) (by omega)).trans (propext eq_comm)
      rcases (show (k' = k ∧ n = 30) ∨ k' ≠ k by omega) with ⟨hc1, hc2⟩ | hc1
      all_goals refine ⟨w_fin ?_, w_fin ?_⟩
      · skip
        repeat' first
          | refine w_st rfl rfl ?_
          | refine w_no rfl rfl ?_ ?_
          | (refine w_br rfl rfl (fun z => ?_) (fun z => ?_) <;> try (first | contradiction | (simp (disch := omega) only [b1, b2, b4, ek, es, d1, d2, d3, d4, rm, ei, el, kc, nI_eq, nI_ltI, nI_leI, nI_m1, hu_o, hu_k, hu_same, not_true_eq_false, not_false_eq_true] at z; first | done | omega)))
          | refine w_in rfl rfl ?_
          | refine w_end rfl rfl ?_
          | refine w_endY rfl rfl ?_ ?_
          | refine w_up ?_
        all_goals try (intro z; simp (disch := omega) only [b1, b2, b4, ek, es, d1, d2, d3, d4, rm, ei, el, nI_clamp, kc, nI_ltI, hu_o, hu_k, hu_same, false_or] at z <;> omega)
        all_goals try exact Or.inr (Or.inr rfl)
        all_goals try exact Or.inr (Or.inl rfl)
        all_goals rfl
      · skip
        repeat' first
          | refine w_st rfl rfl ?_
          | refine w_no rfl rfl ?_ ?_
          | (refine w_br rfl rfl (fun z => ?_) (fun z => ?_) <;> try (first | contradiction | (simp (disch := omega) only [b1, b2, b4, ek, es, d1, d2, d3, d4, rm, ei, el, kc, nI_eq, nI_ltI, nI_leI, nI_m1, hu_o, hu_k, hu_same, not_true_eq_false, not_false_eq_true] at z; first | done | omega)))
          | refine w_in rfl rfl ?_
          | refine w_end rfl rfl ?_
          | refine w_endY rfl rfl ?_ ?_
          | refine w_up ?_
        all_goals try (intro z; simp (disch := omega) only [b1, b2, b4, ek, es, d1, d2, d3, d4, rm, ei, el, nI_clamp, kc, nI_ltI, hu_o, hu_k, hu_same, false_or] at z <;> omega)
        all_goals try exact Or.inr (Or.inr rfl)
        all_goals try exact Or.inr (Or.inl rfl)
        all_goals rfl
      · skip
        repeat' first
          | refine w_st rfl rfl ?_
          | refine w_no rfl rfl ?_ ?_
          | (refine w_br rfl rfl (fun z => ?_) (fun z => ?_) <;> try (first | contradiction | (simp (disch := omega) only [b1, b2, b4, ek, es, d1, d2, d3, d4, rm, ei, el, kc, nI_eq, nI_ltI, nI_leI, nI_m1, hu_o, hu_k, hu_same, not_true_eq_false, not_false_eq_true] at z; first | done | omega)))
          | refine w_in rfl rfl ?_
          | refine w_end rfl rfl ?_
          | refine w_endY rfl rfl ?_ ?_
          | refine w_up ?_
        all_goals try (intro z; simp (disch := omega) only [b1, b2, b4, ek, es, d1, d2, d3, d4, rm, ei, el, nI_clamp, kc, nI_ltI, hu_o, hu_k, hu_same, false_or] at z <;> omega)
        all_goals try exact Or.inr (Or.inr rfl)
        all_goals try exact Or.inr (Or.inl rfl)
        all_goals rfl
      · skip
        repeat' first
          | refine w_st rfl rfl ?_
          | refine w_no rfl rfl ?_ ?_
          | (refine w_br rfl rfl (fun z => ?_) (fun z => ?_) <;> try (first | contradiction | (simp (disch := omega) only [b1, b2, b4, ek, es, d1, d2, d3, d4, rm, ei, el, kc, nI_eq, nI_ltI, nI_leI, nI_m1, hu_o, hu_k, hu_same, not_true_eq_false, not_false_eq_true] at z; first | done | omega)))
          | refine w_in rfl rfl ?_
          | refine w_end rfl rfl ?_
          | refine w_endY rfl rfl ?_ ?_
          | refine w_up ?_
        all_goals try (intro z; simp (disch := omega) only [b1, b2, b4, ek, es, d1, d2, d3, d4, rm, ei, el, nI_clamp, kc, nI_ltI, hu_o, hu_k, hu_same, false_or] at z <;> omega)
        all_goals try exact Or.inr (Or.inr rfl)
        all_goals try exact Or.inr (Or.inl rfl)
        all_goals rfl
    · have rm : (nI 30 - nI n = nI 0) = (n = 30) := (nI_sub0 (by omega) (by omega)).trans (propext eq_comm)
      have hn30 : n ≠ 30 := fun z => hc (Or.inl z)
      have hkk : k' = k := Classical.byContradiction (fun z => hc (Or.inr z))
      subst hkk
      refine Or.inl ⟨hu c 11 3 (nI (n + 1)), hu m 37 3 (nI (n + 1)), w_fin ?_, w_fin ?_, ⟨hfl, hvd, hbt, hsz, hes, fun i hi => ?_, hbk, hpy.1, fun z => ?_⟩, hn0, rfl⟩
      · skip
        repeat' first
          | refine w_st rfl rfl ?_
          | refine w_no rfl rfl ?_ ?_
          | (refine w_br rfl rfl (fun z => ?_) (fun z => ?_) <;> try (first | contradiction | (simp (disch := omega) only [b1, b2, b4, ek, es, d1, d2, d3, d4, rm, ei, el, kc, nI_eq, nI_ltI, nI_leI, nI_m1, hu_o, hu_k, hu_same, not_true_eq_false, not_false_eq_true] at z; first | done | omega)))
          | refine w_in rfl rfl ?_
          | refine w_end rfl rfl ?_
          | refine w_endY rfl rfl ?_ ?_
          | refine w_up ?_
        all_goals try (intro z; simp (disch := omega) only [b1, b2, b4, ek, es, d1, d2, d3, d4, rm, ei, el, nI_clamp, kc, nI_ltI, hu_o, hu_k, hu_same, false_or] at z <;> omega)
        all_goals try exact Or.inr (Or.inr rfl)
        all_goals try exact Or.inr (Or.inl rfl)
        all_goals try (exfalso; simp (disch := omega) only [b1, b2, b4, ek, es, d1, d2, d3, d4, rm, ei, el, kc, nI_eq, nI_clamp, hu_o, hu_k] at * <;> omega)
        all_goals (simp (disch := omega) only [kc, d3, d4, nI_clamp, ei, es, b4, hu_o, hu_k, nI_add] <;> first | done | rfl)
      · skip
        repeat' first
          | refine w_st rfl rfl ?_
          | refine w_no rfl rfl ?_ ?_
          | (refine w_br rfl rfl (fun z => ?_) (fun z => ?_) <;> try (first | contradiction | (simp (disch := omega) only [b1, b2, b4, ek, es, d1, d2, d3, d4, rm, ei, el, kc, nI_eq, nI_ltI, nI_leI, nI_m1, hu_o, hu_k, hu_same, not_true_eq_false, not_false_eq_true] at z; first | done | omega)))
          | refine w_in rfl rfl ?_
          | refine w_end rfl rfl ?_
          | refine w_endY rfl rfl ?_ ?_
          | refine w_up ?_
        all_goals try (intro z; simp (disch := omega) only [b1, b2, b4, ek, es, d1, d2, d3, d4, rm, ei, el, nI_clamp, kc, nI_ltI, hu_o, hu_k, hu_same, false_or] at z <;> omega)
        all_goals try exact Or.inr (Or.inr rfl)
        all_goals try exact Or.inr (Or.inl rfl)
        all_goals try (exfalso; simp (disch := omega) only [b1, b2, b4, ek, es, d1, d2, d3, d4, rm, ei, el, kc, nI_eq, nI_clamp, hu_o, hu_k] at * <;> omega)
        all_goals (simp (disch := omega) only [kc, d3, d4, nI_clamp, ei, es, b4, hu_o, hu_k, nI_add] <;> first | done | rfl)
      · by_cases hi2 : i = 3
        · subst hi2
          exact ⟨k', n + 1, hk1, hk2, by omega, d1, d2, by simp [hu], by simp [hu]⟩
        · obtain ⟨k2, n2, r⟩ := hmg i hi
          exact ⟨k2, n2, by simpa [hu, hi2] using r⟩
      · obtain ⟨q, q1, q2⟩ := hpy.2 z
        refine ⟨q, fun kk z1 z2 => ?_, q2⟩
        obtain ⟨w1, w2, w3⟩ := q1 kk z1 z2
        refine ⟨w1, w2, Nat.le_trans w3 (stk_le (fun i hi => ?_) kk)⟩
        by_cases hi2 : i = 3
        · subst hi2
          simp only [hu_same]
          rw [d4, nI_clamp (by omega), nI_clamp (by omega)]
          omega
        · rw [hu_k hi2]
          exact Nat.le_refl _
  · obtain rfl : 7 = s := (nI_eq (by omega) (by omega)).mp hq
    refine Or.inl ⟨hu c 18 k (c 18 k + nI 1), hu m 39 k (m 39 k + nI 1), w_fin ?_, w_fin ?_, ⟨hfl, hvd, hbt, hsz, hes, hmg, bk_add (k := k) (x := nI 1) 18 39 hbk rfl rfl (by decide), hpy⟩, hn0, rfl⟩
    · skip
      repeat' first
        | refine w_st rfl rfl ?_
        | refine w_no rfl rfl ?_ ?_
        | (refine w_br rfl rfl (fun z => ?_) (fun z => ?_) <;> try (first | contradiction | (simp (disch := omega) only [b1, b2, b4, ek, es, kc, nI_eq, nI_ltI, nI_leI, nI_m1, hu_o, hu_k, hu_same, not_true_eq_false, not_false_eq_true] at z; first | done | omega)))
        | refine w_in rfl rfl ?_
        | refine w_end rfl rfl ?_
        | refine w_endY rfl rfl ?_ ?_
        | refine w_up ?_
      all_goals try (intro z; simp (disch := omega) only [b1, b2, b4, ek, es, nI_clamp, kc, nI_ltI, hu_o, hu_k, hu_same, false_or] at z <;> omega)
      all_goals try exact Or.inr (Or.inr rfl)
      all_goals try exact Or.inr (Or.inl rfl)
      all_goals (simp (disch := omega) only [kc, b2, nI_clamp, hu_o, hu_k] <;> first | done | rfl)
    · skip
      repeat' first
        | refine w_st rfl rfl ?_
        | refine w_no rfl rfl ?_ ?_
        | (refine w_br rfl rfl (fun z => ?_) (fun z => ?_) <;> try (first | contradiction | (simp (disch := omega) only [b1, b2, b4, ek, es, kc, nI_eq, nI_ltI, nI_leI, nI_m1, hu_o, hu_k, hu_same, not_true_eq_false, not_false_eq_true] at z; first | done | omega)))
        | refine w_in rfl rfl ?_
        | refine w_end rfl rfl ?_
        | refine w_endY rfl rfl ?_ ?_
        | refine w_up ?_
      all_goals try (intro z; simp (disch := omega) only [b1, b2, b4, ek, es, nI_clamp, kc, nI_ltI, hu_o, hu_k, hu_same, false_or] at z <;> omega)
      all_goals try exact Or.inr (Or.inr rfl)
      all_goals try exact Or.inr (Or.inl rfl)
      all_goals (simp (disch := omega) only [kc, b2, nI_clamp, hu_o, hu_k] <;> first | done | rfl)
  · obtain rfl : 8 = s := (nI_eq (by omega) (by omega)).mp hq
    refine Or.inl ⟨hu c 16 k (c 16 k + nI 1), hu m 38 k (m 38 k + nI 1), w_fin ?_, w_fin ?_, ⟨hfl, hvd, hbt, hsz, hes, hmg, bk_add (k := k) (x := nI 1) 16 38 hbk rfl rfl (by decide), hpy⟩, hn0, rfl⟩
    · skip
      repeat' first
        | refine w_st rfl rfl ?_
        | refine w_no rfl rfl ?_ ?_
        | (refine w_br rfl rfl (fun z => ?_) (fun z => ?_) <;> try (first | contradiction | (simp (disch := omega) only [b1, b2, b4, ek, es, kc, nI_eq, nI_ltI, nI_leI, nI_m1, hu_o, hu_k, hu_same, not_true_eq_false, not_false_eq_true] at z; first | done | omega)))
        | refine w_in rfl rfl ?_
        | refine w_end rfl rfl ?_
        | refine w_endY rfl rfl ?_ ?_
        | refine w_up ?_
      all_goals try (intro z; simp (disch := omega) only [b1, b2, b4, ek, es, nI_clamp, kc, nI_ltI, hu_o, hu_k, hu_same, false_or] at z <;> omega)
      all_goals try exact Or.inr (Or.inr rfl)
      all_goals try exact Or.inr (Or.inl rfl)
      all_goals (simp (disch := omega) only [kc, b2, nI_clamp, hu_o, hu_k] <;> first | done | rfl)
    · skip
      repeat' first
        | refine w_st rfl rfl ?_
        | refine w_no rfl rfl ?_ ?_
        | (refine w_br rfl rfl (fun z => ?_) (fun z => ?_) <;> try (first | contradiction | (simp (disch := omega) only [b1, b2, b4, ek, es, kc, nI_eq, nI_ltI, nI_leI, nI_m1, hu_o, hu_k, hu_same, not_true_eq_false, not_false_eq_true] at z; first | done | omega)))
        | refine w_in rfl rfl ?_
        | refine w_end rfl rfl ?_
        | refine w_endY rfl rfl ?_ ?_
        | refine w_up ?_
      all_goals try (intro z; simp (disch := omega) only [b1, b2, b4, ek, es, nI_clamp, kc, nI_ltI, hu_o, hu_k, hu_same, false_or] at z <;> omega)
      all_goals try exact Or.inr (Or.inr rfl)
      all_goals try exact Or.inr (Or.inl rfl)
      all_goals (simp (disch := omega) only [kc, b2, nI_clamp, hu_o, hu_k] <;> first | done | rfl)
  · obtain rfl : 9 = s := (nI_eq (by omega) (by omega)).mp hq
    refine Or.inl ⟨hu c 19 k (c 19 k + nI 1), hu m 40 k (m 40 k + nI 1), w_fin ?_, w_fin ?_, ⟨hfl, hvd, hbt, hsz, hes, hmg, bk_add (k := k) (x := nI 1) 19 40 hbk rfl rfl (by decide), hpy⟩, hn0, rfl⟩
    · skip
      repeat' first
        | refine w_st rfl rfl ?_
        | refine w_no rfl rfl ?_ ?_
        | (refine w_br rfl rfl (fun z => ?_) (fun z => ?_) <;> try (first | contradiction | (simp (disch := omega) only [b1, b2, b4, ek, es, kc, nI_eq, nI_ltI, nI_leI, nI_m1, hu_o, hu_k, hu_same, not_true_eq_false, not_false_eq_true] at z; first | done | omega)))
        | refine w_in rfl rfl ?_
        | refine w_end rfl rfl ?_
        | refine w_endY rfl rfl ?_ ?_
        | refine w_up ?_
      all_goals try (intro z; simp (disch := omega) only [b1, b2, b4, ek, es, nI_clamp, kc, nI_ltI, hu_o, hu_k, hu_same, false_or] at z <;> omega)
      all_goals try exact Or.inr (Or.inr rfl)
      all_goals try exact Or.inr (Or.inl rfl)
      all_goals (simp (disch := omega) only [kc, b2, nI_clamp, hu_o, hu_k] <;> first | done | rfl)
    · skip
      repeat' first
        | refine w_st rfl rfl ?_
        | refine w_no rfl rfl ?_ ?_
        | (refine w_br rfl rfl (fun z => ?_) (fun z => ?_) <;> try (first | contradiction | (simp (disch := omega) only [b1, b2, b4, ek, es, kc, nI_eq, nI_ltI, nI_leI, nI_m1, hu_o, hu_k, hu_same, not_true_eq_false, not_false_eq_true] at z; first | done | omega)))
        | refine w_in rfl rfl ?_
        | refine w_end rfl rfl ?_
        | refine w_endY rfl rfl ?_ ?_
        | refine w_up ?_
      all_goals try (intro z; simp (disch := omega) only [b1, b2, b4, ek, es, nI_clamp, kc, nI_ltI, hu_o, hu_k, hu_same, false_or] at z <;> omega)
      all_goals try exact Or.inr (Or.inr rfl)
      all_goals try exact Or.inr (Or.inl rfl)
      all_goals (simp (disch := omega) only [kc, b2, nI_clamp, hu_o, hu_k] <;> first | done | rfl)
