/-! HOW MANY NOTES OF A KIND LIE AT A PLACE: both sides answer alike (written by wip/whole/gen_cn.py). -/
set_option maxHeartbeats 3000000 in
theorem cn2 {c m : HP} (hR : RR c m) (p k : Nat) (hp : p ≤ 10) (hk : k ≤ 5) : ∃ v, Ec 87 [.inr 0, .inl (nI p), .inl (nI k)] c (.inl (some v), c) ∧ Ec 132 [.inr 30, .inl (nI p), .inl (nI k)] m (.inl (some v), m) := by
  obtain ⟨⟨hst, ⟨u, hu1, hu2, hu3⟩, hpw, hop, hsb⟩, hvd, hbt, hsz, ⟨e, he, es1, es2, es3⟩, hmg, hbk, hpy⟩ := hR
  obtain ⟨k1, k2, k3, k4, k5, k6, k7⟩ := hbk k (by omega)
  have ek : (nI k).toNatClampNeg = k := nI_clamp (by omega)
  have hc4 : ∀ s, s < 4 → ∃ n, n ≤ 30 ∧ c 11 s = nI n := fun s hs => by
    obtain ⟨_, n, _, _, hn, _, _, h3, _⟩ := hmg s hs
    exact ⟨n, hn, h3⟩
  have hm4 : ∀ s, s < 4 → ∃ n, n ≤ 30 ∧ m 37 s = nI n := fun s hs => by
    obtain ⟨_, n, _, _, hn, _, _, _, h4⟩ := hmg s hs
    exact ⟨n, hn, h4⟩
  rcases (show p = 0 ∨ p = 1 ∨ p = 2 ∨ p = 3 ∨ p = 4 ∨ p = 5 ∨ p = 6 ∨ p = 7 ∨ p = 8 ∨ p = 9 ∨ p = 10 by omega) with rfl | rfl | rfl | rfl | rfl | rfl | rfl | rfl | rfl | rfl | rfl
  · refine ⟨(nI (sm (fun s => if m 35 s = nI k then 1 else 0) e)), w_fin ?_, w_fin ?_⟩
    · repeat' first
        | refine w_st rfl rfl ?_
        | refine w_ca rfl rfl (c_escCount c (nI k) e ⟨he, es1⟩) ?_
        | refine w_no rfl rfl ?_ ?_
        | refine w_br rfl rfl (fun z => ?_) (fun z => ?_)
        | refine w_in rfl rfl ?_
        | refine w_end rfl rfl ?_
        | refine w_up ?_
      all_goals try (intro z; simp (disch := omega) only [nI_clamp, kc, nI_ltI] at z <;> omega)
      all_goals first | rfl | (rw [k_pile es3]) | (rw [k_mag hmg]) | (rw [k_belt hbt k hk])
    · repeat' first
        | refine w_st rfl rfl ?_
        | refine w_ca rfl rfl (m_inPile m (nI k) e ⟨he, es2⟩) ?_
        | refine w_no rfl rfl ?_ ?_
        | refine w_br rfl rfl (fun z => ?_) (fun z => ?_)
        | refine w_in rfl rfl ?_
        | refine w_end rfl rfl ?_
        | refine w_up ?_
      all_goals try (intro z; simp (disch := omega) only [nI_clamp, kc, nI_ltI] at z <;> omega)
      all_goals first | rfl | (rw [k_pile es3]) | (rw [k_mag hmg]) | (rw [k_belt hbt k hk])
  · refine ⟨(nI (sm (fun s => if m 36 s = nI k then (m 37 s).toNatClampNeg else 0) 4)), w_fin ?_, w_fin ?_⟩
    · repeat' first
        | refine w_st rfl rfl ?_
        | refine w_ca rfl rfl (c_magCount c (nI k) hc4) ?_
        | refine w_no rfl rfl ?_ ?_
        | refine w_br rfl rfl (fun z => ?_) (fun z => ?_)
        | refine w_in rfl rfl ?_
        | refine w_end rfl rfl ?_
        | refine w_up ?_
      all_goals try (intro z; simp (disch := omega) only [nI_clamp, kc, nI_ltI] at z <;> omega)
      all_goals first | rfl | (rw [k_pile es3]) | (rw [k_mag hmg]) | (rw [k_belt hbt k hk])
    · repeat' first
        | refine w_st rfl rfl ?_
        | refine w_ca rfl rfl (m_inStores m (nI k) hm4) ?_
        | refine w_no rfl rfl ?_ ?_
        | refine w_br rfl rfl (fun z => ?_) (fun z => ?_)
        | refine w_in rfl rfl ?_
        | refine w_end rfl rfl ?_
        | refine w_up ?_
      all_goals try (intro z; simp (disch := omega) only [nI_clamp, kc, nI_ltI] at z <;> omega)
      all_goals first | rfl | (rw [k_pile es3]) | (rw [k_mag hmg]) | (rw [k_belt hbt k hk])
  · refine ⟨(m 38 k), w_fin ?_, w_fin ?_⟩
    · repeat' first
        | refine w_st rfl rfl ?_
        | refine w_no rfl rfl ?_ ?_
        | refine w_br rfl rfl (fun z => ?_) (fun z => ?_)
        | refine w_in rfl rfl ?_
        | refine w_end rfl rfl ?_
        | refine w_up ?_
      all_goals try (intro z; simp (disch := omega) only [nI_clamp, kc, nI_ltI] at z <;> omega)
      all_goals first | (show (Sum.inl (some (c 16 (nI k).toNatClampNeg)), c) = _; simp only [ek, k1, k2, k3, k4, k5, k6, k7]; done)
    · repeat' first
        | refine w_st rfl rfl ?_
        | refine w_no rfl rfl ?_ ?_
        | refine w_br rfl rfl (fun z => ?_) (fun z => ?_)
        | refine w_in rfl rfl ?_
        | refine w_end rfl rfl ?_
        | refine w_up ?_
      all_goals try (intro z; simp (disch := omega) only [nI_clamp, kc, nI_ltI] at z <;> omega)
      all_goals simp only [ek, k1, k2, k3, k4, k5, k6, k7]
      all_goals try rfl
  · refine ⟨(nI (sm (fun s => if m 32 s = nI k then 1 else 0) 10)), w_fin ?_, w_fin ?_⟩
    · repeat' first
        | refine w_st rfl rfl ?_
        | refine w_ca rfl rfl (c_count c (nI k)) ?_
        | refine w_no rfl rfl ?_ ?_
        | refine w_br rfl rfl (fun z => ?_) (fun z => ?_)
        | refine w_in rfl rfl ?_
        | refine w_end rfl rfl ?_
        | refine w_up ?_
      all_goals try (intro z; simp (disch := omega) only [nI_clamp, kc, nI_ltI] at z <;> omega)
      all_goals first | rfl | (rw [k_pile es3]) | (rw [k_mag hmg]) | (rw [k_belt hbt k hk])
    · repeat' first
        | refine w_st rfl rfl ?_
        | refine w_ca rfl rfl (m_ofBelt m (nI k)) ?_
        | refine w_no rfl rfl ?_ ?_
        | refine w_br rfl rfl (fun z => ?_) (fun z => ?_)
        | refine w_in rfl rfl ?_
        | refine w_end rfl rfl ?_
        | refine w_up ?_
      all_goals try (intro z; simp (disch := omega) only [nI_clamp, kc, nI_ltI] at z <;> omega)
      all_goals first | rfl | (rw [k_pile es3]) | (rw [k_mag hmg]) | (rw [k_belt hbt k hk])
  · refine ⟨(m 39 k), w_fin ?_, w_fin ?_⟩
    · repeat' first
        | refine w_st rfl rfl ?_
        | refine w_no rfl rfl ?_ ?_
        | refine w_br rfl rfl (fun z => ?_) (fun z => ?_)
        | refine w_in rfl rfl ?_
        | refine w_end rfl rfl ?_
        | refine w_up ?_
      all_goals try (intro z; simp (disch := omega) only [nI_clamp, kc, nI_ltI] at z <;> omega)
      all_goals first | (show (Sum.inl (some (c 18 (nI k).toNatClampNeg)), c) = _; simp only [ek, k1, k2, k3, k4, k5, k6, k7]; done)
    · repeat' first
        | refine w_st rfl rfl ?_
        | refine w_no rfl rfl ?_ ?_
        | refine w_br rfl rfl (fun z => ?_) (fun z => ?_)
        | refine w_in rfl rfl ?_
        | refine w_end rfl rfl ?_
        | refine w_up ?_
      all_goals try (intro z; simp (disch := omega) only [nI_clamp, kc, nI_ltI] at z <;> omega)
      all_goals simp only [ek, k1, k2, k3, k4, k5, k6, k7]
      all_goals try rfl
  · refine ⟨(m 40 k), w_fin ?_, w_fin ?_⟩
    · repeat' first
        | refine w_st rfl rfl ?_
        | refine w_no rfl rfl ?_ ?_
        | refine w_br rfl rfl (fun z => ?_) (fun z => ?_)
        | refine w_in rfl rfl ?_
        | refine w_end rfl rfl ?_
        | refine w_up ?_
      all_goals try (intro z; simp (disch := omega) only [nI_clamp, kc, nI_ltI] at z <;> omega)
      all_goals first | (show (Sum.inl (some (c 19 (nI k).toNatClampNeg)), c) = _; simp only [ek, k1, k2, k3, k4, k5, k6, k7]; done)
    · repeat' first
        | refine w_st rfl rfl ?_
        | refine w_no rfl rfl ?_ ?_
        | refine w_br rfl rfl (fun z => ?_) (fun z => ?_)
        | refine w_in rfl rfl ?_
        | refine w_end rfl rfl ?_
        | refine w_up ?_
      all_goals try (intro z; simp (disch := omega) only [nI_clamp, kc, nI_ltI] at z <;> omega)
      all_goals simp only [ek, k1, k2, k3, k4, k5, k6, k7]
      all_goals try rfl
  · refine ⟨(m 41 k), w_fin ?_, w_fin ?_⟩
    · repeat' first
        | refine w_st rfl rfl ?_
        | refine w_no rfl rfl ?_ ?_
        | refine w_br rfl rfl (fun z => ?_) (fun z => ?_)
        | refine w_in rfl rfl ?_
        | refine w_end rfl rfl ?_
        | refine w_up ?_
      all_goals try (intro z; simp (disch := omega) only [nI_clamp, kc, nI_ltI] at z <;> omega)
      all_goals first | (show (Sum.inl (some (c 20 (nI k).toNatClampNeg)), c) = _; simp only [ek, k1, k2, k3, k4, k5, k6, k7]; done)
    · repeat' first
        | refine w_st rfl rfl ?_
        | refine w_no rfl rfl ?_ ?_
        | refine w_br rfl rfl (fun z => ?_) (fun z => ?_)
        | refine w_in rfl rfl ?_
        | refine w_end rfl rfl ?_
        | refine w_up ?_
      all_goals try (intro z; simp (disch := omega) only [nI_clamp, kc, nI_ltI] at z <;> omega)
      all_goals simp only [ek, k1, k2, k3, k4, k5, k6, k7]
      all_goals try rfl
  · refine ⟨(m 42 k), w_fin ?_, w_fin ?_⟩
    · repeat' first
        | refine w_st rfl rfl ?_
        | refine w_no rfl rfl ?_ ?_
        | refine w_br rfl rfl (fun z => ?_) (fun z => ?_)
        | refine w_in rfl rfl ?_
        | refine w_end rfl rfl ?_
        | refine w_up ?_
      all_goals try (intro z; simp (disch := omega) only [nI_clamp, kc, nI_ltI] at z <;> omega)
      all_goals first | (show (Sum.inl (some (c 21 (nI k).toNatClampNeg)), c) = _; simp only [ek, k1, k2, k3, k4, k5, k6, k7]; done)
    · repeat' first
        | refine w_st rfl rfl ?_
        | refine w_no rfl rfl ?_ ?_
        | refine w_br rfl rfl (fun z => ?_) (fun z => ?_)
        | refine w_in rfl rfl ?_
        | refine w_end rfl rfl ?_
        | refine w_up ?_
      all_goals try (intro z; simp (disch := omega) only [nI_clamp, kc, nI_ltI] at z <;> omega)
      all_goals simp only [ek, k1, k2, k3, k4, k5, k6, k7]
      all_goals try rfl
  · refine ⟨(m 43 k), w_fin ?_, w_fin ?_⟩
    · repeat' first
        | refine w_st rfl rfl ?_
        | refine w_no rfl rfl ?_ ?_
        | refine w_br rfl rfl (fun z => ?_) (fun z => ?_)
        | refine w_in rfl rfl ?_
        | refine w_end rfl rfl ?_
        | refine w_up ?_
      all_goals try (intro z; simp (disch := omega) only [nI_clamp, kc, nI_ltI] at z <;> omega)
      all_goals first | (show (Sum.inl (some (c 22 (nI k).toNatClampNeg)), c) = _; simp only [ek, k1, k2, k3, k4, k5, k6, k7]; done)
    · repeat' first
        | refine w_st rfl rfl ?_
        | refine w_no rfl rfl ?_ ?_
        | refine w_br rfl rfl (fun z => ?_) (fun z => ?_)
        | refine w_in rfl rfl ?_
        | refine w_end rfl rfl ?_
        | refine w_up ?_
      all_goals try (intro z; simp (disch := omega) only [nI_clamp, kc, nI_ltI] at z <;> omega)
      all_goals simp only [ek, k1, k2, k3, k4, k5, k6, k7]
      all_goals try rfl
  · refine ⟨(m 44 k), w_fin ?_, w_fin ?_⟩
    · repeat' first
        | refine w_st rfl rfl ?_
        | refine w_no rfl rfl ?_ ?_
        | refine w_br rfl rfl (fun z => ?_) (fun z => ?_)
        | refine w_in rfl rfl ?_
        | refine w_end rfl rfl ?_
        | refine w_up ?_
      all_goals try (intro z; simp (disch := omega) only [nI_clamp, kc, nI_ltI] at z <;> omega)
      all_goals first | (show (Sum.inl (some (c 23 (nI k).toNatClampNeg)), c) = _; simp only [ek, k1, k2, k3, k4, k5, k6, k7]; done)
    · repeat' first
        | refine w_st rfl rfl ?_
        | refine w_no rfl rfl ?_ ?_
        | refine w_br rfl rfl (fun z => ?_) (fun z => ?_)
        | refine w_in rfl rfl ?_
        | refine w_end rfl rfl ?_
        | refine w_up ?_
      all_goals try (intro z; simp (disch := omega) only [nI_clamp, kc, nI_ltI] at z <;> omega)
      all_goals simp only [ek, k1, k2, k3, k4, k5, k6, k7]
      all_goals try rfl
  · refine ⟨(if nI k = 0 then m 30 5 else Int32.ofInt 0), w_fin ?_, w_fin ?_⟩
    · repeat' first
        | refine w_st rfl rfl ?_
        | refine w_no rfl rfl ?_ ?_
        | refine w_br rfl rfl (fun z => ?_) (fun z => ?_)
        | refine w_in rfl rfl ?_
        | refine w_end rfl rfl ?_
        | refine w_up ?_
      all_goals try (intro z; simp (disch := omega) only [nI_clamp, kc, nI_ltI] at z <;> omega)
      all_goals first | (rw [if_pos (by assumption)]; show (Sum.inl (some (c 0 8)), c) = _; rw [hu2, hu3]; done) | (rw [if_neg (by assumption)]; done)
    · repeat' first
        | refine w_st rfl rfl ?_
        | refine w_no rfl rfl ?_ ?_
        | refine w_br rfl rfl (fun z => ?_) (fun z => ?_)
        | refine w_in rfl rfl ?_
        | refine w_end rfl rfl ?_
        | refine w_up ?_
      all_goals try (intro z; simp (disch := omega) only [nI_clamp, kc, nI_ltI] at z <;> omega)
      all_goals first | (rw [if_pos (by assumption)]; done) | (rw [if_neg (by assumption)]; done)
