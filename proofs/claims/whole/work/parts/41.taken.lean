/-! TAKEN (written by wip/whole/gen_ops7.py). -/
set_option maxHeartbeats 3000000 in
theorem o_taken : P_D RR 69 115 := by
  intro c m hR
  have hR0 := hR
  obtain ⟨⟨⟨t, ht, h1, h2⟩, ⟨u, hu1, hu2, hu3⟩, hpw, ⟨op, hop1, hop2, hop3⟩, hsb⟩, hvd, hbt, hsz, hes, hmg, hbk, hpy⟩ := hR
  have a0 : c 19 0 = m 40 0 := (hbk 0 (by decide)).2.2.1
  have a1 : c 19 1 = m 40 1 := (hbk 1 (by decide)).2.2.1
  have a2 : c 19 2 = m 40 2 := (hbk 2 (by decide)).2.2.1
  have a3 : c 19 3 = m 40 3 := (hbk 3 (by decide)).2.2.1
  have a4 : c 19 4 = m 40 4 := (hbk 4 (by decide)).2.2.1
  have a5 : c 19 5 = m 40 5 := (hbk 5 (by decide)).2.2.1
  unfold P_run
  repeat' first
    | refine w_st rfl rfl ?_
    | refine w_no rfl rfl ?_ ?_
    | (refine w_br rfl rfl (fun z => ?_) (fun z => ?_) <;> try (first | contradiction | (simp (disch := omega) only [a0, a1, a2, a3, a4, a5, kc, nI_eq, nI_ltI, nI_leI, nI_m1, hu_o, hu_k, not_true_eq_false] at z; first | done | omega)))
    | refine w_in rfl rfl ?_
    | refine w_end rfl rfl ?_
    | refine w_endY rfl rfl ?_ ?_
    | refine w_up ?_
  simp (disch := omega) only [kc, nI_add, nI_clamp, Nat.reduceAdd, hu_same, hu_o, hu_k, nI0_add, a0, a1, a2, a3, a4, a5]
  refine ⟨⟨⟨⟨t, ht, h1, h2⟩, ⟨u, hu1, hu2, hu3⟩, hpw, ⟨op, hop1, hop2, hop3⟩, hsb⟩, hvd, hbt, hsz, hes, hmg, fun k hk => ?_, hpy⟩, _, rfl, rfl⟩
  have b := hbk k hk
  rcases (show k = 0 ∨ k = 1 ∨ k = 2 ∨ k = 3 ∨ k = 4 ∨ k = 5 by omega) with rfl | rfl | rfl | rfl | rfl | rfl <;> obtain ⟨b1, b2, b3, b4, b5, b6, b7⟩ := b <;> exact ⟨b1, b2, rfl, (by show c 20 _ + m 40 _ = m 41 _ + m 40 _; rw [b4]), b5, b6, b7⟩
