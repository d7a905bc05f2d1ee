/-! EMPTY (written by wip/whole/gen_ops9.py). -/
set_option maxHeartbeats 3000000 in
theorem o_empty (x : Int32) : P_W RR 85 128 [1, 0] true [.inl x] := by
  refine P_Wof fun c m hR => ?_
  have hR0 := hR
  obtain ⟨⟨⟨t, ht, h1, h2⟩, ⟨u, hu1, hu2, hu3⟩, hpw, ⟨op, hop1, hop2, hop3⟩, hsb⟩, hvd, hbt, hsz, hes, hmg, hbk, hpy⟩ := hR
  have hpp : ∃ pw, pw ≤ 1 ∧ c 0 9 = nI pw ∧ m 30 2 = nI (1 - pw) := by
    rcases hpw with ⟨a, b⟩ | ⟨a, b⟩
    · exact ⟨1, by decide, a, b⟩
    · exact ⟨0, by decide, a, b⟩
  obtain ⟨pw, hp, p1, p2⟩ := hpp
  by_cases hrd : pw = 1 ∧ t = 8
  · obtain ⟨rfl, rfl⟩ := hrd
    rcases ix3 x 5 (by decide) with e1 | ⟨e1, e2, e3, e4⟩ | ⟨j, hj, rfl⟩
    · have x0 : ∀ r, r < 10 → (x = nI r) = False := fun r hr => eq_false (fun z => by subst z; exact nI_pos (by omega) (of_eq_true e1))
      have x1 : (nI 4 ≤ x) = False := eq_false (fun z => by have z1 := of_eq_true e1; simp only [Int32.lt_iff_toInt_lt, Int32.le_iff_toInt_le] at z z1; have q1 : (nI 4).toInt = 4 := rfl; have q2 : (nI 0).toInt = 0 := rfl; omega)
      unfold P_run
      repeat' first
        | refine w_st rfl rfl ?_
        | refine w_no rfl rfl ?_ ?_
        | (refine w_br rfl rfl (fun z => ?_) (fun z => ?_) <;> try (first | contradiction | (simp (disch := omega) only [p1, p2, h1, h2, e1, x0, x1, kc, nI_eq, nI_ltI, nI_leI, nI_m1, hu_o, hu_k, not_true_eq_false] at z; first | done | omega)))
        | refine w_in rfl rfl ?_
        | refine w_end rfl rfl ?_
        | refine w_endY rfl rfl ?_ ?_
        | refine w_up ?_
      all_goals try (intro z; simp (disch := omega) only [p1, p2, h1, h2, e1, x0, x1, nI_clamp, kc, nI_ltI, hu_o, hu_k] at z <;> omega)
      all_goals try exact f_x 0 hR0 rfl rfl rfl
      all_goals try exact f_x 1 hR0 rfl rfl rfl
      all_goals try (exfalso; simp (disch := omega) only [p1, p2, h1, h2, e1, x0, x1, kc, nI_eq, nI_ltI, nI_leI, nI_m1, hu_o, hu_k, not_true_eq_false] at * <;> first | contradiction | omega)
    · have x0 : ∀ r, r < 6 → (x = nI r) = False := fun r hr => eq_false (fun z => by subst z; have z1 := of_eq_true e2; rw [nI_leI (by omega) (by omega)] at z1; omega)
      have x1 : (nI 4 ≤ x) = True := eq_true (by have z1 := of_eq_true e2; simp only [Int32.le_iff_toInt_le] at z1 ⊢; have q1 : (nI 4).toInt = 4 := rfl; have q2 : (nI (5 + 1)).toInt = 6 := rfl; omega)
      unfold P_run
      repeat' first
        | refine w_st rfl rfl ?_
        | refine w_no rfl rfl ?_ ?_
        | (refine w_br rfl rfl (fun z => ?_) (fun z => ?_) <;> try (first | contradiction | (simp (disch := omega) only [p1, p2, h1, h2, e1, e2, e3, e4, x0, x1, kc, nI_eq, nI_ltI, nI_leI, nI_m1, hu_o, hu_k, not_true_eq_false] at z; first | done | omega)))
        | refine w_in rfl rfl ?_
        | refine w_end rfl rfl ?_
        | refine w_endY rfl rfl ?_ ?_
        | refine w_up ?_
      all_goals try (intro z; simp (disch := omega) only [p1, p2, h1, h2, e1, e2, e3, e4, x0, x1, nI_clamp, kc, nI_ltI, hu_o, hu_k] at z <;> omega)
      all_goals try exact f_x 0 hR0 rfl rfl rfl
      all_goals try exact f_x 1 hR0 rfl rfl rfl
      all_goals try (exfalso; simp (disch := omega) only [p1, p2, h1, h2, e1, e2, e3, e4, x0, x1, kc, nI_eq, nI_ltI, nI_leI, nI_m1, hu_o, hu_k, not_true_eq_false] at * <;> first | contradiction | omega)
    · by_cases hj4 : j < 4
      · have ej : (nI j).toNatClampNeg = j := nI_clamp (by omega)
        obtain ⟨k, n, hk1, hk2, hn, b1, b2, b3, b4⟩ := hmg j hj4
        have ek : (nI k).toNatClampNeg = k := nI_clamp (by omega)
        unfold P_run
        repeat' first
          | refine w_st rfl rfl ?_
          | refine w_no rfl rfl ?_ ?_
          | (refine w_br rfl rfl (fun z => ?_) (fun z => ?_) <;> try (first | contradiction | (simp (disch := omega) only [p1, p2, h1, h2, b1, b2, b3, b4, ej, kc, nI_eq, nI_ltI, nI_leI, nI_m1, hu_o, hu_k, not_true_eq_false] at z; first | done | omega)))
          | refine w_in rfl rfl ?_
          | refine w_end rfl rfl ?_
          | refine w_endY rfl rfl ?_ ?_
          | refine w_up ?_
        all_goals try (intro z; simp (disch := omega) only [p1, p2, h1, h2, b1, b2, b3, b4, ej, nI_clamp, kc, nI_ltI, hu_o, hu_k] at z <;> omega)
        all_goals try exact f_x 0 hR0 rfl rfl rfl
        all_goals try exact f_x 1 hR0 rfl rfl rfl
        all_goals try (exfalso; simp (disch := omega) only [p1, p2, h1, h2, b1, b2, b3, b4, ej, kc, nI_eq, nI_ltI, nI_leI, nI_m1, hu_o, hu_k, not_true_eq_false] at * <;> first | contradiction | omega)
        simp (disch := omega) only [ej, kc, hu_o, b1, b2, b3, b4, ek]
        refine f_r ⟨⟨⟨8, ht, h1, h2⟩, ⟨u, hu1, hu2, hu3⟩, hpw, ⟨op, hop1, hop2, hop3⟩, hsb⟩, hvd, hbt, hsz, hes, fun i hi => ?_, (bk_add (k := k) (x := nI n) 21 42 hbk rfl rfl (by decide) : r_bk (hu c 21 k (c 21 k + nI n)) (hu m 42 k (m 42 k + nI n))), hpy.1, fun z => absurd (h1.symm.trans z) (by decide)⟩ rfl rfl rfl
        by_cases e : i = j
        · subst e; exact ⟨k, 0, hk1, hk2, by omega, by simp [hu, b1], by simp [hu, b2], by simp only [hu]; simp [Int32.add_right_neg, nI_0], by simp [hu]⟩
        · obtain ⟨k', n', r⟩ := hmg i hi; exact ⟨k', n', by simpa [hu, e] using r⟩
      · rcases (show j = 4 ∨ j = 5 by omega) with rfl | rfl
        · have a0 : c 16 0 = m 38 0 := (hbk 0 (by decide)).1
          have a1 : c 16 1 = m 38 1 := (hbk 1 (by decide)).1
          have a2 : c 16 2 = m 38 2 := (hbk 2 (by decide)).1
          have a3 : c 16 3 = m 38 3 := (hbk 3 (by decide)).1
          have a4 : c 16 4 = m 38 4 := (hbk 4 (by decide)).1
          have a5 : c 16 5 = m 38 5 := (hbk 5 (by decide)).1
          unfold P_run
          repeat' first
            | refine w_st rfl rfl ?_
            | refine w_no rfl rfl ?_ ?_
            | (refine w_br rfl rfl (fun z => ?_) (fun z => ?_) <;> try (first | contradiction | (simp (disch := omega) only [p1, p2, h1, h2, kc, nI_eq, nI_ltI, nI_leI, nI_m1, hu_o, hu_k, not_true_eq_false] at z; first | done | omega)))
            | refine w_in rfl rfl ?_
            | refine w_end rfl rfl ?_
            | refine w_endY rfl rfl ?_ ?_
            | refine w_up ?_
          all_goals try (intro z; simp (disch := omega) only [p1, p2, h1, h2, nI_clamp, kc, nI_ltI, hu_o, hu_k] at z <;> omega)
          all_goals try exact f_x 0 hR0 rfl rfl rfl
          all_goals try exact f_x 1 hR0 rfl rfl rfl
          all_goals try (exfalso; simp (disch := omega) only [p1, p2, h1, h2, kc, nI_eq, nI_ltI, nI_leI, nI_m1, hu_o, hu_k, not_true_eq_false] at * <;> first | contradiction | omega)
          simp (disch := omega) only [kc, nI_add, nI_clamp, Nat.reduceAdd, hu_same, hu_o, hu_k, nI0_add, a0, a1, a2, a3, a4, a5]
          refine f_r ⟨⟨⟨8, ht, h1, h2⟩, ⟨u, hu1, hu2, hu3⟩, hpw, ⟨op, hop1, hop2, hop3⟩, hsb⟩, hvd, hbt, hsz, hes, hmg, fun k hk => ?_, hpy.1, fun z => absurd (h1.symm.trans z) (by decide)⟩ rfl rfl rfl
          have b := hbk k hk
          rcases (show k = 0 ∨ k = 1 ∨ k = 2 ∨ k = 3 ∨ k = 4 ∨ k = 5 by omega) with rfl | rfl | rfl | rfl | rfl | rfl <;> obtain ⟨b1, b2, b3, b4, b5, b6, b7⟩ := b <;> exact ⟨rfl, b2, b3, b4, (by show c 21 _ + m 38 _ = m 42 _ + m 38 _; rw [b5]), b6, b7⟩
        · have a0 : c 18 0 = m 39 0 := (hbk 0 (by decide)).2.1
          have a1 : c 18 1 = m 39 1 := (hbk 1 (by decide)).2.1
          have a2 : c 18 2 = m 39 2 := (hbk 2 (by decide)).2.1
          have a3 : c 18 3 = m 39 3 := (hbk 3 (by decide)).2.1
          have a4 : c 18 4 = m 39 4 := (hbk 4 (by decide)).2.1
          have a5 : c 18 5 = m 39 5 := (hbk 5 (by decide)).2.1
          unfold P_run
          repeat' first
            | refine w_st rfl rfl ?_
            | refine w_no rfl rfl ?_ ?_
            | (refine w_br rfl rfl (fun z => ?_) (fun z => ?_) <;> try (first | contradiction | (simp (disch := omega) only [p1, p2, h1, h2, kc, nI_eq, nI_ltI, nI_leI, nI_m1, hu_o, hu_k, not_true_eq_false] at z; first | done | omega)))
            | refine w_in rfl rfl ?_
            | refine w_end rfl rfl ?_
            | refine w_endY rfl rfl ?_ ?_
            | refine w_up ?_
          all_goals try (intro z; simp (disch := omega) only [p1, p2, h1, h2, nI_clamp, kc, nI_ltI, hu_o, hu_k] at z <;> omega)
          all_goals try exact f_x 0 hR0 rfl rfl rfl
          all_goals try exact f_x 1 hR0 rfl rfl rfl
          all_goals try (exfalso; simp (disch := omega) only [p1, p2, h1, h2, kc, nI_eq, nI_ltI, nI_leI, nI_m1, hu_o, hu_k, not_true_eq_false] at * <;> first | contradiction | omega)
          simp (disch := omega) only [kc, nI_add, nI_clamp, Nat.reduceAdd, hu_same, hu_o, hu_k, nI0_add, a0, a1, a2, a3, a4, a5]
          refine f_r ⟨⟨⟨8, ht, h1, h2⟩, ⟨u, hu1, hu2, hu3⟩, hpw, ⟨op, hop1, hop2, hop3⟩, hsb⟩, hvd, hbt, hsz, hes, hmg, fun k hk => ?_, hpy.1, fun z => absurd (h1.symm.trans z) (by decide)⟩ rfl rfl rfl
          have b := hbk k hk
          rcases (show k = 0 ∨ k = 1 ∨ k = 2 ∨ k = 3 ∨ k = 4 ∨ k = 5 by omega) with rfl | rfl | rfl | rfl | rfl | rfl <;> obtain ⟨b1, b2, b3, b4, b5, b6, b7⟩ := b <;> exact ⟨b1, rfl, b3, b4, (by show c 21 _ + m 39 _ = m 42 _ + m 39 _; rw [b5]), b6, b7⟩
  · rcases (show pw = 0 ∨ pw = 1 by omega) with rfl | rfl
    · unfold P_run
      repeat' first
        | refine w_st rfl rfl ?_
        | refine w_no rfl rfl ?_ ?_
        | (refine w_br rfl rfl (fun z => ?_) (fun z => ?_) <;> try (first | contradiction | (simp (disch := omega) only [p1, p2, h1, h2, kc, nI_eq, nI_ltI, nI_leI, nI_m1, hu_o, hu_k, not_true_eq_false] at z; first | done | omega)))
        | refine w_in rfl rfl ?_
        | refine w_end rfl rfl ?_
        | refine w_endY rfl rfl ?_ ?_
        | refine w_up ?_
      all_goals try (intro z; simp (disch := omega) only [p1, p2, h1, h2, nI_clamp, kc, nI_ltI, hu_o, hu_k] at z <;> omega)
      all_goals try exact f_x 0 hR0 rfl rfl rfl
      all_goals try exact f_x 1 hR0 rfl rfl rfl
      all_goals try (exfalso; simp (disch := omega) only [p1, p2, h1, h2, kc, nI_eq, nI_ltI, nI_leI, nI_m1, hu_o, hu_k, not_true_eq_false] at * <;> first | contradiction | omega)
    · have ht8 : t ≠ 8 := fun z => hrd ⟨rfl, z⟩
      unfold P_run
      repeat' first
        | refine w_st rfl rfl ?_
        | refine w_no rfl rfl ?_ ?_
        | (refine w_br rfl rfl (fun z => ?_) (fun z => ?_) <;> try (first | contradiction | (simp (disch := omega) only [p1, p2, h1, h2, kc, nI_eq, nI_ltI, nI_leI, nI_m1, hu_o, hu_k, not_true_eq_false] at z; first | done | omega)))
        | refine w_in rfl rfl ?_
        | refine w_end rfl rfl ?_
        | refine w_endY rfl rfl ?_ ?_
        | refine w_up ?_
      all_goals try (intro z; simp (disch := omega) only [p1, p2, h1, h2, nI_clamp, kc, nI_ltI, hu_o, hu_k] at z <;> omega)
      all_goals try exact f_x 0 hR0 rfl rfl rfl
      all_goals try exact f_x 1 hR0 rfl rfl rfl
      all_goals try (exfalso; simp (disch := omega) only [p1, p2, h1, h2, kc, nI_eq, nI_ltI, nI_leI, nI_m1, hu_o, hu_k, not_true_eq_false] at * <;> first | contradiction | omega)
