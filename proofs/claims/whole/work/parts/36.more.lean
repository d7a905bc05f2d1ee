/-! REMOVE AND THE CALLS ON CASSETTES (written by wip/whole/gen_ops3.py). -/
theorem nN_clr {g g' : Nat → Int32} {j : Nat} (hj : j < 10) (e : ∀ i, i ≠ j → g' i = g i) (h1 : g j ≠ -1) (h2 : g' j = -1) : nN g = nN g' + 1 := by
  have h := sm_at (f := fun s => if g s = -1 then 0 else 1) (g := fun s => if g' s = -1 then 0 else 1) hj (fun i _ hi => by simp only [e i hi])
  simp only [if_neg h1, if_pos h2] at h
  simp only [nN]
  omega
theorem bk_add {c m c' m' : HP} {k : Nat} {x : Int32} (a b : Nat) (h : r_bk c m) (hc : c' = hu c a k (c a k + x)) (hm : m' = hu m b k (m b k + x)) (hab : (a, b) ∈ [(16, 38), (18, 39), (19, 40), (20, 41), (21, 42), (22, 43), (23, 44)]) : r_bk c' m' := by
  subst hc hm
  intro i hi
  obtain ⟨q1, q2, q3, q4, q5, q6, q7⟩ := h i hi
  simp only [List.mem_cons, Prod.mk.injEq, List.not_mem_nil, or_false] at hab
  by_cases e : i = k
  · subst e
    rcases hab with ⟨rfl, rfl⟩ | ⟨rfl, rfl⟩ | ⟨rfl, rfl⟩ | ⟨rfl, rfl⟩ | ⟨rfl, rfl⟩ | ⟨rfl, rfl⟩ | ⟨rfl, rfl⟩ <;> simp [hu, q1, q2, q3, q4, q5, q6, q7]
  · rcases hab with ⟨rfl, rfl⟩ | ⟨rfl, rfl⟩ | ⟨rfl, rfl⟩ | ⟨rfl, rfl⟩ | ⟨rfl, rfl⟩ | ⟨rfl, rfl⟩ | ⟨rfl, rfl⟩ <;> simp [hu, e, q1, q2, q3, q4, q5, q6, q7]

set_option maxHeartbeats 3000000 in
theorem o_remove (s : Int32) : P_W RR 73 118 [1, 0, 3] true [.inl s] := by
  refine P_Wof fun c m hR => ?_
  have hR0 := hR
  obtain ⟨⟨⟨t, ht, h1, h2⟩, ⟨u, hu1, hu2, hu3⟩, hpw, ⟨op, hop1, hop2, hop3⟩, hsb⟩, hvd, hbt, hsz, hes, hmg, hbk, hpy⟩ := hR
  rcases ix3 s 9 (by decide) with e1 | ⟨e1, e2, e3, e4⟩ | ⟨j, hj, rfl⟩
  · unfold P_run
    repeat' first
      | refine w_st rfl rfl ?_
      | refine w_no rfl rfl ?_ ?_
      | (refine w_br rfl rfl (fun z => ?_) (fun z => ?_) <;> try (first | contradiction | (simp (disch := omega) only [hop2, hop3, e1, kc, nI_eq, nI_ltI, nI_leI, nI_m1, hu_o, not_true_eq_false] at z; first | done | omega)))
      | refine w_in rfl rfl ?_
      | refine w_end rfl rfl ?_
      | refine w_endY rfl rfl ?_ ?_
      | refine w_up ?_
    all_goals try exact f_x 0 hR0 rfl rfl rfl
    all_goals try exact f_x 1 hR0 rfl rfl rfl
    all_goals try exact f_x 2 hR0 rfl rfl rfl
    all_goals try (exfalso; simp (disch := omega) only [hop2, hop3, e1, kc, nI_eq, nI_ltI, nI_leI, nI_m1, hu_o, not_true_eq_false] at * <;> first | contradiction | omega)
  · unfold P_run
    repeat' first
      | refine w_st rfl rfl ?_
      | refine w_no rfl rfl ?_ ?_
      | (refine w_br rfl rfl (fun z => ?_) (fun z => ?_) <;> try (first | contradiction | (simp (disch := omega) only [hop2, hop3, e1, e2, e3, e4, kc, nI_eq, nI_ltI, nI_leI, nI_m1, hu_o, not_true_eq_false] at z; first | done | omega)))
      | refine w_in rfl rfl ?_
      | refine w_end rfl rfl ?_
      | refine w_endY rfl rfl ?_ ?_
      | refine w_up ?_
    all_goals try exact f_x 0 hR0 rfl rfl rfl
    all_goals try exact f_x 1 hR0 rfl rfl rfl
    all_goals try exact f_x 2 hR0 rfl rfl rfl
    all_goals try (exfalso; simp (disch := omega) only [hop2, hop3, e1, e2, e3, e4, kc, nI_eq, nI_ltI, nI_leI, nI_m1, hu_o, not_true_eq_false] at * <;> first | contradiction | omega)
  · have ej : (nI j).toNatClampNeg = j := nI_clamp (by omega)
    rcases hbt j hj with ⟨q1, q2, q3, q4⟩ | ⟨k, g, y, hk, hg, hy, hgs, b1, b2, b3, b4, b5, b6⟩
    · unfold P_run
      repeat' first
        | refine w_st rfl rfl ?_
        | refine w_no rfl rfl ?_ ?_
        | (refine w_br rfl rfl (fun z => ?_) (fun z => ?_) <;> try (first | contradiction | (simp (disch := omega) only [q1, q2, q3, hop2, hop3, ej, kc, nI_eq, nI_ltI, nI_leI, nI_m1, hu_o, not_true_eq_false] at z; first | done | omega)))
        | refine w_in rfl rfl ?_
        | refine w_end rfl rfl ?_
        | refine w_endY rfl rfl ?_ ?_
        | refine w_up ?_
      all_goals try (intro z; simp (disch := omega) only [q1, q2, q3, ej, nI_clamp, kc, nI_ltI, hu_o] at z <;> omega)
      all_goals try (right; simp only [ej, q1, q2, q3]; decide)
      all_goals try exact f_x 0 hR0 rfl rfl rfl
      all_goals try exact f_x 1 hR0 rfl rfl rfl
      all_goals try exact f_x 2 hR0 rfl rfl rfl
      all_goals try (exfalso; simp (disch := omega) only [q1, q2, q3, hop2, hop3, ej, kc, nI_eq, nI_ltI, nI_leI, nI_m1, hu_o, not_true_eq_false] at * <;> first | contradiction | omega)
    · rcases (show y = 0 ∨ y = 1 by omega) with rfl | rfl
      all_goals unfold P_run
      all_goals
        repeat' first
          | refine w_st rfl rfl ?_
          | refine w_no rfl rfl ?_ ?_
          | (refine w_br rfl rfl (fun z => ?_) (fun z => ?_) <;> try (first | contradiction | (simp (disch := omega) only [b1, b2, b3, b4, b5, b6, hop2, hop3, ej, kc, nI_eq, nI_ltI, nI_leI, nI_m1, hu_o, not_true_eq_false] at z; first | done | omega)))
          | refine w_in rfl rfl ?_
          | refine w_end rfl rfl ?_
          | refine w_endY rfl rfl ?_ ?_
          | refine w_up ?_
      all_goals try (intro z; simp (disch := omega) only [b1, b2, b3, b4, b5, b6, ej, nI_clamp, kc, nI_ltI, hu_o] at z <;> omega)
      all_goals try (right; simp only [ej, b1, b2, b3, b4, b5, b6]; decide)
      all_goals try exact f_x 0 hR0 rfl rfl rfl
      all_goals try exact f_x 1 hR0 rfl rfl rfl
      all_goals try exact f_x 2 hR0 rfl rfl rfl
      all_goals try (exfalso; simp (disch := omega) only [b1, b2, b3, b4, b5, b6, hop2, hop3, ej, kc, nI_eq, nI_ltI, nI_leI, nI_m1, hu_o, not_true_eq_false] at * <;> first | contradiction | omega)
      all_goals
        have ek : (nI k).toNatClampNeg = k := nI_clamp (by omega)
        simp (disch := omega) only [ej, b1, b2, ek, hu_o, kc]
        refine f_r ⟨⟨⟨t, ht, h1, h2⟩, ⟨u, hu1, hu2, hu3⟩, hpw, ⟨op, hop1, hop2, hop3⟩, hsb⟩, hvd, bt_at (j := j) hbt (fun s hs => ?_) (Or.inl ?_), ?_, hes, hmg, ?_, hpy⟩ rfl rfl rfl
        · simp only [hu]; simp [hs]
        · simp [r_no, hu, kc]
        · show c 3 3 - nI 1 = nI (nN _)
          rw [hsz, nN_clr (g := c 5) (g' := hu c 5 j (-1) 5) hj (fun i hi => by simp [hu, hi]) (by rw [b3]; exact of_eq_false (nI_m1 (by omega))) (by simp [hu])]
          exact nI_pred _
        · exact (bk_add (k := k) (x := nI 1) 22 43 hbk rfl rfl (by decide) : r_bk (hu c 22 k (c 22 k + nI 1)) (hu m 43 k (m 43 k + nI 1)))
