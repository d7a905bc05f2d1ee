/-! THE TWO SIDES COUNT ALIKE. -/
theorem k_belt {c m : HP} (h : r_bt c m) (k : Nat) (hk : k ≤ 5) : sm (fun s => if ¬ c 5 s = -1 ∧ c 4 s = nI k then 1 else 0) 10 = sm (fun s => if m 32 s = nI k then 1 else 0) 10 := by
  refine sm_eq (fun s hs => ?_)
  rcases h s hs with ⟨q1, q2, q3, q4⟩ | ⟨k', g, y, hk', hg, hy, hgs, b1, b2, b3, b4, b5, b6⟩
  · have e : ¬ (-1 : Int32) = nI k := fun z => of_eq_false (nI_m1 (n := k) (by omega)) z.symm
    simp only [q1, q2, not_true_eq_false, false_and, if_false, if_neg e]
  · have e : ¬ nI g = -1 := of_eq_false (nI_m1 (by omega))
    simp only [b1, b2, b3, e, not_false_eq_true, true_and]
theorem k_size {c m : HP} (h : r_bt c m) : nN (c 5) = nN (m 32) := by
  refine sm_eq (fun s hs => ?_)
  rcases h s hs with ⟨q1, q2, q3, q4⟩ | ⟨k', g, y, hk', hg, hy, hgs, b1, b2, b3, b4, b5, b6⟩
  · simp only [q1, q2]
  · have e : ¬ nI g = -1 := of_eq_false (nI_m1 (by omega))
    have e2 : ¬ nI k' = -1 := of_eq_false (nI_m1 (by omega))
    simp only [b2, b3, e, e2]
theorem k_pile {c m : HP} {e : Nat} (h : ∀ i, i < e → ∃ k, k ≤ 5 ∧ c 8 i = nI k ∧ m 35 i = nI k) (x : Int32) : sm (fun s => if c 8 s = x then 1 else 0) e = sm (fun s => if m 35 s = x then 1 else 0) e := by
  refine sm_eq (fun s hs => ?_)
  obtain ⟨k, _, h1, h2⟩ := h s hs
  simp only [h1, h2]
theorem k_mag {c m : HP} (h : r_mg c m) (x : Int32) : sm (fun s => if c 10 s = x then (c 11 s).toNatClampNeg else 0) 4 = sm (fun s => if m 36 s = x then (m 37 s).toNatClampNeg else 0) 4 := by
  refine sm_eq (fun s hs => ?_)
  obtain ⟨k, n, _, _, _, h1, h2, h3, h4⟩ := h s hs
  simp only [h1, h2, h3, h4]
theorem k_going {c m : HP} (h : r_bt c m) (g : Nat) (hg0 : g ≤ 8) : sm (fun s => if c 5 s = nI g then 1 else 0) 10 = sm (fun s => if ¬ m 32 s = -1 ∧ m 33 s = nI g then 1 else 0) 10 := by
  refine sm_eq (fun s hs => ?_)
  rcases h s hs with ⟨q1, q2, q3, q4⟩ | ⟨k', g', y, hk', hg, hy, hgs, b1, b2, b3, b4, b5, b6⟩
  · have e : ¬ (-1 : Int32) = nI g := fun z => of_eq_false (nI_m1 (n := g) (by omega)) z.symm
    simp only [q1, q2, not_true_eq_false, false_and, if_false, if_neg e]
  · have e2 : ¬ nI k' = -1 := of_eq_false (nI_m1 (by omega))
    simp only [b2, b3, b4, e2, not_false_eq_true, true_and]
