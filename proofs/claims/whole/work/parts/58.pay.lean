/-! A NEW NOTE COMES ONTO THE BELT (written by wip/whole/g58.py). -/
theorem stk_dec {ks ns : Nat → Int32} {i j n : Nat} (hi : i < 4) (hj : j ≤ 5) (h1 : ks i = nI j) (h2 : ns i = nI n) (hn : 0 < n) (hn3 : n ≤ 30) : ∀ k, k ≤ 5 → stk ks (fun x => if x = i then nI (n - 1) else ns x) k + (if k = j then 1 else 0) = stk ks ns k := by
  intro k hk
  have h := sm_at (f := fun x => if ks x = nI k then ((fun x => if x = i then nI (n - 1) else ns x) x).toNatClampNeg else 0) (g := fun x => if ks x = nI k then (ns x).toNatClampNeg else 0) (s := i) (n := 4) hi (fun x _ hx => by simp only [if_neg hx])
  simp only [h1, h2, if_true] at h
  rw [nI_clamp (by omega), nI_clamp (by omega)] at h
  simp only [stk]
  by_cases e : k = j
  · subst e
    simp only [if_true] at h ⊢
    omega
  · have e1 : ¬ nI j = nI k := fun z => e ((nI_eq (by omega) (by omega)).mp z).symm
    simp only [if_neg e1, if_neg e] at h ⊢
    omega
theorem stk_120 {c m : HP} (hmg : r_mg c m) (k : Nat) : stk (m 36) (m 37) k ≤ 120 := by
  have := sm_le (f := fun i => if m 36 i = nI k then (m 37 i).toNatClampNeg else 0) (b := 30) (n := 4) (fun i hi => by
    obtain ⟨k', n, _, _, hn, _, _, _, h4⟩ := hmg i hi
    rw [h4, nI_clamp (by omega)]
    split <;> omega)
  simpa [stk] using this
set_option maxHeartbeats 4000000 in
theorem pay2 {c m : HP} (hR : RR c m) (h5 : c 0 7 = nI 5) : ∃ c' m', Ec 62 [.inr 0] c (.inl none, c') ∧ Ec 111 [.inr 30] m (.inl none, m') ∧ m' 30 0 = m 30 0 ∧ RR c' m' := by
  have hR0 := hR
  obtain ⟨hfl, hvd, hbt, hsz, hes, hmg, hbk, hpy0, hpy⟩ := hR
  obtain ⟨q, q1, q2⟩ := hpy h5
  obtain ⟨j, hj, jz, jp, j1, j2⟩ := top2 (c := c) (m := m) (q := q) (fun k h1 h2 => by
    obtain ⟨a, b, d⟩ := q1 k h1 h2
    exact ⟨a, b, Nat.le_trans d (stk_120 hmg k)⟩)
  rcases (show j = 0 ∨ 1 ≤ j by omega) with rfl | hj1
  · have no : ∀ i, i < 4 → (∀ k n, c 10 i = nI k → c 11 i = nI n → k ≤ 5 → n ≤ 30 → ¬ (k = 0 ∧ 0 < n)) := fun i hi k n p1 p2 p3 p4 p5 => by
      obtain ⟨k', n', r1, r2, r3, r4, r5, r6, r7⟩ := hmg i hi
      have := (nI_eq (by omega) (by omega)).mp (p1.symm.trans r4)
      omega
    have fw : Ec 31 [.inr 9, .inl (nI 0)] c (.inl (some (-1)), c) := by
      refine w_fin ?_
      refine w_st rfl rfl ?_
      refine w_st rfl rfl ?_
      refine fw_c hmg (j := 0) (by decide) 0 (by decide) (no 0 (by decide)) _ ?_
      refine fw_c hmg (j := 0) (by decide) 1 (by decide) (no 1 (by decide)) _ ?_
      refine fw_c hmg (j := 0) (by decide) 2 (by decide) (no 2 (by decide)) _ ?_
      refine fw_c hmg (j := 0) (by decide) 3 (by decide) (no 3 (by decide)) _ ?_
      repeat' first
        | refine w_st rfl rfl ?_
        | refine w_end rfl rfl ?_
      rfl
    refine ⟨c, m, w_fin ?_, w_fin ?_, rfl, hR0⟩
    · repeat' first
        | refine w_st rfl rfl ?_
        | refine w_ca rfl rfl j1 ?_
        | refine w_ca rfl rfl fw ?_
        | refine w_in rfl rfl ?_
        | refine w_end rfl rfl ?_
        | refine w_up ?_
      rfl
    · refine j2 _ ?_
      repeat' first
        | refine w_st rfl rfl ?_
        | refine w_end rfl rfl ?_
      rfl
  · have hq0 : 0 < q j := by
      rcases jp with z | z
      · omega
      · exact z
    obtain ⟨d1, d2, d3⟩ := q1 j hj1 hj
    obtain ⟨i, n, hi, hn, hn0, a1, a2, a3, a4, f1, f2⟩ := fw2 hmg hj (show 0 < stk (m 36) (m 37) j by omega)
    have hq120 : q j ≤ 120 := Nat.le_trans d3 (stk_120 hmg j)
    have ej : (nI j).toNatClampNeg = j := nI_clamp (by omega)
    have ej0 : (nI j = nI 0) = False := eq_false (fun z => by have := (nI_eq (by omega) (by omega)).mp z; omega)
    have en : nI n - nI 1 = nI (n - 1) := pk_sub (by omega)
    have en' : nI n + -1 = nI (n - 1) := by
      have := nI_dec (n - 1)
      rw [show n - 1 + 1 = n by omega] at this
      exact this
    have eq : nI (q j) - nI 1 = nI (q j - 1) := pk_sub (by omega)
    have eS : nI (q 1 + q 2 + q 3 + q 4 + q 5) - nI 1 = nI (q 1 + q 2 + q 3 + q 4 + q 5 - 1) := pk_sub (by
      rcases (show j = 1 ∨ j = 2 ∨ j = 3 ∨ j = 4 ∨ j = 5 by omega) with rfl | rfl | rfl | rfl | rfl <;> omega)
    -- the heaps before the put
    have hR1 : RR (hu (hu (hu c 29 j (nI (q j - 1))) 27 2 (nI (q 1 + q 2 + q 3 + q 4 + q 5 - 1))) 11 i (nI (n - 1))) (hu (hu m 37 i (nI (n - 1))) 45 j (nI (q j - 1))) := by
      refine ⟨hfl, hvd, hbt, hsz, hes, fun x hx => ?_, hbk, ?_, fun _ => ⟨fun k => if k = j then q j - 1 else q k, fun k h1 h2 => ?_, ?_⟩⟩
      · by_cases e : x = i
        · subst e
          exact ⟨j, n - 1, hj1, hj, by omega, a1, a2, by simp [hu], by simp [hu]⟩
        · obtain ⟨k', n', r⟩ := hmg x hx
          exact ⟨k', n', by simpa [hu, e] using r⟩
      · show (if (45 : Nat) = 45 then (if 0 = j then _ else m 45 0) else _) = nI 0
        rw [if_pos rfl, if_neg (by omega)]
        exact hpy0
      · obtain ⟨r1, r2, r3⟩ := q1 k h1 h2
        have hs := stk_dec hi hj a2 a4 hn0 hn k h2
        have e37 : (hu (hu m 37 i (nI (n - 1))) 45 j (nI (q j - 1))) 37 = (fun x => if x = i then nI (n - 1) else m 37 x) := by
          funext x
          simp [hu]
        have e36 : (hu (hu m 37 i (nI (n - 1))) 45 j (nI (q j - 1))) 36 = m 36 := by
          funext x
          simp [hu]
        rw [e37, e36]
        by_cases e : k = j
        · subst e
          simp only [if_true] at hs ⊢
          exact ⟨by simp [hu], by simp [hu], by omega⟩
        · simp only [if_neg e] at hs ⊢
          refine ⟨?_, ?_, by omega⟩
          · simp [hu, e, r1]
          · simp [hu, e, r2]
      · show nI (q 1 + q 2 + q 3 + q 4 + q 5 - 1) = _
        congr 1
        rcases (show j = 1 ∨ j = 2 ∨ j = 3 ∨ j = 4 ∨ j = 5 by omega) with rfl | rfl | rfl | rfl | rfl <;> simp <;> omega
    rcases (show i = 0 ∨ i = 1 ∨ i = 2 ∨ i = 3 by omega) with rfl | rfl | rfl | rfl
    · rcases hbt 5 (by decide) with hno | ⟨k', g', y', hk', hg', hy', hgs', w1, w2, w3, w4, w5, w6⟩
      · have hR2 := RR_put (b := 2) hR1 (s := 5) (k := j) (g := 8) (by decide) hj (by decide) (fun z => absurd z (by decide)) hno
        have hno0 := hno.1
        have hno1 := hno.2.1
        have pC : Ec 14 [.inr 3, .inl (nI 5), .inl (nI j), .inl (nI 8)] (hu (hu (hu c 29 j (nI (q j - 1))) 27 2 (nI (q 1 + q 2 + q 3 + q 4 + q 5 - 1))) 11 0 (nI (n - 1))) (.inl none, _) := c_put (by decide) hno0
        have pM : Ec 107 [.inr 30, .inl (nI 5), .inl (nI j), .inl (nI 8)] (hu (hu m 37 0 (nI (n - 1))) 45 j (nI (q j - 1))) (.inl none, _) := m_put (by decide)
        have hc1 : hu (hu (hu c 29 (nI j).toNatClampNeg (c 29 (nI j).toNatClampNeg - Int32.ofInt 1)) 27 2 (c 27 2 - Int32.ofInt 1)) 11 0 (c 11 0 + Int32.ofInt (-1)) = hu (hu (hu c 29 j (nI (q j - 1))) 27 2 (nI (q 1 + q 2 + q 3 + q 4 + q 5 - 1))) 11 0 (nI (n - 1)) := by
          simp only [kc, ej, d1, q2, a3, eq, eS, en']
        have hm1 : hu (hu m 37 0 (m 37 0 - Int32.ofInt 1)) 45 (nI j).toNatClampNeg (m 45 (nI j).toNatClampNeg - Int32.ofInt 1) = hu (hu m 37 0 (nI (n - 1))) 45 j (nI (q j - 1)) := by
          simp only [kc, ej, d2, a4, eq, en]
        rw [← hc1] at pC
        rw [← hm1] at pM
        refine ⟨_, _, w_fin ?_, w_fin ?_, ?_, hR2⟩
        · skip
          repeat' first
            | refine w_st rfl rfl ?_
            | refine w_ca rfl rfl j1 ?_
            | refine w_ca rfl rfl f1 ?_
            | refine w_ca rfl rfl pC ?_
            | refine w_no rfl rfl ?_ ?_
            | refine w_in rfl rfl ?_
            | refine w_end rfl rfl ?_
            | refine w_endY rfl rfl ?_ ?_
            | refine w_up ?_
            | refine w_br rfl rfl (fun z => ?_) (fun z => ?_)
          all_goals try (intro z; simp (disch := omega) only [ej, hno0, nI_clamp, kc, nI_ltI, hu_o, hu_k, hu_same, false_or] at z <;> omega)
          all_goals try exact absurd hno0 (by assumption)
          all_goals (rw [hc1])
        · refine j2 _ ?_
          refine w_st rfl rfl ?_
          refine w_br rfl rfl (fun z => absurd z (of_eq_false ej0)) (fun _ => ?_)
          refine w_st rfl rfl ?_
          refine w_st rfl rfl ?_
          refine f2 _ ?_
          repeat' first
            | refine w_st rfl rfl ?_
            | refine w_ca rfl rfl pM ?_
            | refine w_no rfl rfl ?_ ?_
            | refine w_in rfl rfl ?_
            | refine w_end rfl rfl ?_
            | refine w_endY rfl rfl ?_ ?_
            | refine w_up ?_
            | refine w_br rfl rfl (fun z => ?_) (fun z => ?_)
          all_goals try (intro z; simp (disch := omega) only [ej, ej0, hno1, nI_clamp, kc, nI_ltI, hu_o, hu_k, hu_same, false_or] at z <;> omega)
          all_goals try exact absurd hno1 (by assumption)
          all_goals (rw [hm1])
        · rfl
      · have n1 : ¬ c 5 5 = -1 := by rw [w3]; exact of_eq_false (nI_m1 (by omega))
        have n2 : ¬ m 32 5 = -1 := by rw [w2]; exact of_eq_false (nI_m1 (by omega))
        refine ⟨c, m, w_fin ?_, w_fin ?_, rfl, hR0⟩
        · skip
          repeat' first
            | refine w_st rfl rfl ?_
            | refine w_ca rfl rfl j1 ?_
            | refine w_ca rfl rfl f1 ?_
            | refine w_no rfl rfl ?_ ?_
            | refine w_in rfl rfl ?_
            | refine w_end rfl rfl ?_
            | refine w_endY rfl rfl ?_ ?_
            | refine w_up ?_
            | refine w_br rfl rfl (fun z => ?_) (fun z => ?_)
          all_goals try rfl
          all_goals (exfalso; exact n1 (by assumption))
        · refine j2 _ ?_
          refine w_st rfl rfl ?_
          refine w_br rfl rfl (fun z => absurd z (of_eq_false ej0)) (fun _ => ?_)
          refine w_st rfl rfl ?_
          refine w_st rfl rfl ?_
          refine f2 _ ?_
          repeat' first
            | refine w_st rfl rfl ?_
            | refine w_no rfl rfl ?_ ?_
            | refine w_in rfl rfl ?_
            | refine w_end rfl rfl ?_
            | refine w_endY rfl rfl ?_ ?_
            | refine w_up ?_
            | refine w_br rfl rfl (fun z => ?_) (fun z => ?_)
          all_goals try rfl
          all_goals (exfalso; exact n2 (by assumption))
    · rcases hbt 5 (by decide) with hno | ⟨k', g', y', hk', hg', hy', hgs', w1, w2, w3, w4, w5, w6⟩
      · have hR2 := RR_put (b := 2) hR1 (s := 5) (k := j) (g := 8) (by decide) hj (by decide) (fun z => absurd z (by decide)) hno
        have hno0 := hno.1
        have hno1 := hno.2.1
        have pC : Ec 14 [.inr 3, .inl (nI 5), .inl (nI j), .inl (nI 8)] (hu (hu (hu c 29 j (nI (q j - 1))) 27 2 (nI (q 1 + q 2 + q 3 + q 4 + q 5 - 1))) 11 1 (nI (n - 1))) (.inl none, _) := c_put (by decide) hno0
        have pM : Ec 107 [.inr 30, .inl (nI 5), .inl (nI j), .inl (nI 8)] (hu (hu m 37 1 (nI (n - 1))) 45 j (nI (q j - 1))) (.inl none, _) := m_put (by decide)
        have hc1 : hu (hu (hu c 29 (nI j).toNatClampNeg (c 29 (nI j).toNatClampNeg - Int32.ofInt 1)) 27 2 (c 27 2 - Int32.ofInt 1)) 11 1 (c 11 1 + Int32.ofInt (-1)) = hu (hu (hu c 29 j (nI (q j - 1))) 27 2 (nI (q 1 + q 2 + q 3 + q 4 + q 5 - 1))) 11 1 (nI (n - 1)) := by
          simp only [kc, ej, d1, q2, a3, eq, eS, en']
        have hm1 : hu (hu m 37 1 (m 37 1 - Int32.ofInt 1)) 45 (nI j).toNatClampNeg (m 45 (nI j).toNatClampNeg - Int32.ofInt 1) = hu (hu m 37 1 (nI (n - 1))) 45 j (nI (q j - 1)) := by
          simp only [kc, ej, d2, a4, eq, en]
        rw [← hc1] at pC
        rw [← hm1] at pM
        refine ⟨_, _, w_fin ?_, w_fin ?_, ?_, hR2⟩
        · skip
          repeat' first
            | refine w_st rfl rfl ?_
            | refine w_ca rfl rfl j1 ?_
            | refine w_ca rfl rfl f1 ?_
            | refine w_ca rfl rfl pC ?_
            | refine w_no rfl rfl ?_ ?_
            | refine w_in rfl rfl ?_
            | refine w_end rfl rfl ?_
            | refine w_endY rfl rfl ?_ ?_
            | refine w_up ?_
            | refine w_br rfl rfl (fun z => ?_) (fun z => ?_)
          all_goals try (intro z; simp (disch := omega) only [ej, hno0, nI_clamp, kc, nI_ltI, hu_o, hu_k, hu_same, false_or] at z <;> omega)
          all_goals try exact absurd hno0 (by assumption)
          all_goals (rw [hc1])
        · refine j2 _ ?_
          refine w_st rfl rfl ?_
          refine w_br rfl rfl (fun z => absurd z (of_eq_false ej0)) (fun _ => ?_)
          refine w_st rfl rfl ?_
          refine w_st rfl rfl ?_
          refine f2 _ ?_
          repeat' first
            | refine w_st rfl rfl ?_
            | refine w_ca rfl rfl pM ?_
            | refine w_no rfl rfl ?_ ?_
            | refine w_in rfl rfl ?_
            | refine w_end rfl rfl ?_
            | refine w_endY rfl rfl ?_ ?_
            | refine w_up ?_
            | refine w_br rfl rfl (fun z => ?_) (fun z => ?_)
          all_goals try (intro z; simp (disch := omega) only [ej, ej0, hno1, nI_clamp, kc, nI_ltI, hu_o, hu_k, hu_same, false_or] at z <;> omega)
          all_goals try exact absurd hno1 (by assumption)
          all_goals (rw [hm1])
        · rfl
      · have n1 : ¬ c 5 5 = -1 := by rw [w3]; exact of_eq_false (nI_m1 (by omega))
        have n2 : ¬ m 32 5 = -1 := by rw [w2]; exact of_eq_false (nI_m1 (by omega))
        refine ⟨c, m, w_fin ?_, w_fin ?_, rfl, hR0⟩
        · skip
          repeat' first
            | refine w_st rfl rfl ?_
            | refine w_ca rfl rfl j1 ?_
            | refine w_ca rfl rfl f1 ?_
            | refine w_no rfl rfl ?_ ?_
            | refine w_in rfl rfl ?_
            | refine w_end rfl rfl ?_
            | refine w_endY rfl rfl ?_ ?_
            | refine w_up ?_
            | refine w_br rfl rfl (fun z => ?_) (fun z => ?_)
          all_goals try rfl
          all_goals (exfalso; exact n1 (by assumption))
        · refine j2 _ ?_
          refine w_st rfl rfl ?_
          refine w_br rfl rfl (fun z => absurd z (of_eq_false ej0)) (fun _ => ?_)
          refine w_st rfl rfl ?_
          refine w_st rfl rfl ?_
          refine f2 _ ?_
          repeat' first
            | refine w_st rfl rfl ?_
            | refine w_no rfl rfl ?_ ?_
            | refine w_in rfl rfl ?_
            | refine w_end rfl rfl ?_
            | refine w_endY rfl rfl ?_ ?_
            | refine w_up ?_
            | refine w_br rfl rfl (fun z => ?_) (fun z => ?_)
          all_goals try rfl
          all_goals (exfalso; exact n2 (by assumption))
    · rcases hbt 6 (by decide) with hno | ⟨k', g', y', hk', hg', hy', hgs', w1, w2, w3, w4, w5, w6⟩
      · have hR2 := RR_put (b := 2) hR1 (s := 6) (k := j) (g := 8) (by decide) hj (by decide) (fun z => absurd z (by decide)) hno
        have hno0 := hno.1
        have hno1 := hno.2.1
        have pC : Ec 14 [.inr 3, .inl (nI 6), .inl (nI j), .inl (nI 8)] (hu (hu (hu c 29 j (nI (q j - 1))) 27 2 (nI (q 1 + q 2 + q 3 + q 4 + q 5 - 1))) 11 2 (nI (n - 1))) (.inl none, _) := c_put (by decide) hno0
        have pM : Ec 107 [.inr 30, .inl (nI 6), .inl (nI j), .inl (nI 8)] (hu (hu m 37 2 (nI (n - 1))) 45 j (nI (q j - 1))) (.inl none, _) := m_put (by decide)
        have hc1 : hu (hu (hu c 29 (nI j).toNatClampNeg (c 29 (nI j).toNatClampNeg - Int32.ofInt 1)) 27 2 (c 27 2 - Int32.ofInt 1)) 11 2 (c 11 2 + Int32.ofInt (-1)) = hu (hu (hu c 29 j (nI (q j - 1))) 27 2 (nI (q 1 + q 2 + q 3 + q 4 + q 5 - 1))) 11 2 (nI (n - 1)) := by
          simp only [kc, ej, d1, q2, a3, eq, eS, en']
        have hm1 : hu (hu m 37 2 (m 37 2 - Int32.ofInt 1)) 45 (nI j).toNatClampNeg (m 45 (nI j).toNatClampNeg - Int32.ofInt 1) = hu (hu m 37 2 (nI (n - 1))) 45 j (nI (q j - 1)) := by
          simp only [kc, ej, d2, a4, eq, en]
        rw [← hc1] at pC
        rw [← hm1] at pM
        refine ⟨_, _, w_fin ?_, w_fin ?_, ?_, hR2⟩
        · skip
          repeat' first
            | refine w_st rfl rfl ?_
            | refine w_ca rfl rfl j1 ?_
            | refine w_ca rfl rfl f1 ?_
            | refine w_ca rfl rfl pC ?_
            | refine w_no rfl rfl ?_ ?_
            | refine w_in rfl rfl ?_
            | refine w_end rfl rfl ?_
            | refine w_endY rfl rfl ?_ ?_
            | refine w_up ?_
            | refine w_br rfl rfl (fun z => ?_) (fun z => ?_)
          all_goals try (intro z; simp (disch := omega) only [ej, hno0, nI_clamp, kc, nI_ltI, hu_o, hu_k, hu_same, false_or] at z <;> omega)
          all_goals try exact absurd hno0 (by assumption)
          all_goals (rw [hc1])
        · refine j2 _ ?_
          refine w_st rfl rfl ?_
          refine w_br rfl rfl (fun z => absurd z (of_eq_false ej0)) (fun _ => ?_)
          refine w_st rfl rfl ?_
          refine w_st rfl rfl ?_
          refine f2 _ ?_
          repeat' first
            | refine w_st rfl rfl ?_
            | refine w_ca rfl rfl pM ?_
            | refine w_no rfl rfl ?_ ?_
            | refine w_in rfl rfl ?_
            | refine w_end rfl rfl ?_
            | refine w_endY rfl rfl ?_ ?_
            | refine w_up ?_
            | refine w_br rfl rfl (fun z => ?_) (fun z => ?_)
          all_goals try (intro z; simp (disch := omega) only [ej, ej0, hno1, nI_clamp, kc, nI_ltI, hu_o, hu_k, hu_same, false_or] at z <;> omega)
          all_goals try exact absurd hno1 (by assumption)
          all_goals (rw [hm1])
        · rfl
      · have n1 : ¬ c 5 6 = -1 := by rw [w3]; exact of_eq_false (nI_m1 (by omega))
        have n2 : ¬ m 32 6 = -1 := by rw [w2]; exact of_eq_false (nI_m1 (by omega))
        refine ⟨c, m, w_fin ?_, w_fin ?_, rfl, hR0⟩
        · skip
          repeat' first
            | refine w_st rfl rfl ?_
            | refine w_ca rfl rfl j1 ?_
            | refine w_ca rfl rfl f1 ?_
            | refine w_no rfl rfl ?_ ?_
            | refine w_in rfl rfl ?_
            | refine w_end rfl rfl ?_
            | refine w_endY rfl rfl ?_ ?_
            | refine w_up ?_
            | refine w_br rfl rfl (fun z => ?_) (fun z => ?_)
          all_goals try rfl
          all_goals (exfalso; exact n1 (by assumption))
        · refine j2 _ ?_
          refine w_st rfl rfl ?_
          refine w_br rfl rfl (fun z => absurd z (of_eq_false ej0)) (fun _ => ?_)
          refine w_st rfl rfl ?_
          refine w_st rfl rfl ?_
          refine f2 _ ?_
          repeat' first
            | refine w_st rfl rfl ?_
            | refine w_no rfl rfl ?_ ?_
            | refine w_in rfl rfl ?_
            | refine w_end rfl rfl ?_
            | refine w_endY rfl rfl ?_ ?_
            | refine w_up ?_
            | refine w_br rfl rfl (fun z => ?_) (fun z => ?_)
          all_goals try rfl
          all_goals (exfalso; exact n2 (by assumption))
    · rcases hbt 6 (by decide) with hno | ⟨k', g', y', hk', hg', hy', hgs', w1, w2, w3, w4, w5, w6⟩
      · have hR2 := RR_put (b := 2) hR1 (s := 6) (k := j) (g := 8) (by decide) hj (by decide) (fun z => absurd z (by decide)) hno
        have hno0 := hno.1
        have hno1 := hno.2.1
        have pC : Ec 14 [.inr 3, .inl (nI 6), .inl (nI j), .inl (nI 8)] (hu (hu (hu c 29 j (nI (q j - 1))) 27 2 (nI (q 1 + q 2 + q 3 + q 4 + q 5 - 1))) 11 3 (nI (n - 1))) (.inl none, _) := c_put (by decide) hno0
        have pM : Ec 107 [.inr 30, .inl (nI 6), .inl (nI j), .inl (nI 8)] (hu (hu m 37 3 (nI (n - 1))) 45 j (nI (q j - 1))) (.inl none, _) := m_put (by decide)
        have hc1 : hu (hu (hu c 29 (nI j).toNatClampNeg (c 29 (nI j).toNatClampNeg - Int32.ofInt 1)) 27 2 (c 27 2 - Int32.ofInt 1)) 11 3 (c 11 3 + Int32.ofInt (-1)) = hu (hu (hu c 29 j (nI (q j - 1))) 27 2 (nI (q 1 + q 2 + q 3 + q 4 + q 5 - 1))) 11 3 (nI (n - 1)) := by
          simp only [kc, ej, d1, q2, a3, eq, eS, en']
        have hm1 : hu (hu m 37 3 (m 37 3 - Int32.ofInt 1)) 45 (nI j).toNatClampNeg (m 45 (nI j).toNatClampNeg - Int32.ofInt 1) = hu (hu m 37 3 (nI (n - 1))) 45 j (nI (q j - 1)) := by
          simp only [kc, ej, d2, a4, eq, en]
        rw [← hc1] at pC
        rw [← hm1] at pM
        refine ⟨_, _, w_fin ?_, w_fin ?_, ?_, hR2⟩
        · skip
          repeat' first
            | refine w_st rfl rfl ?_
            | refine w_ca rfl rfl j1 ?_
            | refine w_ca rfl rfl f1 ?_
            | refine w_ca rfl rfl pC ?_
            | refine w_no rfl rfl ?_ ?_
            | refine w_in rfl rfl ?_
            | refine w_end rfl rfl ?_
            | refine w_endY rfl rfl ?_ ?_
            | refine w_up ?_
            | refine w_br rfl rfl (fun z => ?_) (fun z => ?_)
          all_goals try (intro z; simp (disch := omega) only [ej, hno0, nI_clamp, kc, nI_ltI, hu_o, hu_k, hu_same, false_or] at z <;> omega)
          all_goals try exact absurd hno0 (by assumption)
          all_goals (rw [hc1])
        · refine j2 _ ?_
          refine w_st rfl rfl ?_
          refine w_br rfl rfl (fun z => absurd z (of_eq_false ej0)) (fun _ => ?_)
          refine w_st rfl rfl ?_
          refine w_st rfl rfl ?_
          refine f2 _ ?_
          repeat' first
            | refine w_st rfl rfl ?_
            | refine w_ca rfl rfl pM ?_
            | refine w_no rfl rfl ?_ ?_
            | refine w_in rfl rfl ?_
            | refine w_end rfl rfl ?_
            | refine w_endY rfl rfl ?_ ?_
            | refine w_up ?_
            | refine w_br rfl rfl (fun z => ?_) (fun z => ?_)
          all_goals try (intro z; simp (disch := omega) only [ej, ej0, hno1, nI_clamp, kc, nI_ltI, hu_o, hu_k, hu_same, false_or] at z <;> omega)
          all_goals try exact absurd hno1 (by assumption)
          all_goals (rw [hm1])
        · rfl
      · have n1 : ¬ c 5 6 = -1 := by rw [w3]; exact of_eq_false (nI_m1 (by omega))
        have n2 : ¬ m 32 6 = -1 := by rw [w2]; exact of_eq_false (nI_m1 (by omega))
        refine ⟨c, m, w_fin ?_, w_fin ?_, rfl, hR0⟩
        · skip
          repeat' first
            | refine w_st rfl rfl ?_
            | refine w_ca rfl rfl j1 ?_
            | refine w_ca rfl rfl f1 ?_
            | refine w_no rfl rfl ?_ ?_
            | refine w_in rfl rfl ?_
            | refine w_end rfl rfl ?_
            | refine w_endY rfl rfl ?_ ?_
            | refine w_up ?_
            | refine w_br rfl rfl (fun z => ?_) (fun z => ?_)
          all_goals try rfl
          all_goals (exfalso; exact n1 (by assumption))
        · refine j2 _ ?_
          refine w_st rfl rfl ?_
          refine w_br rfl rfl (fun z => absurd z (of_eq_false ej0)) (fun _ => ?_)
          refine w_st rfl rfl ?_
          refine w_st rfl rfl ?_
          refine f2 _ ?_
          repeat' first
            | refine w_st rfl rfl ?_
            | refine w_no rfl rfl ?_ ?_
            | refine w_in rfl rfl ?_
            | refine w_end rfl rfl ?_
            | refine w_endY rfl rfl ?_ ?_
            | refine w_up ?_
            | refine w_br rfl rfl (fun z => ?_) (fun z => ?_)
          all_goals try rfl
          all_goals (exfalso; exact n2 (by assumption))
