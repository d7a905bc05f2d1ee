/-! plan AND payout (written by wip/whole/g63.py). -/
set_option maxHeartbeats 4000000 in
theorem o_plan (x y : Int32) : P_W RR 53 105 [0] true [.inl x, .inl y] := by
  refine P_Wof fun c m hR => ?_
  have hR0 := hR
  rcases ixK y 5 (by decide) with e1 | ⟨e1, e2, e3⟩ | ⟨k, hk1, hk2, rfl⟩
  · unfold P_run
    repeat' first
      | refine w_st rfl rfl ?_
      | refine w_no rfl rfl ?_ ?_
      | (refine w_br rfl rfl (fun z => ?_) (fun z => ?_) <;> try (first | (simp (disch := omega) only [e1, kc, nI_clamp, nI_eq, nI_ltI, nI_leI, nI_m1, hu_o, hu_k, hu_same, not_true_eq_false, not_false_eq_true] at z; first | done | omega)))
      | refine w_in rfl rfl ?_
      | refine w_end rfl rfl ?_
      | refine w_endY rfl rfl ?_ ?_
      | refine w_up ?_
    all_goals try exact f_x 0 hR0 rfl rfl rfl
  · have e4 := e3 5 (Nat.le_refl _)
    unfold P_run
    repeat' first
      | refine w_st rfl rfl ?_
      | refine w_no rfl rfl ?_ ?_
      | (refine w_br rfl rfl (fun z => ?_) (fun z => ?_) <;> try (first | (simp (disch := omega) only [e1, e2, e4, kc, nI_clamp, nI_eq, nI_ltI, nI_leI, nI_m1, hu_o, hu_k, hu_same, not_true_eq_false, not_false_eq_true] at z; first | done | omega)))
      | refine w_in rfl rfl ?_
      | refine w_end rfl rfl ?_
      | refine w_endY rfl rfl ?_ ?_
      | refine w_up ?_
    all_goals try exact f_x 0 hR0 rfl rfl rfl
  · have k1 : (nI k < nI 1) = False := eq_false (fun z => by rw [nI_ltI (by omega) (by omega)] at z; omega)
    have k2 : (nI 5 < nI k) = False := eq_false (fun z => by rw [nI_ltI (by omega) (by omega)] at z; omega)
    have ek : (nI k).toNatClampNeg = k := nI_clamp (by omega)
    rcases ixK x 400 (by decide) with e1 | ⟨e1, e2, e3⟩ | ⟨A, hA1, hA2, rfl⟩
    · unfold P_run
      repeat' first
        | refine w_st rfl rfl ?_
        | refine w_no rfl rfl ?_ ?_
        | (refine w_br rfl rfl (fun z => ?_) (fun z => ?_) <;> try (first | (simp (disch := omega) only [k1, k2, e1, kc, nI_clamp, nI_eq, nI_ltI, nI_leI, nI_m1, hu_o, hu_k, hu_same, not_true_eq_false, not_false_eq_true] at z; first | done | omega)))
        | refine w_in rfl rfl ?_
        | refine w_end rfl rfl ?_
        | refine w_endY rfl rfl ?_ ?_
        | refine w_up ?_
      all_goals try exact f_x 0 hR0 rfl rfl rfl
    · have e4 := e3 400 (Nat.le_refl _)
      unfold P_run
      repeat' first
        | refine w_st rfl rfl ?_
        | refine w_no rfl rfl ?_ ?_
        | (refine w_br rfl rfl (fun z => ?_) (fun z => ?_) <;> try (first | (simp (disch := omega) only [k1, k2, e1, e2, e4, kc, nI_clamp, nI_eq, nI_ltI, nI_leI, nI_m1, hu_o, hu_k, hu_same, not_true_eq_false, not_false_eq_true] at z; first | done | omega)))
        | refine w_in rfl rfl ?_
        | refine w_end rfl rfl ?_
        | refine w_endY rfl rfl ?_ ?_
        | refine w_up ?_
      all_goals try exact f_x 0 hR0 rfl rfl rfl
    · have a1 : (nI A < nI 1) = False := eq_false (fun z => by rw [nI_ltI (by omega) (by omega)] at z; omega)
      have a2 : (nI 400 < nI A) = False := eq_false (fun z => by rw [nI_ltI (by omega) (by omega)] at z; omega)
      have a3 : (nI A ≤ nI 400) = True := eq_true ((nI_leI (by omega) (by omega)).mpr hA2)
      obtain ⟨H, b, c', m', r1, r2, r3, r4⟩ := find24 (c := c) (m := hu m 30 0 (Int32.ofInt 0)) hR0 hA1 hA2
      rcases r4 with ⟨rfl, r5⟩ | ⟨rfl, B, q, z1, z2, z3, z4, z5, z6⟩
      · unfold P_run
        repeat' first
          | refine w_st rfl rfl ?_
          | refine w_ca rfl rfl r1 ?_
          | refine w_ca rfl rfl r2 ?_
          | refine w_no rfl rfl ?_ ?_
          | (refine w_br rfl rfl (fun z => ?_) (fun z => ?_) <;> try (first | (simp (disch := omega) only [k1, k2, a1, a2, a3, kc, nI_clamp, nI_eq, nI_ltI, nI_leI, nI_m1, hu_o, hu_k, hu_same, not_true_eq_false, not_false_eq_true] at z; first | done | omega)))
          | refine w_in rfl rfl ?_
          | refine w_end rfl rfl ?_
          | refine w_endY rfl rfl ?_ ?_
          | refine w_up ?_
        all_goals exact f_r r3.1 rfl rfl (r3.2.1.trans rfl)
      · obtain ⟨w1, w2, w3⟩ := z5 k hk1 hk2
        unfold P_run
        repeat' first
          | refine w_st rfl rfl ?_
          | refine w_ca rfl rfl r1 ?_
          | refine w_ca rfl rfl r2 ?_
          | refine w_no rfl rfl ?_ ?_
          | (refine w_br rfl rfl (fun z => ?_) (fun z => ?_) <;> try (first | (simp (disch := omega) only [k1, k2, a1, a2, a3, kc, nI_clamp, nI_eq, nI_ltI, nI_leI, nI_m1, hu_o, hu_k, hu_same, not_true_eq_false, not_false_eq_true] at z; first | done | omega)))
          | refine w_in rfl rfl ?_
          | refine w_end rfl rfl ?_
          | refine w_endY rfl rfl ?_ ?_
          | refine w_up ?_
        all_goals try (intro z; simp (disch := omega) only [ek, nI_clamp, kc, nI_ltI, hu_o, hu_k, hu_same, false_or] at z <;> omega)
        all_goals
          refine f_r r3.1 rfl ?_ (r3.2.1.trans rfl)
          simp only [ek]
          rw [w1, w2]
set_option maxHeartbeats 4000000 in
theorem o_payout (x : Int32) : P_W RR 51 104 [0, 1, 2] true [.inl x] := by
  refine P_Wof fun c m hR => ?_
  have hR0 := hR
  obtain ⟨⟨⟨t, ht, h1, h2⟩, hsl, hpw, hop, hsb⟩, hvd, hbt, hsz, hes, hmg, hbk, hpy⟩ := hR
  rcases ixK x 400 (by decide) with e1 | ⟨e1, e2, e3⟩ | ⟨A, hA1, hA2, rfl⟩
  · unfold P_run
    repeat' first
      | refine w_st rfl rfl ?_
      | refine w_no rfl rfl ?_ ?_
      | (refine w_br rfl rfl (fun z => ?_) (fun z => ?_) <;> try (first | (simp (disch := omega) only [e1, kc, nI_clamp, nI_eq, nI_ltI, nI_leI, nI_m1, hu_o, hu_k, hu_same, not_true_eq_false, not_false_eq_true] at z; first | done | omega)))
      | refine w_in rfl rfl ?_
      | refine w_end rfl rfl ?_
      | refine w_endY rfl rfl ?_ ?_
      | refine w_up ?_
    all_goals try exact f_x 0 hR0 rfl rfl rfl
  · have e4 := e3 400 (Nat.le_refl _)
    unfold P_run
    repeat' first
      | refine w_st rfl rfl ?_
      | refine w_no rfl rfl ?_ ?_
      | (refine w_br rfl rfl (fun z => ?_) (fun z => ?_) <;> try (first | (simp (disch := omega) only [e1, e2, e4, kc, nI_clamp, nI_eq, nI_ltI, nI_leI, nI_m1, hu_o, hu_k, hu_same, not_true_eq_false, not_false_eq_true] at z; first | done | omega)))
      | refine w_in rfl rfl ?_
      | refine w_end rfl rfl ?_
      | refine w_endY rfl rfl ?_ ?_
      | refine w_up ?_
    all_goals try exact f_x 0 hR0 rfl rfl rfl
  · have a1 : (nI A < nI 1) = False := eq_false (fun z => by rw [nI_ltI (by omega) (by omega)] at z; omega)
    have a2 : (nI 400 < nI A) = False := eq_false (fun z => by rw [nI_ltI (by omega) (by omega)] at z; omega)
    have a3 : (nI A ≤ nI 400) = True := eq_true ((nI_leI (by omega) (by omega)).mpr hA2)
    rcases hpw with ⟨p1, p2⟩ | ⟨p1, p2⟩
    · by_cases ht0 : t = 0
      · subst ht0
        obtain ⟨T, t1, t2⟩ := tray2 hbk
        have t3 := t2 m rfl
        by_cases hT : T ≤ nI 0
        · have hT' : (T ≤ nI 0) = True := eq_true hT
          obtain ⟨H, b, c', m', r1, r2, r3, r4⟩ := find27 (c := c) (m := m) hR0 h1 hA1 hA2
          obtain ⟨rR, rst, rx, rH, _⟩ := id r3
          rcases r4 with ⟨rfl, r5⟩ | ⟨rfl, B, q, z1, z2, z3, z4, z5, z6⟩
          · unfold P_run
            repeat' first
              | refine w_st rfl rfl ?_
              | refine w_ca rfl rfl r1 ?_
              | refine w_ca rfl rfl r2 ?_
              | refine w_ca rfl rfl t1 ?_
              | refine w_ca rfl rfl t3 ?_
              | refine w_no rfl rfl ?_ ?_
              | (refine w_br rfl rfl (fun z => ?_) (fun z => ?_) <;> try (first | (simp (disch := omega) only [a1, a2, a3, p1, p2, h1, h2, hT', kc, nI_clamp, nI_eq, nI_ltI, nI_leI, nI_m1, hu_o, hu_k, hu_same, not_true_eq_false, not_false_eq_true] at z; first | done | omega)))
              | refine w_in rfl rfl ?_
              | refine w_end rfl rfl ?_
              | refine w_endY rfl rfl ?_ ?_
              | refine w_up ?_
            all_goals exact f_x 2 (show RR c' m' from rR) rfl rfl rfl
          · obtain ⟨⟨⟨t', ht', g1, g2⟩, gsl, gpw, gop, gsb⟩, gvd, gbt, gsz, ges, gmg, gbk, gpy⟩ := id rR
            unfold P_run
            repeat' first
              | refine w_st rfl rfl ?_
              | refine w_ca rfl rfl r1 ?_
              | refine w_ca rfl rfl r2 ?_
              | refine w_ca rfl rfl t1 ?_
              | refine w_ca rfl rfl t3 ?_
              | refine w_no rfl rfl ?_ ?_
              | (refine w_br rfl rfl (fun z => ?_) (fun z => ?_) <;> try (first | (simp (disch := omega) only [a1, a2, a3, p1, p2, h1, h2, hT', kc, nI_clamp, nI_eq, nI_ltI, nI_leI, nI_m1, hu_o, hu_k, hu_same, not_true_eq_false, not_false_eq_true] at z; first | done | omega)))
              | refine w_in rfl rfl ?_
              | refine w_end rfl rfl ?_
              | refine w_endY rfl rfl ?_ ?_
              | refine w_up ?_
            all_goals
              refine f_r ⟨⟨⟨5, by decide, rfl, rfl⟩, gsl, gpw, gop, gsb⟩, gvd, gbt, gsz, ges, gmg, gbk, gpy.1, fun _ => ⟨q, fun k w1 w2 => ?_, ?_⟩⟩ rfl ?_ rfl
              · obtain ⟨v1, v2, v3⟩ := z5 k w1 w2
                refine ⟨v1, ?_, Nat.le_trans v3 (Nat.le_of_eq (rH k w1 w2).2.1.symm)⟩
                rcases (show k = 1 ∨ k = 2 ∨ k = 3 ∨ k = 4 ∨ k = 5 by omega) with rfl | rfl | rfl | rfl | rfl <;> exact v2
              · rw [z6]
                exact z3
              · show some (c' 27 2) = some (m' 30 24)
                rw [z3, z4]
        · have hT' : (T ≤ nI 0) = False := eq_false hT
          unfold P_run
          repeat' first
            | refine w_st rfl rfl ?_
            | refine w_ca rfl rfl t1 ?_
            | refine w_ca rfl rfl t3 ?_
            | refine w_no rfl rfl ?_ ?_
            | (refine w_br rfl rfl (fun z => ?_) (fun z => ?_) <;> try (first | (simp (disch := omega) only [a1, a2, a3, p1, p2, h1, h2, hT', kc, nI_clamp, nI_eq, nI_ltI, nI_leI, nI_m1, hu_o, hu_k, hu_same, not_true_eq_false, not_false_eq_true] at z; first | done | omega)))
            | refine w_in rfl rfl ?_
            | refine w_end rfl rfl ?_
            | refine w_endY rfl rfl ?_ ?_
            | refine w_up ?_
          all_goals try exact f_x 1 hR0 rfl rfl rfl
      · unfold P_run
        repeat' first
          | refine w_st rfl rfl ?_
          | refine w_no rfl rfl ?_ ?_
          | (refine w_br rfl rfl (fun z => ?_) (fun z => ?_) <;> try (first | (simp (disch := omega) only [a1, a2, a3, p1, p2, h1, h2, kc, nI_clamp, nI_eq, nI_ltI, nI_leI, nI_m1, hu_o, hu_k, hu_same, not_true_eq_false, not_false_eq_true] at z; first | done | omega)))
          | refine w_in rfl rfl ?_
          | refine w_end rfl rfl ?_
          | refine w_endY rfl rfl ?_ ?_
          | refine w_up ?_
        all_goals try exact f_x 1 hR0 rfl rfl rfl
    · unfold P_run
      repeat' first
        | refine w_st rfl rfl ?_
        | refine w_no rfl rfl ?_ ?_
        | (refine w_br rfl rfl (fun z => ?_) (fun z => ?_) <;> try (first | (simp (disch := omega) only [a1, a2, a3, p1, p2, h1, h2, kc, nI_clamp, nI_eq, nI_ltI, nI_leI, nI_m1, hu_o, hu_k, hu_same, not_true_eq_false, not_false_eq_true] at z; first | done | omega)))
        | refine w_in rfl rfl ?_
        | refine w_end rfl rfl ?_
        | refine w_endY rfl rfl ?_ ?_
        | refine w_up ?_
      all_goals try exact f_x 1 hR0 rfl rfl rfl
