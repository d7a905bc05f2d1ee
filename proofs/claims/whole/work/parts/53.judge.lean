/-! THE JUDGE (written by wip/whole/g53.py). -/
/-- the first n verdicts that wait are shifted -/
def shf (m : HP) (n : Nat) : HP := fun a b => if a = 31 then (if b < n then m 31 (b + 1) else m a b) else m a b
/-- what is left of the verdicts -/
def mV (m : HP) : HP := if m 30 7 ≤ nI 0 then m else shf (hu m 30 7 (m 30 7 - nI 1)) (m 30 7 - nI 1).toNatClampNeg
def vJ (m : HP) : Int32 := if m 30 7 ≤ nI 0 then nI 6 else m 31 0
/-- the note under the judge gets its kind and goal -/
def mK (v : Int32) (m : HP) : HP := if v ≤ nI 0 ∨ nI 6 ≤ v then hu m 33 2 (nI 8) else hu (hu (hu m 32 2 v) 33 2 (nI 1)) 44 v.toNatClampNeg (m 44 v.toNatClampNeg + nI 1)
def mJ (m : HP) : HP := mK (vJ m) (mV m)
theorem shf_0 (m : HP) : shf m 0 = m := by
  funext a b
  simp [shf]
theorem shf_s (m : HP) (i : Nat) : hu (shf m i) 31 i (shf m i 31 (i + 1)) = shf m (i + 1) := by
  funext a b
  simp only [hu, shf]
  by_cases ha : a = 31
  · subst ha
    by_cases hb : b = i
    · subst hb
      simp
      intro h
      omega
    · by_cases h1 : b < i
      · simp [hb, h1, show b < i + 1 by omega]
      · simp [hb, h1, show ¬ b < i + 1 by omega]
  · simp [ha]
theorem m_shf {m : HP} {w : Nat} (hw : w ≤ 39) (h : m 30 7 = nI w) {v : Int32} {F : PO → Prop} : ∀ (d i : Nat), i + d = w → Wp 108 (57, [(2, .inl (nI w)), (1, .inl v), (0, .inr 30)], [], shf m w) F → Wp 108 (29, [(2, .inl (nI i)), (1, .inl v), (0, .inr 30)], [], shf m i) F := by
  intro d
  induction d with
  | zero =>
    intro i hi K
    obtain rfl : i = w := by omega
    have z1 : (nI i ≤ nI i) = True := eq_true ((nI_leI (by omega) (by omega)).mpr (Nat.le_refl _))
    have h' : shf m i 30 7 = nI i := h
    refine w_st rfl rfl ?_
    refine w_st rfl rfl ?_
    refine w_st rfl rfl ?_
    refine w_br rfl rfl (fun _ => K) (fun z => ?_)
    exfalso
    simp only [h', z1, not_true_eq_false] at z
  | succ d ih =>
    intro i hi K
    have ec : (nI i).toNatClampNeg = i := nI_clamp (by omega)
    have ec1 : (nI (i + 1)).toNatClampNeg = i + 1 := nI_clamp (by omega)
    have h' : shf m i 30 7 = nI w := h
    refine w_st rfl rfl ?_
    refine w_st rfl rfl ?_
    refine w_st rfl rfl ?_
    refine w_br rfl rfl (fun z => ?_) (fun z => ?_)
    · exfalso
      simp (disch := omega) only [h', nI_leI] at z
      omega
    · clear z
      repeat' first
        | refine g_st 108 29 rfl rfl rfl ?_
        | refine g_no 108 29 rfl rfl rfl ?_ ?_
      · simp only [kc, nI_add]
        exact nI_in (by omega) (by decide)
      · exact nI_in (by omega) (by decide)
      · simp only [kc, nI_add, ec, ec1]
        rw [shf_s]
        exact ih (i + 1) (by omega) K
set_option maxHeartbeats 2000000 in
theorem m_judge {m : HP} {w : Nat} (hw : w ≤ 40) (h : m 30 7 = nI w) : Ec 108 [.inr 30] m (.inl none, mJ m) := by
  have key : ∀ (v : Int32) (h1 : HP) (L : PL) (r : PO), (L = [(2, .inl (nI (w - 1))), (1, .inl v), (0, .inr 30)] ∨ L = [(1, .inl v), (0, .inr 30)]) → r = (.inl none, mK v h1) → Wp 108 (57, L, [], h1) (fun z => z = r) := by
    intro v h1 L r hL hr
    subst hr
    rcases ixK v 5 (by decide) with e1 | ⟨e1, e2, e3⟩ | ⟨j, hj1, hj2, rfl⟩
    · have q1 : (v ≤ nI 0) = True := eq_true (by have z1 := of_eq_true e1; simp only [Int32.lt_iff_toInt_lt, Int32.le_iff_toInt_le] at z1 ⊢; have a1 : (nI 1).toInt = 1 := rfl; have a2 : (nI 0).toInt = 0 := rfl; omega)
      have q2 : mK v h1 = hu h1 33 2 (nI 8) := by rw [mK, if_pos (Or.inl (of_eq_true q1))]
      rw [q2]
      rcases hL with rfl | rfl
      · skip
        repeat' first
          | refine w_st rfl rfl ?_
          | refine w_no rfl rfl ?_ ?_
          | (refine w_br rfl rfl (fun z => ?_) (fun z => ?_) <;> try (first | contradiction | (simp (disch := omega) only [q1, kc, nI_eq, nI_ltI, nI_leI, nI_m1, hu_o, hu_k, hu_same, not_true_eq_false, not_false_eq_true] at z; first | done | omega)))
          | refine w_in rfl rfl ?_
          | refine w_end rfl rfl ?_
          | refine w_endY rfl rfl ?_ ?_
          | refine w_up ?_
        rfl
      · skip
        repeat' first
          | refine w_st rfl rfl ?_
          | refine w_no rfl rfl ?_ ?_
          | (refine w_br rfl rfl (fun z => ?_) (fun z => ?_) <;> try (first | contradiction | (simp (disch := omega) only [q1, kc, nI_eq, nI_ltI, nI_leI, nI_m1, hu_o, hu_k, hu_same, not_true_eq_false, not_false_eq_true] at z; first | done | omega)))
          | refine w_in rfl rfl ?_
          | refine w_end rfl rfl ?_
          | refine w_endY rfl rfl ?_ ?_
          | refine w_up ?_
        rfl
    · have q1 : (v ≤ nI 0) = False := e3 0 (by decide)
      have q3 : (nI 6 ≤ v) = True := eq_true (by have z1 := of_eq_true e2; simp only [Int32.lt_iff_toInt_lt, Int32.le_iff_toInt_le] at z1 ⊢; have a1 : (nI 5).toInt = 5 := rfl; have a2 : (nI 6).toInt = 6 := rfl; omega)
      have q2 : mK v h1 = hu h1 33 2 (nI 8) := by rw [mK, if_pos (Or.inr (of_eq_true q3))]
      rw [q2]
      rcases hL with rfl | rfl
      · skip
        repeat' first
          | refine w_st rfl rfl ?_
          | refine w_no rfl rfl ?_ ?_
          | (refine w_br rfl rfl (fun z => ?_) (fun z => ?_) <;> try (first | contradiction | (simp (disch := omega) only [q1, q3, kc, nI_eq, nI_ltI, nI_leI, nI_m1, hu_o, hu_k, hu_same, not_true_eq_false, not_false_eq_true] at z; first | done | omega)))
          | refine w_in rfl rfl ?_
          | refine w_end rfl rfl ?_
          | refine w_endY rfl rfl ?_ ?_
          | refine w_up ?_
        rfl
      · skip
        repeat' first
          | refine w_st rfl rfl ?_
          | refine w_no rfl rfl ?_ ?_
          | (refine w_br rfl rfl (fun z => ?_) (fun z => ?_) <;> try (first | contradiction | (simp (disch := omega) only [q1, q3, kc, nI_eq, nI_ltI, nI_leI, nI_m1, hu_o, hu_k, hu_same, not_true_eq_false, not_false_eq_true] at z; first | done | omega)))
          | refine w_in rfl rfl ?_
          | refine w_end rfl rfl ?_
          | refine w_endY rfl rfl ?_ ?_
          | refine w_up ?_
        rfl
    · have ej : (nI j).toNatClampNeg = j := nI_clamp (by omega)
      have q2 : mK (nI j) h1 = hu (hu (hu h1 32 2 (nI j)) 33 2 (nI 1)) 44 j (h1 44 j + nI 1) := by
        rw [mK, if_neg (by rw [nI_leI (by omega) (by omega), nI_leI (by omega) (by omega)]; omega), ej]
      rw [q2]
      rcases hL with rfl | rfl
      · skip
        repeat' first
          | refine w_st rfl rfl ?_
          | refine w_no rfl rfl ?_ ?_
          | (refine w_br rfl rfl (fun z => ?_) (fun z => ?_) <;> try (first | contradiction | (simp (disch := omega) only [ej, kc, nI_eq, nI_ltI, nI_leI, nI_m1, hu_o, hu_k, hu_same, not_true_eq_false, not_false_eq_true] at z; first | done | omega)))
          | refine w_in rfl rfl ?_
          | refine w_end rfl rfl ?_
          | refine w_endY rfl rfl ?_ ?_
          | refine w_up ?_
        all_goals try (intro z; simp (disch := omega) only [ej, nI_clamp, kc, nI_ltI, hu_o, hu_k, hu_same, false_or] at z <;> omega)
        all_goals (simp (disch := omega) only [ej, kc, hu_o] <;> first | done | rfl)
      · skip
        repeat' first
          | refine w_st rfl rfl ?_
          | refine w_no rfl rfl ?_ ?_
          | (refine w_br rfl rfl (fun z => ?_) (fun z => ?_) <;> try (first | contradiction | (simp (disch := omega) only [ej, kc, nI_eq, nI_ltI, nI_leI, nI_m1, hu_o, hu_k, hu_same, not_true_eq_false, not_false_eq_true] at z; first | done | omega)))
          | refine w_in rfl rfl ?_
          | refine w_end rfl rfl ?_
          | refine w_endY rfl rfl ?_ ?_
          | refine w_up ?_
        all_goals try (intro z; simp (disch := omega) only [ej, nI_clamp, kc, nI_ltI, hu_o, hu_k, hu_same, false_or] at z <;> omega)
        all_goals (simp (disch := omega) only [ej, kc, hu_o] <;> first | done | rfl)
  refine w_fin ?_
  refine w_st rfl rfl ?_
  refine w_st rfl rfl ?_
  refine w_st rfl rfl ?_
  refine w_st rfl rfl ?_
  rcases (show w = 0 ∨ 0 < w by omega) with rfl | h0
  · have e : mJ m = mK (nI 6) m := by simp only [mJ, vJ, mV, h, if_pos (show nI 0 ≤ nI 0 by decide)]
    rw [e]
    have z1 : (m 30 7 ≤ nI 0) = True := eq_true (by rw [h]; decide)
    refine w_br rfl rfl (fun z => ?_) (fun z => ?_)
    · exact key (nI 6) m _ _ (Or.inr rfl) rfl
    · exfalso
      exact z (of_eq_true z1)
  · have z1 : ¬ nI w ≤ nI 0 := fun z => by rw [nI_leI (by omega) (by omega)] at z; omega
    have e1 : nI w - nI 1 = nI (w - 1) := by
      have := nI_pred (w - 1)
      rw [show w - 1 + 1 = w by omega] at this
      exact this
    have e2 : (nI (w - 1)).toNatClampNeg = w - 1 := nI_clamp (by omega)
    have e : mJ m = mK (m 31 0) (shf (hu m 30 7 (nI (w - 1))) (w - 1)) := by simp only [mJ, vJ, mV, h, if_neg z1, e1, e2]
    rw [e]
    refine w_br rfl rfl (fun z => ?_) (fun z => ?_)
    · exfalso
      rw [h] at z
      exact z1 z
    · repeat' first
        | refine g_st 108 29 rfl rfl rfl ?_
        | refine g_no 108 29 rfl rfl rfl (nI_in (by decide) (by decide)) ?_
      have hh : hu m 30 7 (m 30 7 - Int32.ofInt 1) = shf (hu m 30 7 (nI (w - 1))) 0 := by
        rw [shf_0, h, ← e1]
        rfl
      rw [hh]
      exact m_shf (m := hu m 30 7 (nI (w - 1))) (w := w - 1) (by omega) (by simp [hu]) (w - 1) 0 (by omega) (key (m 31 0) _ _ _ (Or.inl rfl) rfl)
theorem RRb3_2 {c m : HP} (h : RRb 3 c m) (h2 : c 5 2 ≠ nI 0) : RR c m := by
  obtain ⟨h1, hv, h3, h4⟩ := h
  refine ⟨h1, hv, fun s hs => ?_, h4⟩
  rcases h3 s hs with h | ⟨k, g, t, q1, q2, q3, q4, q5⟩
  · exact Or.inl h
  · refine Or.inr ⟨k, g, t, q1, q2, q3, fun z => ?_, q5⟩
    have := q4 z
    by_cases e : s = 2
    · subst e z
      exact absurd q5.2.2.1 h2
    · omega
set_option maxHeartbeats 2000000 in
/-- both sides judge the note on segment 2 -/
theorem jd2 {c m : HP} (hR : RRb 3 c m) {k t : Nat} (hk : k ≤ 5) (ht : t ≤ 1) (hn : r_nt c m 2 k 0 t) : ∃ c', Ec 58 [.inr 0] c (.inl none, c') ∧ Ec 108 [.inr 30] m (.inl none, mJ m) ∧ RR c' (mJ m) := by
  have hR0 := hR
  obtain ⟨hfl, ⟨f, w, hf, hw, v1, v2, v3, v4⟩, hbt, hsz, hes, hmg, hbk, hpy⟩ := hR
  obtain ⟨b1, b2, b3, b4, b5, b6⟩ := hn
  have key : ∀ (v : Int32) (c1 m1 : HP), RRb 3 c1 m1 → r_nt c1 m1 2 k 0 t → Ec 4 [.inr 1] c (.inl (some v), c1) → ∃ c', Ec 58 [.inr 0] c (.inl none, c') ∧ RR c' (mK v m1) := by
    intro v c1 m1 hR1 hn1 hE
    have hn2 := hn1
    obtain ⟨d1, d2, d3, d4, d5, d6⟩ := hn1
    have hR2 := hR1
    obtain ⟨hfl, hvd, hbt, hsz, hes, hmg, hbk, hpy⟩ := hR1
    have b3' : (c 5 2 = nI 0) = True := eq_true b3
    have e22 : (nI 2).toNatClampNeg = 2 := by decide
    have tray : mK v m1 = hu m1 33 2 (nI 8) → RR (hu c1 5 2 (nI 8)) (mK v m1) := fun q => by
      rw [q]
      exact RRb3_2 (RR_goal (g' := 8) hR2 (by decide) hk (by decide) ht (by decide) (by decide) hn2) (by simp only [hu_same]; decide)
    rcases ixK v 5 (by decide) with e1 | ⟨e1, e2, e3⟩ | ⟨j, hj1, hj2, rfl⟩
    · refine ⟨hu c1 5 2 (nI 8), w_fin ?_, tray ?_⟩
      · skip
        repeat' first
          | refine w_st rfl rfl ?_
          | refine w_ca rfl rfl hE ?_
          | refine w_no rfl rfl ?_ ?_
          | (refine w_br rfl rfl (fun z => ?_) (fun z => ?_) <;> try (first | contradiction | (simp (disch := omega) only [b3', e22, e1, kc, nI_eq, nI_ltI, nI_leI, nI_m1, hu_o, hu_k, hu_same, not_true_eq_false, not_false_eq_true] at z; first | done | omega)))
          | refine w_in rfl rfl ?_
          | refine w_end rfl rfl ?_
          | refine w_endY rfl rfl ?_ ?_
          | refine w_up ?_
        all_goals rfl
      · rw [mK, if_pos (Or.inl (by have z1 := of_eq_true e1; simp only [Int32.lt_iff_toInt_lt, Int32.le_iff_toInt_le] at z1 ⊢; have a1 : (nI 1).toInt = 1 := rfl; have a2 : (nI 0).toInt = 0 := rfl; omega))]
    · refine ⟨hu c1 5 2 (nI 8), w_fin ?_, tray ?_⟩
      · skip
        repeat' first
          | refine w_st rfl rfl ?_
          | refine w_ca rfl rfl hE ?_
          | refine w_no rfl rfl ?_ ?_
          | (refine w_br rfl rfl (fun z => ?_) (fun z => ?_) <;> try (first | contradiction | (simp (disch := omega) only [b3', e22, e1, e2, kc, nI_eq, nI_ltI, nI_leI, nI_m1, hu_o, hu_k, hu_same, not_true_eq_false, not_false_eq_true] at z; first | done | omega)))
          | refine w_in rfl rfl ?_
          | refine w_end rfl rfl ?_
          | refine w_endY rfl rfl ?_ ?_
          | refine w_up ?_
        all_goals rfl
      · rw [mK, if_pos (Or.inr (by have z1 := of_eq_true e2; simp only [Int32.lt_iff_toInt_lt, Int32.le_iff_toInt_le] at z1 ⊢; have a1 : (nI 5).toInt = 5 := rfl; have a2 : (nI 6).toInt = 6 := rfl; omega))]
    · have ej : (nI j).toNatClampNeg = j := nI_clamp (by omega)
      have q2 : mK (nI j) m1 = hu (hu (hu m1 32 2 (nI j)) 33 2 (nI 1)) 44 j (m1 44 j + nI 1) := by
        rw [mK, if_neg (by rw [nI_leI (by omega) (by omega), nI_leI (by omega) (by omega)]; omega), ej]
      have dm : (nI 0 = -1) = False := nI_m1 (by decide)
      have hR3 := RR_goal (g' := 1) hR2 (by decide) hk (by decide) ht (by decide) (by decide) hn2
      rw [q2]
      refine ⟨hu (hu (hu c1 4 2 (nI j)) 5 2 (nI 1)) 23 j (c1 23 j + nI 1), w_fin ?_, RRb3_2 ⟨hfl, hvd, btb_at (j := 2) hbt (fun s' hs' => by simp [hu, hs']) (Or.inr ⟨j, 1, t, hj2, by decide, ht, by decide, by simp [hu], by simp [hu], by simp [hu], by simp [hu], d5, d6⟩), hR3.2.2.2.1, hes, hmg, (bk_add (k := j) (x := nI 1) 23 44 hbk rfl rfl (by decide) : r_bk (hu c1 23 j (c1 23 j + nI 1)) (hu m1 44 j (m1 44 j + nI 1))), hpy⟩ (by simp only [hu]; simp; decide)⟩
      · skip
        repeat' first
          | refine w_st rfl rfl ?_
          | refine w_ca rfl rfl hE ?_
          | refine w_no rfl rfl ?_ ?_
          | (refine w_br rfl rfl (fun z => ?_) (fun z => ?_) <;> try (first | contradiction | (simp (disch := omega) only [b3', e22, ej, d3, dm, kc, nI_eq, nI_ltI, nI_leI, nI_m1, hu_o, hu_k, hu_same, not_true_eq_false, not_false_eq_true] at z; first | done | omega)))
          | refine w_in rfl rfl ?_
          | refine w_end rfl rfl ?_
          | refine w_endY rfl rfl ?_ ?_
          | refine w_up ?_
        all_goals try (intro z; simp (disch := omega) only [b3', e22, ej, d3, dm, nI_clamp, kc, nI_ltI, hu_o, hu_k, hu_same, false_or] at z <;> omega)
        all_goals (simp (disch := omega) only [ej, kc, hu_o] <;> first | done | rfl)
  suffices h : ∃ c', Ec 58 [.inr 0] c (.inl none, c') ∧ RR c' (mJ m) by
    obtain ⟨c', q1, q2⟩ := h
    exact ⟨c', q1, m_judge hw v3, q2⟩
  rcases (show w = 0 ∨ 0 < w by omega) with rfl | h0
  · have e : mJ m = mK (nI 6) m := by simp only [mJ, vJ, mV, v3, if_pos (show nI 0 ≤ nI 0 by decide)]
    rw [e]
    refine key (nI 6) c m hR0 ⟨b1, b2, b3, b4, b5, b6⟩ (w_fin ?_)
    repeat' first
      | refine w_st rfl rfl ?_
      | refine w_no rfl rfl ?_ ?_
      | (refine w_br rfl rfl (fun z => ?_) (fun z => ?_) <;> try (first | contradiction | (simp (disch := omega) only [v2, kc, nI_eq, nI_ltI, nI_leI, nI_m1, hu_o, hu_k, hu_same, not_true_eq_false, not_false_eq_true] at z; first | done | omega)))
      | refine w_in rfl rfl ?_
      | refine w_end rfl rfl ?_
      | refine w_endY rfl rfl ?_ ?_
      | refine w_up ?_
    all_goals rfl
  · have z1 : ¬ nI w ≤ nI 0 := fun z => by rw [nI_leI (by omega) (by omega)] at z; omega
    have e1 : nI w - nI 1 = nI (w - 1) := by
      have := nI_pred (w - 1)
      rw [show w - 1 + 1 = w by omega] at this
      exact this
    have e2 : (nI (w - 1)).toNatClampNeg = w - 1 := nI_clamp (by omega)
    have ef : (nI f).toNatClampNeg = f := nI_clamp (by omega)
    have e : mJ m = mK (m 31 0) (shf (hu m 30 7 (nI (w - 1))) (w - 1)) := by simp only [mJ, vJ, mV, v3, if_neg z1, e1, e2]
    rw [e]
    have v40 := v4 0 h0
    rw [Nat.add_zero, Nat.mod_eq_of_lt hf] at v40
    refine key (m 31 0) (hu (hu c 1 1 (nI ((f + 1) % 40))) 1 2 (nI (w - 1))) _ ⟨hfl, ⟨(f + 1) % 40, w - 1, by omega, by omega, rfl, rfl, by simp [shf, hu], fun i hi => ?_⟩, hbt, hsz, hes, hmg, hbk, hpy⟩ ⟨b1, b2, b3, b4, b5, b6⟩ (w_fin ?_)
    · have q := v4 (i + 1) (by omega)
      have e3 : ((f + 1) % 40 + i) % 40 = (f + (i + 1)) % 40 := by omega
      simp only [shf, hu, if_pos hi, if_true, e3]
      exact q
    · skip
      repeat' first
        | refine w_st rfl rfl ?_
        | refine w_no rfl rfl ?_ ?_
        | (refine w_br rfl rfl (fun z => ?_) (fun z => ?_) <;> try (first | contradiction | (simp (disch := omega) only [v1, v2, ef, nI_add, pk_rem, kc, nI_eq, nI_ltI, nI_leI, nI_m1, hu_o, hu_k, hu_same, not_true_eq_false, not_false_eq_true] at z; first | done | omega)))
        | refine w_in rfl rfl ?_
        | refine w_end rfl rfl ?_
        | refine w_endY rfl rfl ?_ ?_
        | refine w_up ?_
      all_goals try (intro z; simp (disch := omega) only [v1, v2, ef, nI_add, pk_rem, nI_clamp, kc, nI_ltI, hu_o, hu_k, hu_same, false_or] at z <;> omega)
      all_goals (simp (disch := omega) only [kc, v1, v2, ef, nI_add, pk_rem, hu_o, hu_k, e1, v40] <;> first | done | rfl)
