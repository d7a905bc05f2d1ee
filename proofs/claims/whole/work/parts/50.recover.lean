/-! RECOVER, SHUT, CLOSE, POWER (written by wip/whole/gen_rec.py). -/
theorem w_sw {j j' : Nat} {a b : PG} {G : PO → PO → Prop} (h : Wp j a (fun r => Wp j' b (fun r' => G r r'))) : Wp j' b (fun r' => Wp j a (fun r => G r r')) := by
  obtain ⟨r, h1, r', h2, h3⟩ := h
  exact ⟨r', h2, r, h1, h3⟩
theorem nN_same {g g' : Nat → Int32} {j : Nat} (e : ∀ i, i ≠ j → g' i = g i) (h1 : g j ≠ -1) (h2 : g' j ≠ -1) : nN g' = nN g := by
  refine sm_eq (fun i _ => ?_)
  by_cases hi : i = j
  · subst hi
    simp only [if_neg h1, if_neg h2]
  · simp only [e i hi]
set_option maxHeartbeats 2000000 in
theorem rec_loop (x y : Int32) : ∀ (d s : Nat), s + d = 10 → ∀ c m, RR c m → c 0 7 = nI 7 → m 30 0 = x → c 0 9 = y → Wp 76 (15, [(1, .inl (nI s)), (0, .inr 0)], [], c) (fun rc => Wp 121 (29, [(1, .inl (nI s)), (0, .inr 30)], [], m) (fun rm => rc.1 = .inl none ∧ rm.1 = .inl none ∧ rm.2 30 0 = x ∧ rc.2 0 9 = y ∧ RR rc.2 rm.2)) := by
  intro d
  induction d with
  | zero =>
    intro s hs c m hR h7 hx hy
    obtain rfl : s = 10 := by omega
    repeat' first
      | refine w_st rfl rfl ?_
      | refine w_end rfl rfl ?_
    exact ⟨rfl, rfl, hx, hy, hR⟩
  | succ d ih =>
    intro s hs c m hR h7 hx hy
    have hR0 := hR
    obtain ⟨⟨⟨t, ht, h1, h2⟩, hsl, hpw, hop, hsb⟩, hvd, hbt, hsz, hes, hmg, hbk, hpy⟩ := hR
    have ec : (nI s).toNatClampNeg = s := nI_clamp (by omega)
    have h8 : (nI 10 ≤ nI s) = False := eq_false (fun z => by rw [nI_leI (by omega) (by omega)] at z; omega)
    rcases hbt s (by omega) with ⟨q1, q2, q3, q4⟩ | ⟨k, g, y', hk, hg, hy', hgs, b1, b2, b3, b4, b5, b6⟩
    · -- no note
      refine w_st rfl rfl ?_
      refine w_st rfl rfl ?_
      refine w_br rfl rfl (fun z => ?_) (fun z => ?_)
      · exfalso; simp (disch := omega) only [kc, nI_leI] at z; omega
      clear z
      repeat' first
        | refine g_st 76 15 rfl rfl rfl ?_
        | refine g_no 76 15 rfl rfl rfl ?_ ?_
        | (refine g_br 76 15 rfl rfl rfl (fun z => ?_) (fun z => ?_) <;> try (first | contradiction | (simp (disch := omega) only [q1, q2, ec, h7, h8, kc, nI_eq, nI_ltI, nI_leI, nI_m1, hu_o, hu_k, hu_same, not_true_eq_false, not_false_eq_true] at z; first | done | omega)))
        | refine w_in rfl rfl ?_
        | refine w_end rfl rfl ?_
        | refine w_endY rfl rfl ?_ ?_
        | refine w_up ?_
      all_goals try (intro z; simp (disch := omega) only [q1, q2, ec, h7, h8, nI_clamp, kc, nI_ltI, hu_o, hu_k, hu_same] at z <;> omega)
      refine w_sw ?_
      refine w_st rfl rfl ?_
      refine w_st rfl rfl ?_
      refine w_br rfl rfl (fun z => ?_) (fun z => ?_)
      · exfalso; simp (disch := omega) only [kc, nI_leI] at z; omega
      clear z
      repeat' first
        | refine g_st 121 29 rfl rfl rfl ?_
        | refine g_no 121 29 rfl rfl rfl ?_ ?_
        | (refine g_br 121 29 rfl rfl rfl (fun z => ?_) (fun z => ?_) <;> try (first | contradiction | (simp (disch := omega) only [q1, q2, ec, h7, h8, kc, nI_eq, nI_ltI, nI_leI, nI_m1, hu_o, hu_k, hu_same, not_true_eq_false, not_false_eq_true] at z; first | done | omega)))
        | refine w_in rfl rfl ?_
        | refine w_end rfl rfl ?_
        | refine w_endY rfl rfl ?_ ?_
        | refine w_up ?_
      all_goals try (intro z; simp (disch := omega) only [q1, q2, ec, h7, h8, nI_clamp, kc, nI_ltI, hu_o, hu_k, hu_same] at z <;> omega)
      refine w_sw ?_
      have e := ih (s + 1) (by omega) c m hR0 h7 hx hy
      simp only [kc, nI_add]
      exact e
    · have ek : (nI k).toNatClampNeg = k := nI_clamp (by omega)
      have em1 : (nI k = -1) = False := nI_m1 (by omega)
      have en1 : nI g ≠ -1 := of_eq_false (nI_m1 (by omega))
      by_cases h9 : s ≤ 7
      · have l1 : (nI s ≤ nI 7) = True := eq_true ((nI_leI (by omega) (by omega)).mpr h9)
        have l2 : (nI 8 ≤ nI s) = False := eq_false (fun z => by rw [nI_leI (by omega) (by omega)] at z; omega)
        refine w_st rfl rfl ?_
        refine w_st rfl rfl ?_
        refine w_br rfl rfl (fun z => ?_) (fun z => ?_)
        · exfalso; simp (disch := omega) only [kc, nI_leI] at z; omega
        clear z
        repeat' first
          | refine g_st 76 15 rfl rfl rfl ?_
          | refine g_no 76 15 rfl rfl rfl ?_ ?_
          | (refine g_br 76 15 rfl rfl rfl (fun z => ?_) (fun z => ?_) <;> try (first | contradiction | (simp (disch := omega) only [b1, b2, b3, b4, ec, em1, h7, h8, l1, l2, kc, nI_eq, nI_ltI, nI_leI, nI_m1, hu_o, hu_k, hu_same, not_true_eq_false, not_false_eq_true] at z; first | done | omega)))
          | refine w_in rfl rfl ?_
          | refine w_end rfl rfl ?_
          | refine w_endY rfl rfl ?_ ?_
          | refine w_up ?_
        all_goals try (intro z; simp (disch := omega) only [b1, b2, b3, b4, ec, em1, h7, h8, l1, l2, nI_clamp, kc, nI_ltI, hu_o, hu_k, hu_same] at z <;> omega)
        refine w_sw ?_
        refine w_st rfl rfl ?_
        refine w_st rfl rfl ?_
        refine w_br rfl rfl (fun z => ?_) (fun z => ?_)
        · exfalso; simp (disch := omega) only [kc, nI_leI] at z; omega
        clear z
        repeat' first
          | refine g_st 121 29 rfl rfl rfl ?_
          | refine g_no 121 29 rfl rfl rfl ?_ ?_
          | (refine g_br 121 29 rfl rfl rfl (fun z => ?_) (fun z => ?_) <;> try (first | contradiction | (simp (disch := omega) only [b1, b2, b3, b4, ec, em1, h7, h8, l1, l2, kc, nI_eq, nI_ltI, nI_leI, nI_m1, hu_o, hu_k, hu_same, not_true_eq_false, not_false_eq_true] at z; first | done | omega)))
          | refine w_in rfl rfl ?_
          | refine w_end rfl rfl ?_
          | refine w_endY rfl rfl ?_ ?_
          | refine w_up ?_
        all_goals try (intro z; simp (disch := omega) only [b1, b2, b3, b4, ec, em1, h7, h8, l1, l2, nI_clamp, kc, nI_ltI, hu_o, hu_k, hu_same] at z <;> omega)
        refine w_sw ?_
        simp (disch := omega) only [ec, kc, nI_add]
        refine ih (s + 1) (by omega) (hu c 5 s (nI 6)) (hu m 33 s (nI 6)) ⟨⟨⟨t, ht, h1, h2⟩, hsl, hpw, hop, hsb⟩, hvd, bt_at (j := s) hbt (fun s' hs' => by simp [hu, hs']) (Or.inr ⟨k, 6, y', hk, by omega, hy', fun z => absurd z (by decide), ?_⟩), ?_, hes, hmg, hbk, hpy⟩ h7 hx hy
        · simp [r_nt, hu, b1, b2, b5, b6]
        · show c 3 3 = nI (nN _)
          rw [hsz, nN_same (g := c 5) (g' := hu c 5 s (nI 6) 5) (j := s) (fun i hi => by simp [hu, hi]) (by rw [b3]; exact en1) (by simp only [hu_same]; exact of_eq_false (nI_m1 (by omega)))]
      · have l1 : (nI s ≤ nI 7) = False := eq_false (fun z => by rw [nI_leI (by omega) (by omega)] at z; omega)
        have l2 : (nI 8 ≤ nI s) = True := eq_true ((nI_leI (by omega) (by omega)).mpr (by omega))
        refine w_st rfl rfl ?_
        refine w_st rfl rfl ?_
        refine w_br rfl rfl (fun z => ?_) (fun z => ?_)
        · exfalso; simp (disch := omega) only [kc, nI_leI] at z; omega
        clear z
        repeat' first
          | refine g_st 76 15 rfl rfl rfl ?_
          | refine g_no 76 15 rfl rfl rfl ?_ ?_
          | (refine g_br 76 15 rfl rfl rfl (fun z => ?_) (fun z => ?_) <;> try (first | contradiction | (simp (disch := omega) only [b1, b2, b3, b4, ec, em1, h7, h8, l1, l2, kc, nI_eq, nI_ltI, nI_leI, nI_m1, hu_o, hu_k, hu_same, not_true_eq_false, not_false_eq_true] at z; first | done | omega)))
          | refine w_in rfl rfl ?_
          | refine w_end rfl rfl ?_
          | refine w_endY rfl rfl ?_ ?_
          | refine w_up ?_
        all_goals try (intro z; simp (disch := omega) only [b1, b2, b3, b4, ec, em1, h7, h8, l1, l2, ek, nI_clamp, kc, nI_ltI, hu_o, hu_k, hu_same] at z <;> omega)
        refine w_sw ?_
        refine w_st rfl rfl ?_
        refine w_st rfl rfl ?_
        refine w_br rfl rfl (fun z => ?_) (fun z => ?_)
        · exfalso; simp (disch := omega) only [kc, nI_leI] at z; omega
        clear z
        repeat' first
          | refine g_st 121 29 rfl rfl rfl ?_
          | refine g_no 121 29 rfl rfl rfl ?_ ?_
          | (refine g_br 121 29 rfl rfl rfl (fun z => ?_) (fun z => ?_) <;> try (first | contradiction | (simp (disch := omega) only [b1, b2, b3, b4, ec, em1, h7, h8, l1, l2, kc, nI_eq, nI_ltI, nI_leI, nI_m1, hu_o, hu_k, hu_same, not_true_eq_false, not_false_eq_true] at z; first | done | omega)))
          | refine w_in rfl rfl ?_
          | refine w_end rfl rfl ?_
          | refine w_endY rfl rfl ?_ ?_
          | refine w_up ?_
        all_goals try (intro z; simp (disch := omega) only [b1, b2, b3, b4, ec, em1, h7, h8, l1, l2, ek, nI_clamp, kc, nI_ltI, hu_o, hu_k, hu_same] at z <;> omega)
        refine w_sw ?_
        simp (disch := omega) only [ec, kc, nI_add, hu_o, hu_k, b1, b2, ek]
        refine ih (s + 1) (by omega) _ _ ⟨⟨⟨t, ht, h1, h2⟩, hsl, hpw, hop, hsb⟩, hvd, bt_at (j := s) hbt (fun s' hs' => ?_) (Or.inl ?_), ?_, hes, hmg, ?_, hpy⟩ h7 hx hy
        · simp only [hu]; simp [hs']
        · simp [r_no, hu, kc]
          rcases (show y' = 0 ∨ y' = 1 by omega) with rfl | rfl <;> simp [b6]
        · show c 3 3 - nI 1 = nI (nN _)
          rw [hsz, nN_clr (g := c 5) (g' := hu c 5 s (-1) 5) (j := s) (by omega) (fun i hi => by simp [hu, hi]) (by rw [b3]; exact en1) (by simp [hu])]
          exact nI_pred _
        · exact (bk_add (k := k) (x := nI 1) 18 39 hbk rfl rfl (by decide) : r_bk (hu c 18 k (c 18 k + nI 1)) (hu m 39 k (m 39 k + nI 1)))
theorem rec2 {c m : HP} (hR : RR c m) : ∃ c' m', Ec 76 [.inr 0] c (.inl none, c') ∧ Ec 121 [.inr 30] m (.inl none, m') ∧ m' 30 0 = m 30 0 ∧ c' 0 9 = c 0 9 ∧ RR c' m' := by
  have hR0 := hR
  obtain ⟨⟨⟨t, ht, h1, h2⟩, hsl, hpw, hop, hsb⟩, hvd, hbt, hsz, hes, hmg, hbk, hpy⟩ := hR
  suffices h : Wp 76 (0, pl_in 0 [.inr 0], [], c) (fun rc => Wp 121 (0, pl_in 0 [.inr 30], [], m) (fun rm => rc.1 = .inl none ∧ rm.1 = .inl none ∧ rm.2 30 0 = m 30 0 ∧ rc.2 0 9 = c 0 9 ∧ RR rc.2 rm.2)) by
    obtain ⟨⟨oc, c'⟩, e1, ⟨om, m'⟩, e2, e3, e4, e5, e6, e7⟩ := h
    dsimp only at e3 e4 e5 e6 e7
    subst e3 e4
    exact ⟨c', m', e1, e2, e5, e6, e7⟩
  repeat' first
    | refine g_st 76 15 rfl rfl rfl ?_
    | refine g_no 76 15 rfl rfl rfl ?_ ?_
    | (refine g_br 76 15 rfl rfl rfl (fun z => ?_) (fun z => ?_) <;> try (first | contradiction | (simp (disch := omega) only [kc, nI_eq, nI_ltI, nI_leI, nI_m1, hu_o, hu_k, hu_same, not_true_eq_false, not_false_eq_true] at z; first | done | omega)))
    | refine w_in rfl rfl ?_
    | refine w_end rfl rfl ?_
    | refine w_endY rfl rfl ?_ ?_
    | refine w_up ?_
  refine w_sw ?_
  repeat' first
    | refine g_st 121 29 rfl rfl rfl ?_
    | refine g_no 121 29 rfl rfl rfl ?_ ?_
    | (refine g_br 121 29 rfl rfl rfl (fun z => ?_) (fun z => ?_) <;> try (first | contradiction | (simp (disch := omega) only [kc, nI_eq, nI_ltI, nI_leI, nI_m1, hu_o, hu_k, hu_same, not_true_eq_false, not_false_eq_true] at z; first | done | omega)))
    | refine w_in rfl rfl ?_
    | refine w_end rfl rfl ?_
    | refine w_endY rfl rfl ?_ ?_
    | refine w_up ?_
  refine w_sw ?_
  exact rec_loop (m 30 0) (c 0 9) 10 0 rfl _ _ ⟨⟨⟨7, by decide, rfl, rfl⟩, hsl, hpw, hop, hsb⟩, hvd, hbt, hsz, hes, hmg, hbk, rfl, fun z => absurd (show nI 7 = nI 5 from z) (by decide)⟩ rfl rfl rfl
theorem c_any_loop (h : HP) : ∀ (d s : Nat), s + d = 10 → sm (fun s => if h 6 s = 0 then 0 else 1) s = 0 → Wp 17 (2, [(1, .inl (nI s)), (0, .inr 3)], [], h) (fun r => r = (.inl (some (nI (if sm (fun s => if h 6 s = 0 then 0 else 1) 10 = 0 then 0 else 1))), h)) := by
  intro d
  induction d with
  | zero =>
    intro s hs h0
    obtain rfl : s = 10 := by omega
    rw [if_pos h0]
    repeat' first
      | refine w_st rfl rfl ?_
      | refine w_end rfl rfl ?_
    rfl
  | succ d ih =>
    intro s hs h0
    have ec : (nI s).toNatClampNeg = s := nI_clamp (by omega)
    refine w_st rfl rfl ?_
    refine w_st rfl rfl ?_
    refine w_br rfl rfl (fun z => ?_) (fun z => ?_)
    · exfalso
      simp (disch := omega) only [kc, nI_leI] at z
      omega
    · clear z
      refine w_st rfl rfl ?_
      refine w_st rfl rfl ?_
      refine w_st rfl rfl ?_
      refine w_no rfl rfl (nI_in (by omega) (by decide)) ?_
      refine w_br rfl rfl (fun z => ?_) (fun z => ?_)
      · rw [ec] at z
        have e := ih (s + 1) (by omega) (by simp only [sm]; rw [if_pos (show h 6 s = 0 from z), h0])
        repeat' refine g_st 17 2 rfl rfl rfl ?_
        simp only [kc, nI_add]
        exact e
      · rw [ec] at z
        have e := sm_one (f := fun s => if h 6 s = 0 then 0 else 1) (s := s) (n := 10) (by omega)
        simp only [if_neg z] at e
        rw [if_neg (by omega)]
        repeat' first
          | refine w_st rfl rfl ?_
          | refine w_end rfl rfl ?_
        rfl
theorem c_any (h : HP) : Ec 17 [.inr 3] h (.inl (some (nI (if sm (fun s => if h 6 s = 0 then 0 else 1) 10 = 0 then 0 else 1))), h) := by
  refine w_fin ?_
  refine w_st rfl rfl ?_
  refine w_st rfl rfl ?_
  exact c_any_loop h 10 0 rfl rfl
/-- b says whether the sum isn't zero -/
def sb (f : Nat → Nat) (n b : Nat) : Prop := b = 0 ∧ sm f n = 0 ∨ b = 1 ∧ sm f n ≠ 0
theorem m_stk_loop (h : HP) : ∀ (d s b : Nat), s + d = 10 → sb (fun s => if ¬ h 32 s = -1 ∧ ¬ h 34 s = 0 then 1 else 0) s b → Wp 120 (4, [(2, .inl (nI s)), (1, .inl (nI b)), (0, .inr 30)], [], h) (fun r => ∃ b', sb (fun s => if ¬ h 32 s = -1 ∧ ¬ h 34 s = 0 then 1 else 0) 10 b' ∧ r = (.inl (some (nI b')), h)) := by
  intro d
  induction d with
  | zero =>
    intro s b hs hb
    obtain rfl : s = 10 := by omega
    refine w_st rfl rfl ?_
    refine w_st rfl rfl ?_
    refine w_st rfl rfl ?_
    refine w_st rfl rfl ?_
    refine w_endY rfl rfl ?_ ⟨b, hb, rfl⟩
    right
    rcases hb with ⟨rfl, _⟩ | ⟨rfl, _⟩
    · left; decide
    · right; decide
  | succ d ih =>
    intro s b hs hb
    have ec : (nI s).toNatClampNeg = s := nI_clamp (by omega)
    refine w_st rfl rfl ?_
    refine w_st rfl rfl ?_
    refine w_br rfl rfl (fun z => ?_) (fun z => ?_)
    · exfalso
      simp (disch := omega) only [kc, nI_leI] at z
      omega
    · clear z
      rcases hb with ⟨rfl, h0⟩ | ⟨rfl, h0⟩
      · repeat' first
          | refine g_st 120 4 rfl rfl rfl ?_
          | refine g_no 120 4 rfl rfl rfl ?_ ?_
          | refine g_br 120 4 rfl rfl rfl (fun z => ?_) (fun z => ?_)
        all_goals try exact nI_in (by omega) (by decide)
        all_goals simp only [ec] at *
        · simp only [kc, nI_add]
          refine ih (s + 1) 0 (by omega) (Or.inl ⟨rfl, ?_⟩)
          simp only [sm, h0, show h 32 s = -1 from z, not_true_eq_false, false_and, if_false]
        · simp only [kc, nI_add]
          refine ih (s + 1) 0 (by omega) (Or.inl ⟨rfl, ?_⟩)
          simp only [sm, h0, show h 34 s = 0 from z, not_true_eq_false, and_false, if_false]
        · simp only [kc, nI_add]
          refine ih (s + 1) 1 (by omega) (Or.inr ⟨rfl, ?_⟩)
          rename_i z1
          simp only [sm, h0]
          rw [if_pos ⟨z1, z⟩]
          decide
      · repeat' first
          | refine g_st 120 4 rfl rfl rfl ?_
          | refine g_no 120 4 rfl rfl rfl ?_ ?_
          | refine g_br 120 4 rfl rfl rfl (fun z => ?_) (fun z => ?_)
        simp only [kc, nI_add]
        refine ih (s + 1) 1 (by omega) (Or.inr ⟨rfl, ?_⟩)
        simp only [sm]
        omega
theorem m_stk (h : HP) : ∃ b, sb (fun s => if ¬ h 32 s = -1 ∧ ¬ h 34 s = 0 then 1 else 0) 10 b ∧ Ec 120 [.inr 30] h (.inl (some (nI b)), h) := by
  have e : Wp 120 (0, pl_in 0 [.inr 30], [], h) (fun r => ∃ b', sb (fun s => if ¬ h 32 s = -1 ∧ ¬ h 34 s = 0 then 1 else 0) 10 b' ∧ r = (.inl (some (nI b')), h)) := by
    refine w_st rfl rfl ?_
    refine w_st rfl rfl ?_
    refine w_st rfl rfl ?_
    refine w_st rfl rfl ?_
    exact m_stk_loop h 10 0 0 rfl (Or.inl ⟨rfl, rfl⟩)
  obtain ⟨r, h1, b, h2, rfl⟩ := e
  exact ⟨b, h2, h1⟩
theorem k_stk {c m : HP} (h : r_bt c m) : sm (fun s => if c 6 s = 0 then 0 else 1) 10 = sm (fun s => if ¬ m 32 s = -1 ∧ ¬ m 34 s = 0 then 1 else 0) 10 := by
  refine sm_eq (fun s hs => ?_)
  rcases h s hs with ⟨q1, q2, q3, q4⟩ | ⟨k', g, y, hk', hg, hy, hgs, b1, b2, b3, b4, b5, b6⟩
  · simp only [q2, q3, nI_0, not_true_eq_false, false_and, if_false, if_true]
  · have e2 : ¬ nI k' = -1 := of_eq_false (nI_m1 (by omega))
    rcases (show y = 0 ∨ y = 1 by omega) with rfl | rfl
    · simp only [b5, b6, nI_0, not_true_eq_false, and_false, if_false, if_true]
    · have e3 : ¬ nI 1 = 0 := by decide
      simp only [b2, b5, b6, e2, e3, if_false, not_false_eq_true, and_self, if_true]
theorem any2 {c m : HP} (h : r_bt c m) : ∃ t, t ≤ 1 ∧ Ec 17 [.inr 3] c (.inl (some (nI t)), c) ∧ Ec 120 [.inr 30] m (.inl (some (nI t)), m) := by
  obtain ⟨b, hb, hm⟩ := m_stk m
  have hc := c_any c
  have e := k_stk h
  rcases hb with ⟨rfl, h0⟩ | ⟨rfl, h0⟩
  · rw [if_pos (e.trans h0)] at hc
    exact ⟨0, by decide, hc, hm⟩
  · rw [if_neg (fun z => h0 (e.symm.trans z))] at hc
    exact ⟨1, by decide, hc, hm⟩
set_option maxHeartbeats 2000000 in
theorem shut2 {c m : HP} (hR : RR c m) : ∃ c' m', Ec 77 [.inr 0] c (.inl none, c') ∧ Ec 122 [.inr 30] m (.inl none, m') ∧ m' 30 0 = m 30 0 ∧ c' 0 9 = c 0 9 ∧ RR c' m' := by
  have hR1 : RR (hu c 0 10 (Int32.ofInt 0)) (hu m 30 3 (Int32.ofInt 0)) := by
    obtain ⟨⟨hst, hsl, hpw, hop, hsb⟩, hvd, hbt, hsz, hes, hmg, hbk, hpy⟩ := hR
    exact ⟨⟨hst, hsl, hpw, ⟨0, by decide, rfl, rfl⟩, hsb⟩, hvd, hbt, hsz, hes, hmg, hbk, hpy⟩
  obtain ⟨t, ht, a1, a2⟩ := any2 hR1.2.2.1
  obtain ⟨c', m', r1, r2, r3, r4, r5⟩ := rec2 hR1
  rcases (show t = 0 ∨ t = 1 by omega) with rfl | rfl
  · refine ⟨c', m', w_fin ?_, w_fin ?_, r3, r4, r5⟩
    · repeat' first
        | refine w_st rfl rfl ?_
        | refine w_ca rfl rfl a1 ?_
        | refine w_ca rfl rfl r1 ?_
        | refine w_end rfl rfl ?_
      rfl
    · repeat' first
        | refine w_st rfl rfl ?_
        | refine w_ca rfl rfl a2 ?_
        | refine w_ca rfl rfl r2 ?_
        | refine w_end rfl rfl ?_
      rfl
  · refine ⟨_, _, w_fin ?_, w_fin ?_, ?_, ?_, hR1⟩
    · repeat' first
        | refine w_st rfl rfl ?_
        | refine w_ca rfl rfl a1 ?_
        | refine w_ca rfl rfl r1 ?_
        | refine w_end rfl rfl ?_
      rfl
    · repeat' first
        | refine w_st rfl rfl ?_
        | refine w_ca rfl rfl a2 ?_
        | refine w_ca rfl rfl r2 ?_
        | refine w_end rfl rfl ?_
      rfl
    · rfl
    · rfl
set_option maxHeartbeats 3000000 in
theorem o_close : P_W RR 78 123 [1] true [] := by
  refine P_Wof fun c m hR => ?_
  have hR0 := hR
  obtain ⟨⟨⟨t, ht, h1, h2⟩, hsl, hpw, ⟨op, o1, o2, o3⟩, hsb⟩, hvd, hbt, hsz, hes, hmg, hbk, hpy⟩ := hR
  have hpp : ∃ pw, pw ≤ 1 ∧ c 0 9 = nI pw ∧ m 30 2 = nI (1 - pw) := by
    rcases hpw with ⟨a, b⟩ | ⟨a, b⟩
    · exact ⟨1, by decide, a, b⟩
    · exact ⟨0, by decide, a, b⟩
  obtain ⟨pw, hp, p1, p2⟩ := hpp
  obtain ⟨c', m', r1, r2, r3, r4, r5⟩ := shut2 (c := c) (m := hu m 30 0 (Int32.ofInt 0)) hR0
  unfold P_run
  repeat' first
    | refine w_st rfl rfl ?_
    | refine w_ca rfl rfl r1 ?_
    | refine w_ca rfl rfl r2 ?_
    | refine w_no rfl rfl ?_ ?_
    | (refine w_br rfl rfl (fun z => ?_) (fun z => ?_) <;> try (first | contradiction | (simp (disch := omega) only [p1, p2, h1, h2, o2, o3, kc, nI_eq, nI_ltI, nI_leI, nI_m1, hu_o, hu_k, hu_same, not_true_eq_false, not_false_eq_true] at z; first | done | omega)))
    | refine w_in rfl rfl ?_
    | refine w_end rfl rfl ?_
    | refine w_endY rfl rfl ?_ ?_
    | refine w_up ?_
  all_goals try exact f_x 0 hR0 rfl rfl rfl
  all_goals try (exfalso; simp (disch := omega) only [p1, p2, h1, h2, o2, o3, kc, nI_eq, nI_ltI, nI_leI, nI_m1, hu_o, hu_k, not_true_eq_false] at * <;> first | contradiction | omega)
  obtain ⟨⟨⟨t', ht', h1', h2'⟩, _⟩, _⟩ := id r5
  refine f_r r5 rfl ?_ (r3.trans rfl)
  show some (c' 0 7) = some (m' 30 1)
  rw [h1', h2']
set_option maxHeartbeats 3000000 in
theorem o_power : P_D RR 80 124 := by
  intro c m hR
  have hR0 := hR
  obtain ⟨⟨⟨t, ht, h1, h2⟩, hsl, hpw, ⟨op, o1, o2, o3⟩, hsb⟩, hvd, hbt, hsz, hes, hmg, hbk, hpy⟩ := hR
  rcases hpw with ⟨p1, p2⟩ | ⟨p1, p2⟩
  · unfold P_run
    repeat' first
      | refine w_st rfl rfl ?_
      | refine w_no rfl rfl ?_ ?_
      | (refine w_br rfl rfl (fun z => ?_) (fun z => ?_) <;> try (first | contradiction | (simp (disch := omega) only [p1, p2, h1, h2, o2, o3, kc, nI_eq, nI_ltI, nI_leI, nI_m1, hu_o, hu_k, hu_same, not_true_eq_false, not_false_eq_true] at z; first | done | omega)))
      | refine w_in rfl rfl ?_
      | refine w_end rfl rfl ?_
      | refine w_endY rfl rfl ?_ ?_
      | refine w_up ?_
    all_goals try exact Or.inr (Or.inl rfl)
    refine ⟨⟨⟨⟨t, ht, h1, h2⟩, hsl, Or.inr ⟨rfl, rfl⟩, ⟨op, o1, o2, o3⟩, hsb⟩, ?_, hbt, hsz, hes, hmg, hbk, hpy⟩, _, rfl, rfl⟩
    obtain ⟨f, w, hf, hw, f1, f2, f3, f4⟩ := hvd
    exact ⟨f, 0, hf, by decide, f1, rfl, rfl, fun i hi => absurd hi (by omega)⟩
  · have hR1 : RR (hu (hu c 0 9 (Int32.ofInt 1)) 0 11 (Int32.ofInt 0)) (hu (hu (hu m 30 0 (Int32.ofInt 0)) 30 2 (Int32.ofInt 0)) 30 4 (Int32.ofInt 0)) := ⟨⟨⟨t, ht, h1, h2⟩, hsl, Or.inl ⟨rfl, rfl⟩, ⟨op, o1, o2, o3⟩, ⟨0, by decide, rfl, rfl⟩⟩, hvd, hbt, hsz, hes, hmg, hbk, hpy⟩
    obtain ⟨c', m', r1, r2, r3, r4, r5⟩ := shut2 hR1
    obtain ⟨c2, m2, s1, s2, s3, s4, s5⟩ := rec2 hR1
    rcases (show op = 0 ∨ op = 1 by omega) with rfl | rfl
    · rcases (show (t = 1 ∨ t = 3 ∨ t = 4 ∨ t = 5 ∨ t = 7) ∨ (t = 0 ∨ t = 2 ∨ t = 6 ∨ t = 8) by omega) with hq | hq
      · rcases hq with rfl | rfl | rfl | rfl | rfl
        all_goals unfold P_run
        all_goals
          repeat' first
            | refine w_st rfl rfl ?_
            | refine w_ca rfl rfl r1 ?_
            | refine w_ca rfl rfl r2 ?_
            | refine w_ca rfl rfl s1 ?_
            | refine w_ca rfl rfl s2 ?_
            | refine w_no rfl rfl ?_ ?_
            | (refine w_br rfl rfl (fun z => ?_) (fun z => ?_) <;> try (first | contradiction | (simp (disch := omega) only [p1, p2, h1, h2, o2, o3, kc, nI_eq, nI_ltI, nI_leI, nI_m1, hu_o, hu_k, hu_same, not_true_eq_false, not_false_eq_true] at z; first | done | omega)))
            | refine w_in rfl rfl ?_
            | refine w_end rfl rfl ?_
            | refine w_endY rfl rfl ?_ ?_
            | refine w_up ?_
        all_goals try exact Or.inr (Or.inr rfl)
        all_goals try (right; right; exact s4.trans rfl)
        all_goals refine ⟨s5, _, rfl, ?_⟩
        all_goals (show Sum.inl (some (c2 0 9)) = _; rw [s4]; rfl)
      · rcases hq with rfl | rfl | rfl | rfl
        all_goals unfold P_run
        all_goals
          repeat' first
            | refine w_st rfl rfl ?_
            | refine w_ca rfl rfl r1 ?_
            | refine w_ca rfl rfl r2 ?_
            | refine w_ca rfl rfl s1 ?_
            | refine w_ca rfl rfl s2 ?_
            | refine w_no rfl rfl ?_ ?_
            | (refine w_br rfl rfl (fun z => ?_) (fun z => ?_) <;> try (first | contradiction | (simp (disch := omega) only [p1, p2, h1, h2, o2, o3, kc, nI_eq, nI_ltI, nI_leI, nI_m1, hu_o, hu_k, hu_same, not_true_eq_false, not_false_eq_true] at z; first | done | omega)))
            | refine w_in rfl rfl ?_
            | refine w_end rfl rfl ?_
            | refine w_endY rfl rfl ?_ ?_
            | refine w_up ?_
        all_goals try exact Or.inr (Or.inr rfl)
        all_goals exact ⟨hR1, _, rfl, rfl⟩
    · unfold P_run
      repeat' first
        | refine w_st rfl rfl ?_
        | refine w_ca rfl rfl r1 ?_
        | refine w_ca rfl rfl r2 ?_
        | refine w_ca rfl rfl s1 ?_
        | refine w_ca rfl rfl s2 ?_
        | refine w_no rfl rfl ?_ ?_
        | (refine w_br rfl rfl (fun z => ?_) (fun z => ?_) <;> try (first | contradiction | (simp (disch := omega) only [p1, p2, h1, h2, o2, o3, kc, nI_eq, nI_ltI, nI_leI, nI_m1, hu_o, hu_k, hu_same, not_true_eq_false, not_false_eq_true] at z; first | done | omega)))
        | refine w_in rfl rfl ?_
        | refine w_end rfl rfl ?_
        | refine w_endY rfl rfl ?_ ?_
        | refine w_up ?_
      all_goals try exact Or.inr (Or.inr rfl)
      all_goals try (right; right; exact r4.trans rfl)
      all_goals refine ⟨r5, _, rfl, ?_⟩
      all_goals (show Sum.inl (some (c' 0 9)) = _; rw [r4]; rfl)
