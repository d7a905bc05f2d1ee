/-! PLANS (written by wip/whole/g62.py). -/
theorem nI_min {a b : Nat} (ha : a < 2 ^ 31) (hb : b < 2 ^ 31) : (if nI b < nI a then nI b else nI a) = nI (min a b) := by
  by_cases h : b < a
  · rw [if_pos ((nI_ltI hb ha).mpr h), Nat.min_eq_right (by omega)]
  · rw [if_neg (fun z => h ((nI_ltI hb ha).mp z)), Nat.min_eq_left (by omega)]
theorem inS_of {c m : HP} (hmg : r_mg c m) {H : Nat → Nat} {h : HP} (h6 : h 36 = m 36) (h7 : h 37 = m 37) (hH : ∀ k, 1 ≤ k → k ≤ 5 → stk (m 36) (m 37) k = H k) : inS h H := by
  intro k h1 h2
  have e := m_inStores h (nI k) (fun s hs => by
    obtain ⟨_, n, _, _, hn, _, _, _, h4⟩ := hmg s hs
    exact ⟨n, hn, by rw [h7]; exact h4⟩)
  rw [h6, h7] at e
  have := hH k h1 h2
  rw [← this]
  exact e
theorem tray2 {c m : HP} (hbk : r_bk c m) : ∃ T, Ec 35 [.inr 12, .inl (nI 5)] c (.inl (some T), c) ∧ ∀ h : HP, h 40 = m 40 → Ec 93 [.inr 40] h (.inl (some T), h) := by
  have a0 : c 19 0 = m 40 0 := (hbk 0 (by decide)).2.2.1
  have a1 : c 19 1 = m 40 1 := (hbk 1 (by decide)).2.2.1
  have a2 : c 19 2 = m 40 2 := (hbk 2 (by decide)).2.2.1
  have a3 : c 19 3 = m 40 3 := (hbk 3 (by decide)).2.2.1
  have a4 : c 19 4 = m 40 4 := (hbk 4 (by decide)).2.2.1
  have a5 : c 19 5 = m 40 5 := (hbk 5 (by decide)).2.2.1
  refine ⟨m 40 0 + m 40 1 + m 40 2 + m 40 3 + m 40 4 + m 40 5, w_fin ?_, fun h hh => w_fin ?_⟩
  · repeat' first
      | refine w_st rfl rfl ?_
      | refine w_end rfl rfl ?_
    show (Sum.inl (some (nI 0 + c 19 0 + c 19 1 + c 19 2 + c 19 3 + c 19 4 + c 19 5)), c) = _
    rw [nI0_add, a0, a1, a2, a3, a4, a5]
  · repeat' first
      | refine w_st rfl rfl ?_
      | refine w_end rfl rfl ?_
    show (Sum.inl (some (h 40 0 + h 40 1 + h 40 2 + h 40 3 + h 40 4 + h 40 5)), h) = _
    rw [hh]
/-- while a plan is made -/
def PI24 (H : Nat → Nat) (x : Int32) (c m : HP) : Prop := RR c m ∧ m 30 0 = x ∧ (∀ k, 1 ≤ k → k ≤ 5 → c 25 k = nI (H k) ∧ stk (m 36) (m 37) k = H k ∧ H k ≤ 120) ∧ ((c 24 2 = nI 0 ∧ m 30 24 = nI 21) ∨ ∃ (B : Nat) (q : Nat → Nat), 1 ≤ B ∧ B ≤ 20 ∧ c 24 2 = nI B ∧ m 30 24 = nI B ∧ (∀ k, 1 ≤ k → k ≤ 5 → c 26 k = nI (q k) ∧ m 46 k = nI (q k) ∧ q k ≤ H k) ∧ q 1 + q 2 + q 3 + q 4 + q 5 = B)
def cU24 (c : HP) (a b t3 t2 t1 S : Nat) : HP := hu (hu (hu (hu (hu (hu c 26 1 (nI t1)) 26 2 (nI t2)) 26 3 (nI t3)) 26 4 (nI b)) 26 5 (nI a)) 24 2 (nI S)
set_option maxHeartbeats 2000000 in
theorem fu24 {c : HP} {H : Nat → Nat} {a b r s t3 t2 t1 : Nat} (hc : ∀ k, 1 ≤ k → k ≤ 5 → c 25 k = nI (H k) ∧ H k ≤ 120) (hs : c 24 2 = nI s) (hs2 : s ≤ 20) (ha : a ≤ 120) (hb : b ≤ 120) (hr : r ≤ 400) (h3 : t3 = min (H 3) (r / 4)) (h2 : t2 = min (H 2) ((r - 4 * t3) / 2)) (h1 : t1 = r - 4 * t3 - 2 * t2) : Ec 42 [.inr 24, .inl (nI a), .inl (nI b), .inl (nI r)] c (.inl none, if t1 ≤ H 1 ∧ a + b + t3 + t2 + t1 ≤ 20 ∧ (s = 0 ∨ a + b + t3 + t2 + t1 < s) then cU24 c a b t3 t2 t1 (a + b + t3 + t2 + t1) else c) := by
  obtain ⟨c1, q1⟩ := hc 1 (by decide) (by decide)
  obtain ⟨c2, q2⟩ := hc 2 (by decide) (by decide)
  obtain ⟨c3, q3⟩ := hc 3 (by decide) (by decide)
  have e1 : (if nI r / nI 4 < c 25 3 then nI r / nI 4 else c 25 3) = nI t3 := by
    rw [c3, pk_div (by omega) (by omega) (by omega), nI_min (by omega) (by omega), h3]
  have e2 : nI r - nI t3 * nI 4 = nI (r - 4 * t3) := by rw [pk_mul, pk_sub (by omega)]; exact congrArg nI (by omega)
  have e3 : (if nI (r - 4 * t3) / nI 2 < c 25 2 then nI (r - 4 * t3) / nI 2 else c 25 2) = nI t2 := by
    rw [c2, pk_div (by omega) (by omega) (by omega), nI_min (by omega) (by omega), h2]
  have e4 : nI (r - 4 * t3) - nI t2 * nI 2 = nI t1 := by rw [pk_mul, pk_sub (by omega)]; exact congrArg nI (by omega)
  have e5 : nI a + nI b + nI t3 + nI t2 + nI t1 = nI (a + b + t3 + t2 + t1) := by simp only [nI_add]
  refine w_fin ?_
  repeat' refine g_st 42 12 rfl rfl rfl ?_
  refine w_ts e1 ?_
  repeat' refine g_st 42 20 rfl rfl rfl ?_
  refine w_ts e2 ?_
  repeat' refine g_st 42 35 rfl rfl rfl ?_
  refine w_ts e3 ?_
  repeat' refine g_st 42 44 rfl rfl rfl ?_
  refine w_ts e4 ?_
  repeat' refine g_st 42 58 rfl rfl rfl ?_
  refine w_ts e5 ?_
  by_cases hU : t1 ≤ H 1 ∧ a + b + t3 + t2 + t1 ≤ 20 ∧ (s = 0 ∨ a + b + t3 + t2 + t1 < s)
  · rw [if_pos hU]
    rcases Nat.eq_zero_or_pos s with hs0 | hs0
    · skip
      repeat' first
        | refine w_st rfl rfl ?_
        | refine w_no rfl rfl ?_ ?_
        | (refine w_br rfl rfl (fun z => ?_) (fun z => ?_) <;> try (first | (simp (disch := omega) only [c1, hs, kc, nI_clamp, nI_eq, nI_ltI, nI_leI, nI_m1, hu_o, hu_k, hu_same, not_true_eq_false, not_false_eq_true] at z; first | done | omega)))
        | refine w_in rfl rfl ?_
        | refine w_end rfl rfl ?_
        | refine w_endY rfl rfl ?_ ?_
        | refine w_up ?_
      all_goals rfl
    · skip
      repeat' first
        | refine w_st rfl rfl ?_
        | refine w_no rfl rfl ?_ ?_
        | (refine w_br rfl rfl (fun z => ?_) (fun z => ?_) <;> try (first | (simp (disch := omega) only [c1, hs, kc, nI_clamp, nI_eq, nI_ltI, nI_leI, nI_m1, hu_o, hu_k, hu_same, not_true_eq_false, not_false_eq_true] at z; first | done | omega)))
        | refine w_in rfl rfl ?_
        | refine w_end rfl rfl ?_
        | refine w_endY rfl rfl ?_ ?_
        | refine w_up ?_
      all_goals rfl
  · rw [if_neg hU]
    by_cases u1 : t1 ≤ H 1
    · by_cases u2 : a + b + t3 + t2 + t1 ≤ 20
      · have u3 : ¬ (s = 0 ∨ a + b + t3 + t2 + t1 < s) := fun z => hU ⟨u1, u2, z⟩
        repeat' first
          | refine w_st rfl rfl ?_
          | refine w_no rfl rfl ?_ ?_
          | (refine w_br rfl rfl (fun z => ?_) (fun z => ?_) <;> try (first | (simp (disch := omega) only [c1, hs, kc, nI_clamp, nI_eq, nI_ltI, nI_leI, nI_m1, hu_o, hu_k, hu_same, not_true_eq_false, not_false_eq_true] at z; first | done | omega)))
          | refine w_in rfl rfl ?_
          | refine w_end rfl rfl ?_
          | refine w_endY rfl rfl ?_ ?_
          | refine w_up ?_
        all_goals rfl
      · skip
        repeat' first
          | refine w_st rfl rfl ?_
          | refine w_no rfl rfl ?_ ?_
          | (refine w_br rfl rfl (fun z => ?_) (fun z => ?_) <;> try (first | (simp (disch := omega) only [c1, hs, kc, nI_clamp, nI_eq, nI_ltI, nI_leI, nI_m1, hu_o, hu_k, hu_same, not_true_eq_false, not_false_eq_true] at z; first | done | omega)))
          | refine w_in rfl rfl ?_
          | refine w_end rfl rfl ?_
          | refine w_endY rfl rfl ?_ ?_
          | refine w_up ?_
        all_goals rfl
    · skip
      repeat' first
        | refine w_st rfl rfl ?_
        | refine w_no rfl rfl ?_ ?_
        | (refine w_br rfl rfl (fun z => ?_) (fun z => ?_) <;> try (first | (simp (disch := omega) only [c1, hs, kc, nI_clamp, nI_eq, nI_ltI, nI_leI, nI_m1, hu_o, hu_k, hu_same, not_true_eq_false, not_false_eq_true] at z; first | done | omega)))
        | refine w_in rfl rfl ?_
        | refine w_end rfl rfl ?_
        | refine w_endY rfl rfl ?_ ?_
        | refine w_up ?_
      all_goals rfl
theorem fill24 {H : Nat → Nat} {x : Int32} {c m : HP} (h : PI24 H x c m) {a b r : Nat} (ha : a ≤ H 5) (hb : b ≤ H 4) (hr : r ≤ 400) (h0 : 1 ≤ a + b + r) : ∃ c' m', Ec 42 [.inr 24, .inl (nI a), .inl (nI b), .inl (nI r)] c (.inl none, c') ∧ Ec 102 [.inr 30, .inl (nI a), .inl (nI b), .inl (nI r)] m (.inl none, m') ∧ PI24 H x c' m' := by
  obtain ⟨hR, hx, hH, hB⟩ := id h
  obtain ⟨hfl, hvd, hbt, hsz, hes, hmg, hbk, hpy⟩ := id hR
  obtain ⟨t3, h3⟩ : ∃ t3, t3 = min (H 3) (r / 4) := ⟨_, rfl⟩
  obtain ⟨t2, h2⟩ : ∃ t2, t2 = min (H 2) ((r - 4 * t3) / 2) := ⟨_, rfl⟩
  obtain ⟨t1, h1⟩ : ∃ t1, t1 = r - 4 * t3 - 2 * t2 := ⟨_, rfl⟩
  have hH5 := (hH 5 (by decide) (by decide)).2.2
  have hH4 := (hH 4 (by decide) (by decide)).2.2
  have hsB : ∃ s B, c 24 2 = nI s ∧ m 30 24 = nI B ∧ s ≤ 20 ∧ B ≤ 21 ∧ ((s = 0 ∧ B = 21) ∨ (s = B ∧ 1 ≤ s)) := by
    rcases hB with ⟨z1, z2⟩ | ⟨B, q, z1, z2, z3, z4, _⟩
    · exact ⟨0, 21, z1, z2, by decide, by decide, Or.inl ⟨rfl, rfl⟩⟩
    · exact ⟨B, B, z3, z4, z2, by omega, Or.inr ⟨rfl, z1⟩⟩
  obtain ⟨s, B, s1, s2, s3, s4, s5⟩ := hsB
  have hS : inS m H := inS_of hmg rfl rfl (fun k z1 z2 => (hH k z1 z2).2.1)
  have hS' : inS (mU m a b t3 t2 t1 (a + b + t3 + t2 + t1)) H := inS_of hmg rfl rfl (fun k z1 z2 => (hH k z1 z2).2.1)
  have rC := fu24 (c := c) (H := H) (a := a) (b := b) (r := r) (fun k z1 z2 => ⟨(hH k z1 z2).1, (hH k z1 z2).2.2⟩) s1 s3 (by omega) (by omega) hr h3 h2 h1
  have rM := three (H := H) (h := m) (a := a) (b := b) (r := r) (by omega) (by omega) hr (fun k z1 z2 => (hH k z1 z2).2.2) s4 hS hS' s2 h3 h2 h1
  by_cases hU : t1 ≤ H 1 ∧ a + b + t3 + t2 + t1 < B
  · rw [if_pos (by omega)] at rC
    rw [if_pos hU] at rM
    refine ⟨_, _, rC, rM, hR, hx, hH, Or.inr ⟨a + b + t3 + t2 + t1, fun k => if k = 1 then t1 else if k = 2 then t2 else if k = 3 then t3 else if k = 4 then b else a, by omega, by omega, rfl, rfl, fun k z1 z2 => ?_, ?_⟩⟩
    · rcases (show k = 1 ∨ k = 2 ∨ k = 3 ∨ k = 4 ∨ k = 5 by omega) with rfl | rfl | rfl | rfl | rfl
      · exact ⟨rfl, rfl, hU.1⟩
      · exact ⟨rfl, rfl, show t2 ≤ H 2 by omega⟩
      · exact ⟨rfl, rfl, show t3 ≤ H 3 by omega⟩
      · exact ⟨rfl, rfl, hb⟩
      · exact ⟨rfl, rfl, ha⟩
    · show t1 + t2 + t3 + b + a = a + b + t3 + t2 + t1
      omega
  · rw [if_neg (by omega)] at rC
    rw [if_neg hU] at rM
    exact ⟨_, _, rC, rM, h⟩
theorem fin24 {H : Nat → Nat} {x : Int32} {A a re : Nat} {G : PO → PO → Prop} (ha : a ≤ H 5) (hre : re ≤ 400) (hH4 : H 4 ≤ 120) (h1 : 1 ≤ a + re) : ∀ b, b ≤ H 4 → 10 * b ≤ re → ∀ c m, PI24 H x c m → (∀ c' m' v w, PI24 H x c' m' → Wp 43 (96, [(5, .inl (v)), (4, .inl (nI re)), (3, .inl (nI a)), (0, .inr 24), (1, .inl (nI A)), (2, .inr 9)], [], c') (fun rc => Wp 103 (96, [(6, .inl (w)), (5, .inl (nI (H 4))), (4, .inl (nI re)), (3, .inl (nI a)), (2, .inl (nI (H 5))), (0, .inr 30), (1, .inl (nI A))], [], m') (fun rm => G rc rm))) → Wp 43 (70, [(5, .inl (nI b)), (4, .inl (nI re)), (3, .inl (nI a)), (0, .inr 24), (1, .inl (nI A)), (2, .inr 9)], [], c) (fun rc => Wp 103 (70, [(6, .inl (nI b)), (5, .inl (nI (H 4))), (4, .inl (nI re)), (3, .inl (nI a)), (2, .inl (nI (H 5))), (0, .inr 30), (1, .inl (nI A))], [], m) (fun rm => G rc rm)) := by
  intro b
  have step : ∀ b, b ≤ H 4 → 10 * b ≤ re → ∀ c m, PI24 H x c m → (∀ c' m', PI24 H x c' m' → Wp 43 (70, [(5, .inl (nI b + Int32.ofInt (-1))), (4, .inl (nI re)), (3, .inl (nI a)), (0, .inr 24), (1, .inl (nI A)), (2, .inr 9)], [], c') (fun rc => Wp 103 (70, [(6, .inl (nI b + Int32.ofInt (-1))), (5, .inl (nI (H 4))), (4, .inl (nI re)), (3, .inl (nI a)), (2, .inl (nI (H 5))), (0, .inr 30), (1, .inl (nI A))], [], m') (fun rm => G rc rm))) → Wp 43 (70, [(5, .inl (nI b)), (4, .inl (nI re)), (3, .inl (nI a)), (0, .inr 24), (1, .inl (nI A)), (2, .inr 9)], [], c) (fun rc => Wp 103 (70, [(6, .inl (nI b)), (5, .inl (nI (H 4))), (4, .inl (nI re)), (3, .inl (nI a)), (2, .inl (nI (H 5))), (0, .inr 30), (1, .inl (nI A))], [], m) (fun rm => G rc rm)) := by
    intro b hb hb10 c m hP K
    have l0 : (nI b < nI 0) = False := eq_false (fun z => by rw [nI_ltI (by omega) (by omega)] at z; omega)
    have eC : nI re - nI b * nI 10 = nI (re - 10 * b) := by rw [pk_mul, pk_sub (by omega)]; exact congrArg nI (by omega)
    have eM : nI re - nI 10 * nI b = nI (re - 10 * b) := by rw [pk_mul, pk_sub (by omega)]
    obtain ⟨c', m', r1, r2, r3⟩ := fill24 hP (a := a) (b := b) (r := re - 10 * b) ha hb (by omega) (by omega)
    refine w_st rfl rfl ?_
    refine w_br rfl rfl (fun z => absurd z (of_eq_false l0)) (fun _ => ?_)
    repeat' refine g_st 43 87 rfl rfl rfl ?_
    refine w_ts eC ?_
    refine w_ca rfl rfl r1 ?_
    refine w_st rfl rfl ?_
    refine w_st rfl rfl ?_
    refine w_sw ?_
    refine w_st rfl rfl ?_
    refine w_br rfl rfl (fun z => absurd z (of_eq_false l0)) (fun _ => ?_)
    repeat' refine g_st 103 87 rfl rfl rfl ?_
    refine w_ts eM ?_
    refine w_ca rfl rfl r2 ?_
    refine w_st rfl rfl ?_
    refine w_st rfl rfl ?_
    refine w_sw ?_
    exact K c' m' r3
  induction b with
  | zero =>
    intro hb hb10 c m hP K
    refine step 0 hb hb10 c m hP (fun c' m' h' => ?_)
    refine w_st rfl rfl ?_
    refine w_st rfl rfl ?_
    refine w_sw ?_
    refine w_st rfl rfl ?_
    refine w_st rfl rfl ?_
    refine w_sw ?_
    exact K c' m' _ _ h'
  | succ b ih =>
    intro hb hb10 c m hP K
    refine step (b + 1) hb hb10 c m hP (fun c' m' h' => ?_)
    have e : nI (b + 1) + Int32.ofInt (-1) = nI b := nI_dec b
    rw [e]
    exact ih (by omega) (by omega) c' m' h' K
set_option maxHeartbeats 2000000 in
theorem fout24 {H : Nat → Nat} {x : Int32} {A : Nat} {G : PO → PO → Prop} (hA : A ≤ 400) (hA1 : 1 ≤ A) (hH4 : H 4 ≤ 120) (hH5 : H 5 ≤ 120) : ∀ a, a ≤ H 5 → 20 * a ≤ A → ∀ c m b, b = min (H 4) ((A - 20 * a) / 10) → PI24 H x c m → (∀ c' m' v3 v4 v5 w3 w4 w6, PI24 H x c' m' → Wp 43 (102, [(3, .inl v3), (5, .inl v5), (4, .inl v4), (0, .inr 24), (1, .inl (nI A)), (2, .inr 9)], [], c') (fun rc => Wp 103 (102, [(3, .inl w3), (6, .inl w6), (5, .inl (nI (H 4))), (4, .inl w4), (2, .inl (nI (H 5))), (0, .inr 30), (1, .inl (nI A))], [], m') (fun rm => G rc rm))) → Wp 43 (70, [(5, .inl (nI b)), (4, .inl (nI (A - 20 * a))), (3, .inl (nI a)), (0, .inr 24), (1, .inl (nI A)), (2, .inr 9)], [], c) (fun rc => Wp 103 (70, [(6, .inl (nI b)), (5, .inl (nI (H 4))), (4, .inl (nI (A - 20 * a))), (3, .inl (nI a)), (2, .inl (nI (H 5))), (0, .inr 30), (1, .inl (nI A))], [], m) (fun rm => G rc rm)) := by
  intro a
  induction a with
  | zero =>
    intro ha ha20 c m b hb hP K
    refine fin24 ha (by omega) hH4 (by omega) b (by omega) (by omega) c m hP (fun c' m' v w h' => ?_)
    repeat' refine g_st 43 102 rfl rfl rfl ?_
    refine w_sw ?_
    repeat' refine g_st 103 102 rfl rfl rfl ?_
    refine w_sw ?_
    exact K c' m' _ _ _ _ _ _ h'
  | succ a ih =>
    intro ha ha20 c m b hb hP K
    refine fin24 ha (by omega) hH4 (by omega) b (by omega) (by omega) c m hP (fun c' m' v w h' => ?_)
    have e : nI (a + 1) + Int32.ofInt (-1) = nI a := nI_dec a
    have l0 : (nI a < nI 0) = False := eq_false (fun z => by rw [nI_ltI (by omega) (by omega)] at z; omega)
    have c4 := (h'.2.2.1 4 (by decide) (by decide)).1
    have hmg' : r_mg c' m' := h'.1.2.2.2.2.2.1
    have i4 := inS_of hmg' (h := m') rfl rfl (fun k z1 z2 => (h'.2.2.1 k z1 z2).2.1) 4 (by decide) (by decide)
    obtain ⟨b', hb'⟩ : ∃ b', b' = min (H 4) ((A - 20 * a) / 10) := ⟨_, rfl⟩
    have k1 := ih (by omega) (by omega) c' m' b' hb' h' K
    have eC : nI A - nI a * nI 20 = nI (A - 20 * a) := by rw [pk_mul, pk_sub (by omega)]; exact congrArg nI (by omega)
    have eM : nI A - nI 20 * nI a = nI (A - 20 * a) := by rw [pk_mul, pk_sub (by omega)]
    have eN : (if nI (A - 20 * a) / nI 10 < c' 25 4 then nI (A - 20 * a) / nI 10 else c' 25 4) = nI b' := by
      rw [c4, pk_div (by omega) (by omega) (by omega), nI_min (by omega) (by omega), hb']
    refine w_st rfl rfl ?_
    refine w_st rfl rfl ?_
    rw [e]
    refine w_st rfl rfl ?_
    refine w_br rfl rfl (fun z => absurd z (of_eq_false l0)) (fun _ => ?_)
    repeat' refine g_st 43 52 rfl rfl rfl ?_
    refine w_ts eC ?_
    repeat' refine g_st 43 68 rfl rfl rfl ?_
    refine w_ts eN ?_
    refine w_st rfl rfl ?_
    refine w_sw ?_
    refine w_st rfl rfl ?_
    refine w_st rfl rfl ?_
    rw [e]
    refine w_st rfl rfl ?_
    refine w_br rfl rfl (fun z => absurd z (of_eq_false l0)) (fun _ => ?_)
    repeat' refine g_st 103 39 rfl rfl rfl ?_
    refine w_ts eM ?_
    repeat' first
      | refine g_st 103 46 rfl rfl rfl ?_
      | refine w_ca rfl rfl i4 ?_
    repeat' refine w_st rfl rfl ?_
    refine w_br rfl rfl (fun z => ?_) (fun z => ?_)
    · simp (disch := omega) only [kc, pk_div, nI_leI] at z
      repeat' refine g_st 103 70 rfl rfl rfl ?_
      simp (disch := omega) only [kc, pk_div]
      rw [show (A - 20 * a) / 10 = b' by omega]
      exact w_sw k1
    · simp (disch := omega) only [kc, pk_div, nI_leI] at z
      have e4 : H 4 = b' := by omega
      repeat' refine g_st 103 70 rfl rfl rfl ?_
      have k2 := w_sw k1
      rw [e4] at k2 ⊢
      exact k2
set_option maxHeartbeats 2000000 in
theorem find24 {c m : HP} (hR : RR c m) {A : Nat} (hA1 : 1 ≤ A) (hA : A ≤ 400) : ∃ (H : Nat → Nat) (y : Nat) (c' m' : HP), Ec 43 [.inr 24, .inl (nI A), .inr 9] c (.inl (some (nI y)), c') ∧ Ec 103 [.inr 30, .inl (nI A)] m (.inl (some (nI y)), m') ∧ PI24 H (m 30 0) c' m' ∧ ((y = 0 ∧ c' 24 2 = nI 0) ∨ (y = 1 ∧ ∃ (B : Nat) (q : Nat → Nat), 1 ≤ B ∧ B ≤ 20 ∧ c' 24 2 = nI B ∧ m' 30 24 = nI B ∧ (∀ k, 1 ≤ k → k ≤ 5 → c' 26 k = nI (q k) ∧ m' 46 k = nI (q k) ∧ q k ≤ H k) ∧ q 1 + q 2 + q 3 + q 4 + q 5 = B)) := by
  obtain ⟨hfl, hvd, hbt, hsz, hes, hmg, hbk, hpy⟩ := id hR
  obtain ⟨H, hHd⟩ : ∃ H : Nat → Nat, H = fun k => stk (m 36) (m 37) k := ⟨_, rfl⟩
  have hH : ∀ k, stk (m 36) (m 37) k = H k := fun k => by rw [hHd]
  have hH120 : ∀ k, H k ≤ 120 := fun k => by rw [← hH]; exact stk_120 hmg k
  have mc : ∀ (h : HP), h 10 = c 10 → h 11 = c 11 → ∀ k, Ec 32 [.inr 9, .inl (nI k)] h (.inl (some (nI (H k))), h) := fun h z1 z2 k => by
    have e := c_magCount h (nI k) (fun s hs => by
      obtain ⟨_, n, _, _, hn, _, _, h3, _⟩ := hmg s hs
      exact ⟨n, hn, by rw [z2]; exact h3⟩)
    rw [z1, z2, k_mag hmg (nI k)] at e
    rw [← hH k]
    exact e
  obtain ⟨m1, hm1⟩ : ∃ m1, m1 = hu m 30 24 (nI 21) := ⟨_, rfl⟩
  have i5 : Ec 101 [.inr 30, .inl (nI 5)] m1 (.inl (some (nI (H 5))), m1) := inS_of hmg (h := m1) (by rw [hm1]; rfl) (by rw [hm1]; rfl) (fun k _ _ => hH k) 5 (by decide) (by decide)
  have i4 : Ec 101 [.inr 30, .inl (nI 4)] m1 (.inl (some (nI (H 4))), m1) := inS_of hmg (h := m1) (by rw [hm1]; rfl) (by rw [hm1]; rfl) (fun k _ _ => hH k) 4 (by decide) (by decide)
  suffices main : Wp 43 (0, pl_in 0 [.inr 24, .inl (nI A), .inr 9], [], c) (fun rc => Wp 103 (0, pl_in 0 [.inr 30, .inl (nI A)], [], m) (fun rm => ∃ y, rc.1 = .inl (some (nI y)) ∧ rm.1 = .inl (some (nI y)) ∧ PI24 H (m 30 0) rc.2 rm.2 ∧ ((y = 0 ∧ rc.2 24 2 = nI 0) ∨ (y = 1 ∧ ∃ (B : Nat) (q : Nat → Nat), 1 ≤ B ∧ B ≤ 20 ∧ rc.2 24 2 = nI B ∧ rm.2 30 24 = nI B ∧ (∀ k, 1 ≤ k → k ≤ 5 → rc.2 26 k = nI (q k) ∧ rm.2 46 k = nI (q k) ∧ q k ≤ H k) ∧ q 1 + q 2 + q 3 + q 4 + q 5 = B)))) by
    obtain ⟨⟨oc, c'⟩, e1, ⟨om, m'⟩, e2, y, e3, e4, e5⟩ := main
    dsimp only at e3 e4 e5
    subst e3 e4
    exact ⟨H, y, c', m', e1, e2, e5⟩
  refine w_st rfl rfl ?_
  refine w_in rfl rfl ?_
  repeat' first
    | refine w_st rfl rfl ?_
    | refine w_end rfl rfl ?_
  refine w_up ?_
  repeat' refine w_st rfl rfl ?_
  refine w_ca rfl rfl (mc _ (by rfl) (by rfl) 1) ?_
  repeat' refine w_st rfl rfl ?_
  refine w_ca rfl rfl (mc _ (by rfl) (by rfl) 2) ?_
  repeat' refine w_st rfl rfl ?_
  refine w_ca rfl rfl (mc _ (by rfl) (by rfl) 3) ?_
  repeat' refine w_st rfl rfl ?_
  refine w_ca rfl rfl (mc _ (by rfl) (by rfl) 4) ?_
  repeat' refine w_st rfl rfl ?_
  refine w_ca rfl rfl (mc _ (by rfl) (by rfl) 5) ?_
  repeat' refine g_st 43 28 rfl rfl rfl ?_
  refine (?_ : ∀ c1 : HP, (∀ k, 1 ≤ k → k ≤ 5 → c1 25 k = nI (H k)) → c1 24 2 = nI 0 → RR c1 m1 → Wp 43 (28, _, [], c1) _) _ ?_ ?_ ?_
  · intro c1 hc1 hs1 hR1
    have hP1 : PI24 H (m 30 0) c1 m1 := ⟨hR1, by rw [hm1]; rfl, fun k z1 z2 => ⟨hc1 k z1 z2, by rw [hm1]; exact hH k, hH120 k⟩, Or.inl ⟨hs1, by rw [hm1]; rfl⟩⟩
    obtain ⟨a, ha⟩ : ∃ a, a = min (H 5) (A / 20) := ⟨_, rfl⟩
    obtain ⟨b, hb⟩ : ∃ b, b = min (H 4) ((A - 20 * a) / 10) := ⟨_, rfl⟩
    have hH5 := hH120 5
    have hH4 := hH120 4
    have c5 := hc1 5 (by decide) (by decide)
    have c4 := hc1 4 (by decide) (by decide)
    have l0 : (nI a < nI 0) = False := eq_false (fun z => by rw [nI_ltI (by omega) (by omega)] at z; omega)
    have eA : (if nI A / nI 20 < c1 25 5 then nI A / nI 20 else c1 25 5) = nI a := by
      rw [c5, pk_div (by omega) (by omega) (by omega), nI_min (by omega) (by omega), ha]
    have eC : nI A - nI a * nI 20 = nI (A - 20 * a) := by rw [pk_mul, pk_sub (by omega)]; exact congrArg nI (by omega)
    have eM : nI A - nI 20 * nI a = nI (A - 20 * a) := by rw [pk_mul, pk_sub (by omega)]
    have eN : (if nI (A - 20 * a) / nI 10 < c1 25 4 then nI (A - 20 * a) / nI 10 else c1 25 4) = nI b := by
      rw [c4, pk_div (by omega) (by omega) (by omega), nI_min (by omega) (by omega), hb]
    have k1 := fout24 (H := H) (x := m 30 0) (A := A) (G := fun rc rm => ∃ y, rc.1 = .inl (some (nI y)) ∧ rm.1 = .inl (some (nI y)) ∧ PI24 H (m 30 0) rc.2 rm.2 ∧ ((y = 0 ∧ rc.2 24 2 = nI 0) ∨ (y = 1 ∧ ∃ (B : Nat) (q : Nat → Nat), 1 ≤ B ∧ B ≤ 20 ∧ rc.2 24 2 = nI B ∧ rm.2 30 24 = nI B ∧ (∀ k, 1 ≤ k → k ≤ 5 → rc.2 26 k = nI (q k) ∧ rm.2 46 k = nI (q k) ∧ q k ≤ H k) ∧ q 1 + q 2 + q 3 + q 4 + q 5 = B))) hA hA1 hH4 hH5 a (by omega) (by omega) c1 m1 b hb hP1 (fun c' m' v3 v4 v5 w3 w4 w6 h' => ?_)
    · repeat' refine g_st 43 41 rfl rfl rfl ?_
      refine w_ts eA ?_
      refine w_st rfl rfl ?_
      refine w_st rfl rfl ?_
      refine w_br rfl rfl (fun z => absurd z (of_eq_false l0)) (fun _ => ?_)
      repeat' refine g_st 43 52 rfl rfl rfl ?_
      refine w_ts eC ?_
      repeat' refine g_st 43 68 rfl rfl rfl ?_
      refine w_ts eN ?_
      refine w_st rfl rfl ?_
      refine w_sw ?_
      refine w_st rfl rfl ?_
      refine w_st rfl rfl ?_
      refine w_st rfl rfl ?_
      refine w_st rfl rfl ?_
      refine w_st rfl rfl ?_
      refine (?_ : Wp 103 (8, [(0, .inr 30), (1, .inl (nI A))], [.inl (nI 5), .inr 30], hu m 30 24 (nI 21)) _)
      rw [← hm1]
      refine w_ca rfl rfl i5 ?_
      have mtail : ∀ F, Wp 103 (70, [(6, .inl (nI b)), (5, .inl (nI (H 4))), (4, .inl (nI (A - 20 * a))), (3, .inl (nI a)), (2, .inl (nI (H 5))), (0, .inr 30), (1, .inl (nI A))], [], m1) F → Wp 103 (29, [(3, .inl (nI a)), (2, .inl (nI (H 5))), (0, .inr 30), (1, .inl (nI A))], [], m1) F := fun F KF => by
        refine w_st rfl rfl ?_
        refine w_br rfl rfl (fun z => absurd z (of_eq_false l0)) (fun _ => ?_)
        repeat' refine g_st 103 39 rfl rfl rfl ?_
        refine w_ts eM ?_
        repeat' first
          | refine g_st 103 46 rfl rfl rfl ?_
          | refine w_ca rfl rfl i4 ?_
        repeat' refine w_st rfl rfl ?_
        refine w_br rfl rfl (fun z => ?_) (fun z => ?_)
        · simp (disch := omega) only [kc, pk_div, nI_leI] at z
          repeat' refine g_st 103 70 rfl rfl rfl ?_
          simp (disch := omega) only [kc, pk_div]
          rw [show (A - 20 * a) / 10 = b by omega]
          exact KF
        · simp (disch := omega) only [kc, pk_div, nI_leI] at z
          have e4 : H 4 = b := by omega
          repeat' refine g_st 103 70 rfl rfl rfl ?_
          rw [e4] at KF ⊢
          exact KF
      repeat' refine w_st rfl rfl ?_
      refine w_br rfl rfl (fun z => ?_) (fun z => ?_)
      · simp (disch := omega) only [kc, pk_div, nI_leI] at z
        repeat' refine g_st 103 29 rfl rfl rfl ?_
        simp (disch := omega) only [kc, pk_div]
        rw [show A / 20 = a by omega]
        exact mtail _ (w_sw k1)
      · simp (disch := omega) only [kc, pk_div, nI_leI] at z
        have e5 : H 5 = a := by omega
        have mt := mtail _ (w_sw k1)
        repeat' refine g_st 103 29 rfl rfl rfl ?_
        rw [e5] at mt ⊢
        exact mt
    · rcases h'.2.2.2 with ⟨z1, z2⟩ | ⟨B, q, z1, z2, z3, z4, z5, z6⟩
      · skip
        repeat' first
          | refine w_st rfl rfl ?_
          | refine w_no rfl rfl ?_ ?_
          | (refine w_br rfl rfl (fun z => ?_) (fun z => ?_) <;> try (first | (simp (disch := omega) only [z1, z2, kc, nI_clamp, nI_eq, nI_ltI, nI_leI, nI_m1, hu_o, hu_k, hu_same, not_true_eq_false, not_false_eq_true] at z; first | done | omega)))
          | refine w_in rfl rfl ?_
          | refine w_end rfl rfl ?_
          | refine w_endY rfl rfl ?_ ?_
          | refine w_up ?_
        all_goals try exact Or.inr (Or.inl rfl)
        all_goals exact ⟨0, rfl, rfl, h', Or.inl ⟨rfl, z1⟩⟩
      · skip
        repeat' first
          | refine w_st rfl rfl ?_
          | refine w_no rfl rfl ?_ ?_
          | (refine w_br rfl rfl (fun z => ?_) (fun z => ?_) <;> try (first | (simp (disch := omega) only [z3, z4, kc, nI_clamp, nI_eq, nI_ltI, nI_leI, nI_m1, hu_o, hu_k, hu_same, not_true_eq_false, not_false_eq_true] at z; first | done | omega)))
          | refine w_in rfl rfl ?_
          | refine w_end rfl rfl ?_
          | refine w_endY rfl rfl ?_ ?_
          | refine w_up ?_
        all_goals try exact Or.inr (Or.inr rfl)
        all_goals exact ⟨1, rfl, rfl, h', Or.inr ⟨rfl, B, q, z1, z2, z3, z4, z5, z6⟩⟩
  · intro k z1 z2
    rcases (show k = 1 ∨ k = 2 ∨ k = 3 ∨ k = 4 ∨ k = 5 by omega) with rfl | rfl | rfl | rfl | rfl <;> rfl
  · rfl
  · rw [hm1]
    exact hR
/-- while a plan is made -/
def PI27 (H : Nat → Nat) (x : Int32) (c m : HP) : Prop := RR c m ∧ c 0 7 = nI 0 ∧ m 30 0 = x ∧ (∀ k, 1 ≤ k → k ≤ 5 → c 28 k = nI (H k) ∧ stk (m 36) (m 37) k = H k ∧ H k ≤ 120) ∧ ((c 27 2 = nI 0 ∧ m 30 24 = nI 21) ∨ ∃ (B : Nat) (q : Nat → Nat), 1 ≤ B ∧ B ≤ 20 ∧ c 27 2 = nI B ∧ m 30 24 = nI B ∧ (∀ k, 1 ≤ k → k ≤ 5 → c 29 k = nI (q k) ∧ m 46 k = nI (q k) ∧ q k ≤ H k) ∧ q 1 + q 2 + q 3 + q 4 + q 5 = B)
def cU27 (c : HP) (a b t3 t2 t1 S : Nat) : HP := hu (hu (hu (hu (hu (hu c 29 1 (nI t1)) 29 2 (nI t2)) 29 3 (nI t3)) 29 4 (nI b)) 29 5 (nI a)) 27 2 (nI S)
set_option maxHeartbeats 2000000 in
theorem fu27 {c : HP} {H : Nat → Nat} {a b r s t3 t2 t1 : Nat} (hc : ∀ k, 1 ≤ k → k ≤ 5 → c 28 k = nI (H k) ∧ H k ≤ 120) (hs : c 27 2 = nI s) (hs2 : s ≤ 20) (ha : a ≤ 120) (hb : b ≤ 120) (hr : r ≤ 400) (h3 : t3 = min (H 3) (r / 4)) (h2 : t2 = min (H 2) ((r - 4 * t3) / 2)) (h1 : t1 = r - 4 * t3 - 2 * t2) : Ec 42 [.inr 27, .inl (nI a), .inl (nI b), .inl (nI r)] c (.inl none, if t1 ≤ H 1 ∧ a + b + t3 + t2 + t1 ≤ 20 ∧ (s = 0 ∨ a + b + t3 + t2 + t1 < s) then cU27 c a b t3 t2 t1 (a + b + t3 + t2 + t1) else c) := by
  obtain ⟨c1, q1⟩ := hc 1 (by decide) (by decide)
  obtain ⟨c2, q2⟩ := hc 2 (by decide) (by decide)
  obtain ⟨c3, q3⟩ := hc 3 (by decide) (by decide)
  have e1 : (if nI r / nI 4 < c 28 3 then nI r / nI 4 else c 28 3) = nI t3 := by
    rw [c3, pk_div (by omega) (by omega) (by omega), nI_min (by omega) (by omega), h3]
  have e2 : nI r - nI t3 * nI 4 = nI (r - 4 * t3) := by rw [pk_mul, pk_sub (by omega)]; exact congrArg nI (by omega)
  have e3 : (if nI (r - 4 * t3) / nI 2 < c 28 2 then nI (r - 4 * t3) / nI 2 else c 28 2) = nI t2 := by
    rw [c2, pk_div (by omega) (by omega) (by omega), nI_min (by omega) (by omega), h2]
  have e4 : nI (r - 4 * t3) - nI t2 * nI 2 = nI t1 := by rw [pk_mul, pk_sub (by omega)]; exact congrArg nI (by omega)
  have e5 : nI a + nI b + nI t3 + nI t2 + nI t1 = nI (a + b + t3 + t2 + t1) := by simp only [nI_add]
  refine w_fin ?_
  repeat' refine g_st 42 12 rfl rfl rfl ?_
  refine w_ts e1 ?_
  repeat' refine g_st 42 20 rfl rfl rfl ?_
  refine w_ts e2 ?_
  repeat' refine g_st 42 35 rfl rfl rfl ?_
  refine w_ts e3 ?_
  repeat' refine g_st 42 44 rfl rfl rfl ?_
  refine w_ts e4 ?_
  repeat' refine g_st 42 58 rfl rfl rfl ?_
  refine w_ts e5 ?_
  by_cases hU : t1 ≤ H 1 ∧ a + b + t3 + t2 + t1 ≤ 20 ∧ (s = 0 ∨ a + b + t3 + t2 + t1 < s)
  · rw [if_pos hU]
    rcases Nat.eq_zero_or_pos s with hs0 | hs0
    · skip
      repeat' first
        | refine w_st rfl rfl ?_
        | refine w_no rfl rfl ?_ ?_
        | (refine w_br rfl rfl (fun z => ?_) (fun z => ?_) <;> try (first | (simp (disch := omega) only [c1, hs, kc, nI_clamp, nI_eq, nI_ltI, nI_leI, nI_m1, hu_o, hu_k, hu_same, not_true_eq_false, not_false_eq_true] at z; first | done | omega)))
        | refine w_in rfl rfl ?_
        | refine w_end rfl rfl ?_
        | refine w_endY rfl rfl ?_ ?_
        | refine w_up ?_
      all_goals rfl
    · skip
      repeat' first
        | refine w_st rfl rfl ?_
        | refine w_no rfl rfl ?_ ?_
        | (refine w_br rfl rfl (fun z => ?_) (fun z => ?_) <;> try (first | (simp (disch := omega) only [c1, hs, kc, nI_clamp, nI_eq, nI_ltI, nI_leI, nI_m1, hu_o, hu_k, hu_same, not_true_eq_false, not_false_eq_true] at z; first | done | omega)))
        | refine w_in rfl rfl ?_
        | refine w_end rfl rfl ?_
        | refine w_endY rfl rfl ?_ ?_
        | refine w_up ?_
      all_goals rfl
  · rw [if_neg hU]
    by_cases u1 : t1 ≤ H 1
    · by_cases u2 : a + b + t3 + t2 + t1 ≤ 20
      · have u3 : ¬ (s = 0 ∨ a + b + t3 + t2 + t1 < s) := fun z => hU ⟨u1, u2, z⟩
        repeat' first
          | refine w_st rfl rfl ?_
          | refine w_no rfl rfl ?_ ?_
          | (refine w_br rfl rfl (fun z => ?_) (fun z => ?_) <;> try (first | (simp (disch := omega) only [c1, hs, kc, nI_clamp, nI_eq, nI_ltI, nI_leI, nI_m1, hu_o, hu_k, hu_same, not_true_eq_false, not_false_eq_true] at z; first | done | omega)))
          | refine w_in rfl rfl ?_
          | refine w_end rfl rfl ?_
          | refine w_endY rfl rfl ?_ ?_
          | refine w_up ?_
        all_goals rfl
      · skip
        repeat' first
          | refine w_st rfl rfl ?_
          | refine w_no rfl rfl ?_ ?_
          | (refine w_br rfl rfl (fun z => ?_) (fun z => ?_) <;> try (first | (simp (disch := omega) only [c1, hs, kc, nI_clamp, nI_eq, nI_ltI, nI_leI, nI_m1, hu_o, hu_k, hu_same, not_true_eq_false, not_false_eq_true] at z; first | done | omega)))
          | refine w_in rfl rfl ?_
          | refine w_end rfl rfl ?_
          | refine w_endY rfl rfl ?_ ?_
          | refine w_up ?_
        all_goals rfl
    · skip
      repeat' first
        | refine w_st rfl rfl ?_
        | refine w_no rfl rfl ?_ ?_
        | (refine w_br rfl rfl (fun z => ?_) (fun z => ?_) <;> try (first | (simp (disch := omega) only [c1, hs, kc, nI_clamp, nI_eq, nI_ltI, nI_leI, nI_m1, hu_o, hu_k, hu_same, not_true_eq_false, not_false_eq_true] at z; first | done | omega)))
        | refine w_in rfl rfl ?_
        | refine w_end rfl rfl ?_
        | refine w_endY rfl rfl ?_ ?_
        | refine w_up ?_
      all_goals rfl
theorem fill27 {H : Nat → Nat} {x : Int32} {c m : HP} (h : PI27 H x c m) {a b r : Nat} (ha : a ≤ H 5) (hb : b ≤ H 4) (hr : r ≤ 400) (h0 : 1 ≤ a + b + r) : ∃ c' m', Ec 42 [.inr 27, .inl (nI a), .inl (nI b), .inl (nI r)] c (.inl none, c') ∧ Ec 102 [.inr 30, .inl (nI a), .inl (nI b), .inl (nI r)] m (.inl none, m') ∧ PI27 H x c' m' := by
  obtain ⟨hR, hst, hx, hH, hB⟩ := id h
  obtain ⟨hfl, hvd, hbt, hsz, hes, hmg, hbk, hpy⟩ := id hR
  obtain ⟨t3, h3⟩ : ∃ t3, t3 = min (H 3) (r / 4) := ⟨_, rfl⟩
  obtain ⟨t2, h2⟩ : ∃ t2, t2 = min (H 2) ((r - 4 * t3) / 2) := ⟨_, rfl⟩
  obtain ⟨t1, h1⟩ : ∃ t1, t1 = r - 4 * t3 - 2 * t2 := ⟨_, rfl⟩
  have hH5 := (hH 5 (by decide) (by decide)).2.2
  have hH4 := (hH 4 (by decide) (by decide)).2.2
  have hsB : ∃ s B, c 27 2 = nI s ∧ m 30 24 = nI B ∧ s ≤ 20 ∧ B ≤ 21 ∧ ((s = 0 ∧ B = 21) ∨ (s = B ∧ 1 ≤ s)) := by
    rcases hB with ⟨z1, z2⟩ | ⟨B, q, z1, z2, z3, z4, _⟩
    · exact ⟨0, 21, z1, z2, by decide, by decide, Or.inl ⟨rfl, rfl⟩⟩
    · exact ⟨B, B, z3, z4, z2, by omega, Or.inr ⟨rfl, z1⟩⟩
  obtain ⟨s, B, s1, s2, s3, s4, s5⟩ := hsB
  have hS : inS m H := inS_of hmg rfl rfl (fun k z1 z2 => (hH k z1 z2).2.1)
  have hS' : inS (mU m a b t3 t2 t1 (a + b + t3 + t2 + t1)) H := inS_of hmg rfl rfl (fun k z1 z2 => (hH k z1 z2).2.1)
  have rC := fu27 (c := c) (H := H) (a := a) (b := b) (r := r) (fun k z1 z2 => ⟨(hH k z1 z2).1, (hH k z1 z2).2.2⟩) s1 s3 (by omega) (by omega) hr h3 h2 h1
  have rM := three (H := H) (h := m) (a := a) (b := b) (r := r) (by omega) (by omega) hr (fun k z1 z2 => (hH k z1 z2).2.2) s4 hS hS' s2 h3 h2 h1
  by_cases hU : t1 ≤ H 1 ∧ a + b + t3 + t2 + t1 < B
  · rw [if_pos (by omega)] at rC
    rw [if_pos hU] at rM
    refine ⟨_, _, rC, rM, ⟨hfl, hvd, hbt, hsz, hes, hmg, hbk, hpy.1, fun z => absurd (hst.symm.trans z) (by decide)⟩, hst, hx, hH, Or.inr ⟨a + b + t3 + t2 + t1, fun k => if k = 1 then t1 else if k = 2 then t2 else if k = 3 then t3 else if k = 4 then b else a, by omega, by omega, rfl, rfl, fun k z1 z2 => ?_, ?_⟩⟩
    · rcases (show k = 1 ∨ k = 2 ∨ k = 3 ∨ k = 4 ∨ k = 5 by omega) with rfl | rfl | rfl | rfl | rfl
      · exact ⟨rfl, rfl, hU.1⟩
      · exact ⟨rfl, rfl, show t2 ≤ H 2 by omega⟩
      · exact ⟨rfl, rfl, show t3 ≤ H 3 by omega⟩
      · exact ⟨rfl, rfl, hb⟩
      · exact ⟨rfl, rfl, ha⟩
    · show t1 + t2 + t3 + b + a = a + b + t3 + t2 + t1
      omega
  · rw [if_neg (by omega)] at rC
    rw [if_neg hU] at rM
    exact ⟨_, _, rC, rM, h⟩
theorem fin27 {H : Nat → Nat} {x : Int32} {A a re : Nat} {G : PO → PO → Prop} (ha : a ≤ H 5) (hre : re ≤ 400) (hH4 : H 4 ≤ 120) (h1 : 1 ≤ a + re) : ∀ b, b ≤ H 4 → 10 * b ≤ re → ∀ c m, PI27 H x c m → (∀ c' m' v w, PI27 H x c' m' → Wp 43 (96, [(5, .inl (v)), (4, .inl (nI re)), (3, .inl (nI a)), (0, .inr 27), (1, .inl (nI A)), (2, .inr 9)], [], c') (fun rc => Wp 103 (96, [(6, .inl (w)), (5, .inl (nI (H 4))), (4, .inl (nI re)), (3, .inl (nI a)), (2, .inl (nI (H 5))), (0, .inr 30), (1, .inl (nI A))], [], m') (fun rm => G rc rm))) → Wp 43 (70, [(5, .inl (nI b)), (4, .inl (nI re)), (3, .inl (nI a)), (0, .inr 27), (1, .inl (nI A)), (2, .inr 9)], [], c) (fun rc => Wp 103 (70, [(6, .inl (nI b)), (5, .inl (nI (H 4))), (4, .inl (nI re)), (3, .inl (nI a)), (2, .inl (nI (H 5))), (0, .inr 30), (1, .inl (nI A))], [], m) (fun rm => G rc rm)) := by
  intro b
  have step : ∀ b, b ≤ H 4 → 10 * b ≤ re → ∀ c m, PI27 H x c m → (∀ c' m', PI27 H x c' m' → Wp 43 (70, [(5, .inl (nI b + Int32.ofInt (-1))), (4, .inl (nI re)), (3, .inl (nI a)), (0, .inr 27), (1, .inl (nI A)), (2, .inr 9)], [], c') (fun rc => Wp 103 (70, [(6, .inl (nI b + Int32.ofInt (-1))), (5, .inl (nI (H 4))), (4, .inl (nI re)), (3, .inl (nI a)), (2, .inl (nI (H 5))), (0, .inr 30), (1, .inl (nI A))], [], m') (fun rm => G rc rm))) → Wp 43 (70, [(5, .inl (nI b)), (4, .inl (nI re)), (3, .inl (nI a)), (0, .inr 27), (1, .inl (nI A)), (2, .inr 9)], [], c) (fun rc => Wp 103 (70, [(6, .inl (nI b)), (5, .inl (nI (H 4))), (4, .inl (nI re)), (3, .inl (nI a)), (2, .inl (nI (H 5))), (0, .inr 30), (1, .inl (nI A))], [], m) (fun rm => G rc rm)) := by
    intro b hb hb10 c m hP K
    have l0 : (nI b < nI 0) = False := eq_false (fun z => by rw [nI_ltI (by omega) (by omega)] at z; omega)
    have eC : nI re - nI b * nI 10 = nI (re - 10 * b) := by rw [pk_mul, pk_sub (by omega)]; exact congrArg nI (by omega)
    have eM : nI re - nI 10 * nI b = nI (re - 10 * b) := by rw [pk_mul, pk_sub (by omega)]
    obtain ⟨c', m', r1, r2, r3⟩ := fill27 hP (a := a) (b := b) (r := re - 10 * b) ha hb (by omega) (by omega)
    refine w_st rfl rfl ?_
    refine w_br rfl rfl (fun z => absurd z (of_eq_false l0)) (fun _ => ?_)
    repeat' refine g_st 43 87 rfl rfl rfl ?_
    refine w_ts eC ?_
    refine w_ca rfl rfl r1 ?_
    refine w_st rfl rfl ?_
    refine w_st rfl rfl ?_
    refine w_sw ?_
    refine w_st rfl rfl ?_
    refine w_br rfl rfl (fun z => absurd z (of_eq_false l0)) (fun _ => ?_)
    repeat' refine g_st 103 87 rfl rfl rfl ?_
    refine w_ts eM ?_
    refine w_ca rfl rfl r2 ?_
    refine w_st rfl rfl ?_
    refine w_st rfl rfl ?_
    refine w_sw ?_
    exact K c' m' r3
  induction b with
  | zero =>
    intro hb hb10 c m hP K
    refine step 0 hb hb10 c m hP (fun c' m' h' => ?_)
    refine w_st rfl rfl ?_
    refine w_st rfl rfl ?_
    refine w_sw ?_
    refine w_st rfl rfl ?_
    refine w_st rfl rfl ?_
    refine w_sw ?_
    exact K c' m' _ _ h'
  | succ b ih =>
    intro hb hb10 c m hP K
    refine step (b + 1) hb hb10 c m hP (fun c' m' h' => ?_)
    have e : nI (b + 1) + Int32.ofInt (-1) = nI b := nI_dec b
    rw [e]
    exact ih (by omega) (by omega) c' m' h' K
set_option maxHeartbeats 2000000 in
theorem fout27 {H : Nat → Nat} {x : Int32} {A : Nat} {G : PO → PO → Prop} (hA : A ≤ 400) (hA1 : 1 ≤ A) (hH4 : H 4 ≤ 120) (hH5 : H 5 ≤ 120) : ∀ a, a ≤ H 5 → 20 * a ≤ A → ∀ c m b, b = min (H 4) ((A - 20 * a) / 10) → PI27 H x c m → (∀ c' m' v3 v4 v5 w3 w4 w6, PI27 H x c' m' → Wp 43 (102, [(3, .inl v3), (5, .inl v5), (4, .inl v4), (0, .inr 27), (1, .inl (nI A)), (2, .inr 9)], [], c') (fun rc => Wp 103 (102, [(3, .inl w3), (6, .inl w6), (5, .inl (nI (H 4))), (4, .inl w4), (2, .inl (nI (H 5))), (0, .inr 30), (1, .inl (nI A))], [], m') (fun rm => G rc rm))) → Wp 43 (70, [(5, .inl (nI b)), (4, .inl (nI (A - 20 * a))), (3, .inl (nI a)), (0, .inr 27), (1, .inl (nI A)), (2, .inr 9)], [], c) (fun rc => Wp 103 (70, [(6, .inl (nI b)), (5, .inl (nI (H 4))), (4, .inl (nI (A - 20 * a))), (3, .inl (nI a)), (2, .inl (nI (H 5))), (0, .inr 30), (1, .inl (nI A))], [], m) (fun rm => G rc rm)) := by
  intro a
  induction a with
  | zero =>
    intro ha ha20 c m b hb hP K
    refine fin27 ha (by omega) hH4 (by omega) b (by omega) (by omega) c m hP (fun c' m' v w h' => ?_)
    repeat' refine g_st 43 102 rfl rfl rfl ?_
    refine w_sw ?_
    repeat' refine g_st 103 102 rfl rfl rfl ?_
    refine w_sw ?_
    exact K c' m' _ _ _ _ _ _ h'
  | succ a ih =>
    intro ha ha20 c m b hb hP K
    refine fin27 ha (by omega) hH4 (by omega) b (by omega) (by omega) c m hP (fun c' m' v w h' => ?_)
    have e : nI (a + 1) + Int32.ofInt (-1) = nI a := nI_dec a
    have l0 : (nI a < nI 0) = False := eq_false (fun z => by rw [nI_ltI (by omega) (by omega)] at z; omega)
    have c4 := (h'.2.2.2.1 4 (by decide) (by decide)).1
    have hmg' : r_mg c' m' := h'.1.2.2.2.2.2.1
    have i4 := inS_of hmg' (h := m') rfl rfl (fun k z1 z2 => (h'.2.2.2.1 k z1 z2).2.1) 4 (by decide) (by decide)
    obtain ⟨b', hb'⟩ : ∃ b', b' = min (H 4) ((A - 20 * a) / 10) := ⟨_, rfl⟩
    have k1 := ih (by omega) (by omega) c' m' b' hb' h' K
    have eC : nI A - nI a * nI 20 = nI (A - 20 * a) := by rw [pk_mul, pk_sub (by omega)]; exact congrArg nI (by omega)
    have eM : nI A - nI 20 * nI a = nI (A - 20 * a) := by rw [pk_mul, pk_sub (by omega)]
    have eN : (if nI (A - 20 * a) / nI 10 < c' 28 4 then nI (A - 20 * a) / nI 10 else c' 28 4) = nI b' := by
      rw [c4, pk_div (by omega) (by omega) (by omega), nI_min (by omega) (by omega), hb']
    refine w_st rfl rfl ?_
    refine w_st rfl rfl ?_
    rw [e]
    refine w_st rfl rfl ?_
    refine w_br rfl rfl (fun z => absurd z (of_eq_false l0)) (fun _ => ?_)
    repeat' refine g_st 43 52 rfl rfl rfl ?_
    refine w_ts eC ?_
    repeat' refine g_st 43 68 rfl rfl rfl ?_
    refine w_ts eN ?_
    refine w_st rfl rfl ?_
    refine w_sw ?_
    refine w_st rfl rfl ?_
    refine w_st rfl rfl ?_
    rw [e]
    refine w_st rfl rfl ?_
    refine w_br rfl rfl (fun z => absurd z (of_eq_false l0)) (fun _ => ?_)
    repeat' refine g_st 103 39 rfl rfl rfl ?_
    refine w_ts eM ?_
    repeat' first
      | refine g_st 103 46 rfl rfl rfl ?_
      | refine w_ca rfl rfl i4 ?_
    repeat' refine w_st rfl rfl ?_
    refine w_br rfl rfl (fun z => ?_) (fun z => ?_)
    · simp (disch := omega) only [kc, pk_div, nI_leI] at z
      repeat' refine g_st 103 70 rfl rfl rfl ?_
      simp (disch := omega) only [kc, pk_div]
      rw [show (A - 20 * a) / 10 = b' by omega]
      exact w_sw k1
    · simp (disch := omega) only [kc, pk_div, nI_leI] at z
      have e4 : H 4 = b' := by omega
      repeat' refine g_st 103 70 rfl rfl rfl ?_
      have k2 := w_sw k1
      rw [e4] at k2 ⊢
      exact k2
set_option maxHeartbeats 2000000 in
theorem find27 {c m : HP} (hR : RR c m) (hst : c 0 7 = nI 0) {A : Nat} (hA1 : 1 ≤ A) (hA : A ≤ 400) : ∃ (H : Nat → Nat) (y : Nat) (c' m' : HP), Ec 43 [.inr 27, .inl (nI A), .inr 9] c (.inl (some (nI y)), c') ∧ Ec 103 [.inr 30, .inl (nI A)] m (.inl (some (nI y)), m') ∧ PI27 H (m 30 0) c' m' ∧ ((y = 0 ∧ c' 27 2 = nI 0) ∨ (y = 1 ∧ ∃ (B : Nat) (q : Nat → Nat), 1 ≤ B ∧ B ≤ 20 ∧ c' 27 2 = nI B ∧ m' 30 24 = nI B ∧ (∀ k, 1 ≤ k → k ≤ 5 → c' 29 k = nI (q k) ∧ m' 46 k = nI (q k) ∧ q k ≤ H k) ∧ q 1 + q 2 + q 3 + q 4 + q 5 = B)) := by
  obtain ⟨hfl, hvd, hbt, hsz, hes, hmg, hbk, hpy⟩ := id hR
  obtain ⟨H, hHd⟩ : ∃ H : Nat → Nat, H = fun k => stk (m 36) (m 37) k := ⟨_, rfl⟩
  have hH : ∀ k, stk (m 36) (m 37) k = H k := fun k => by rw [hHd]
  have hH120 : ∀ k, H k ≤ 120 := fun k => by rw [← hH]; exact stk_120 hmg k
  have mc : ∀ (h : HP), h 10 = c 10 → h 11 = c 11 → ∀ k, Ec 32 [.inr 9, .inl (nI k)] h (.inl (some (nI (H k))), h) := fun h z1 z2 k => by
    have e := c_magCount h (nI k) (fun s hs => by
      obtain ⟨_, n, _, _, hn, _, _, h3, _⟩ := hmg s hs
      exact ⟨n, hn, by rw [z2]; exact h3⟩)
    rw [z1, z2, k_mag hmg (nI k)] at e
    rw [← hH k]
    exact e
  obtain ⟨m1, hm1⟩ : ∃ m1, m1 = hu m 30 24 (nI 21) := ⟨_, rfl⟩
  have i5 : Ec 101 [.inr 30, .inl (nI 5)] m1 (.inl (some (nI (H 5))), m1) := inS_of hmg (h := m1) (by rw [hm1]; rfl) (by rw [hm1]; rfl) (fun k _ _ => hH k) 5 (by decide) (by decide)
  have i4 : Ec 101 [.inr 30, .inl (nI 4)] m1 (.inl (some (nI (H 4))), m1) := inS_of hmg (h := m1) (by rw [hm1]; rfl) (by rw [hm1]; rfl) (fun k _ _ => hH k) 4 (by decide) (by decide)
  suffices main : Wp 43 (0, pl_in 0 [.inr 27, .inl (nI A), .inr 9], [], c) (fun rc => Wp 103 (0, pl_in 0 [.inr 30, .inl (nI A)], [], m) (fun rm => ∃ y, rc.1 = .inl (some (nI y)) ∧ rm.1 = .inl (some (nI y)) ∧ PI27 H (m 30 0) rc.2 rm.2 ∧ ((y = 0 ∧ rc.2 27 2 = nI 0) ∨ (y = 1 ∧ ∃ (B : Nat) (q : Nat → Nat), 1 ≤ B ∧ B ≤ 20 ∧ rc.2 27 2 = nI B ∧ rm.2 30 24 = nI B ∧ (∀ k, 1 ≤ k → k ≤ 5 → rc.2 29 k = nI (q k) ∧ rm.2 46 k = nI (q k) ∧ q k ≤ H k) ∧ q 1 + q 2 + q 3 + q 4 + q 5 = B)))) by
    obtain ⟨⟨oc, c'⟩, e1, ⟨om, m'⟩, e2, y, e3, e4, e5⟩ := main
    dsimp only at e3 e4 e5
    subst e3 e4
    exact ⟨H, y, c', m', e1, e2, e5⟩
  refine w_st rfl rfl ?_
  refine w_in rfl rfl ?_
  repeat' first
    | refine w_st rfl rfl ?_
    | refine w_end rfl rfl ?_
  refine w_up ?_
  repeat' refine w_st rfl rfl ?_
  refine w_ca rfl rfl (mc _ (by rfl) (by rfl) 1) ?_
  repeat' refine w_st rfl rfl ?_
  refine w_ca rfl rfl (mc _ (by rfl) (by rfl) 2) ?_
  repeat' refine w_st rfl rfl ?_
  refine w_ca rfl rfl (mc _ (by rfl) (by rfl) 3) ?_
  repeat' refine w_st rfl rfl ?_
  refine w_ca rfl rfl (mc _ (by rfl) (by rfl) 4) ?_
  repeat' refine w_st rfl rfl ?_
  refine w_ca rfl rfl (mc _ (by rfl) (by rfl) 5) ?_
  repeat' refine g_st 43 28 rfl rfl rfl ?_
  refine (?_ : ∀ c1 : HP, (∀ k, 1 ≤ k → k ≤ 5 → c1 28 k = nI (H k)) → c1 27 2 = nI 0 → RR c1 m1 → c1 0 7 = nI 0 → Wp 43 (28, _, [], c1) _) _ ?_ ?_ ?_ ?_
  · intro c1 hc1 hs1 hR1 hst1
    have hP1 : PI27 H (m 30 0) c1 m1 := ⟨hR1, hst1, by rw [hm1]; rfl, fun k z1 z2 => ⟨hc1 k z1 z2, by rw [hm1]; exact hH k, hH120 k⟩, Or.inl ⟨hs1, by rw [hm1]; rfl⟩⟩
    obtain ⟨a, ha⟩ : ∃ a, a = min (H 5) (A / 20) := ⟨_, rfl⟩
    obtain ⟨b, hb⟩ : ∃ b, b = min (H 4) ((A - 20 * a) / 10) := ⟨_, rfl⟩
    have hH5 := hH120 5
    have hH4 := hH120 4
    have c5 := hc1 5 (by decide) (by decide)
    have c4 := hc1 4 (by decide) (by decide)
    have l0 : (nI a < nI 0) = False := eq_false (fun z => by rw [nI_ltI (by omega) (by omega)] at z; omega)
    have eA : (if nI A / nI 20 < c1 28 5 then nI A / nI 20 else c1 28 5) = nI a := by
      rw [c5, pk_div (by omega) (by omega) (by omega), nI_min (by omega) (by omega), ha]
    have eC : nI A - nI a * nI 20 = nI (A - 20 * a) := by rw [pk_mul, pk_sub (by omega)]; exact congrArg nI (by omega)
    have eM : nI A - nI 20 * nI a = nI (A - 20 * a) := by rw [pk_mul, pk_sub (by omega)]
    have eN : (if nI (A - 20 * a) / nI 10 < c1 28 4 then nI (A - 20 * a) / nI 10 else c1 28 4) = nI b := by
      rw [c4, pk_div (by omega) (by omega) (by omega), nI_min (by omega) (by omega), hb]
    have k1 := fout27 (H := H) (x := m 30 0) (A := A) (G := fun rc rm => ∃ y, rc.1 = .inl (some (nI y)) ∧ rm.1 = .inl (some (nI y)) ∧ PI27 H (m 30 0) rc.2 rm.2 ∧ ((y = 0 ∧ rc.2 27 2 = nI 0) ∨ (y = 1 ∧ ∃ (B : Nat) (q : Nat → Nat), 1 ≤ B ∧ B ≤ 20 ∧ rc.2 27 2 = nI B ∧ rm.2 30 24 = nI B ∧ (∀ k, 1 ≤ k → k ≤ 5 → rc.2 29 k = nI (q k) ∧ rm.2 46 k = nI (q k) ∧ q k ≤ H k) ∧ q 1 + q 2 + q 3 + q 4 + q 5 = B))) hA hA1 hH4 hH5 a (by omega) (by omega) c1 m1 b hb hP1 (fun c' m' v3 v4 v5 w3 w4 w6 h' => ?_)
    · repeat' refine g_st 43 41 rfl rfl rfl ?_
      refine w_ts eA ?_
      refine w_st rfl rfl ?_
      refine w_st rfl rfl ?_
      refine w_br rfl rfl (fun z => absurd z (of_eq_false l0)) (fun _ => ?_)
      repeat' refine g_st 43 52 rfl rfl rfl ?_
      refine w_ts eC ?_
      repeat' refine g_st 43 68 rfl rfl rfl ?_
      refine w_ts eN ?_
      refine w_st rfl rfl ?_
      refine w_sw ?_
      refine w_st rfl rfl ?_
      refine w_st rfl rfl ?_
      refine w_st rfl rfl ?_
      refine w_st rfl rfl ?_
      refine w_st rfl rfl ?_
      refine (?_ : Wp 103 (8, [(0, .inr 30), (1, .inl (nI A))], [.inl (nI 5), .inr 30], hu m 30 24 (nI 21)) _)
      rw [← hm1]
      refine w_ca rfl rfl i5 ?_
      have mtail : ∀ F, Wp 103 (70, [(6, .inl (nI b)), (5, .inl (nI (H 4))), (4, .inl (nI (A - 20 * a))), (3, .inl (nI a)), (2, .inl (nI (H 5))), (0, .inr 30), (1, .inl (nI A))], [], m1) F → Wp 103 (29, [(3, .inl (nI a)), (2, .inl (nI (H 5))), (0, .inr 30), (1, .inl (nI A))], [], m1) F := fun F KF => by
        refine w_st rfl rfl ?_
        refine w_br rfl rfl (fun z => absurd z (of_eq_false l0)) (fun _ => ?_)
        repeat' refine g_st 103 39 rfl rfl rfl ?_
        refine w_ts eM ?_
        repeat' first
          | refine g_st 103 46 rfl rfl rfl ?_
          | refine w_ca rfl rfl i4 ?_
        repeat' refine w_st rfl rfl ?_
        refine w_br rfl rfl (fun z => ?_) (fun z => ?_)
        · simp (disch := omega) only [kc, pk_div, nI_leI] at z
          repeat' refine g_st 103 70 rfl rfl rfl ?_
          simp (disch := omega) only [kc, pk_div]
          rw [show (A - 20 * a) / 10 = b by omega]
          exact KF
        · simp (disch := omega) only [kc, pk_div, nI_leI] at z
          have e4 : H 4 = b := by omega
          repeat' refine g_st 103 70 rfl rfl rfl ?_
          rw [e4] at KF ⊢
          exact KF
      repeat' refine w_st rfl rfl ?_
      refine w_br rfl rfl (fun z => ?_) (fun z => ?_)
      · simp (disch := omega) only [kc, pk_div, nI_leI] at z
        repeat' refine g_st 103 29 rfl rfl rfl ?_
        simp (disch := omega) only [kc, pk_div]
        rw [show A / 20 = a by omega]
        exact mtail _ (w_sw k1)
      · simp (disch := omega) only [kc, pk_div, nI_leI] at z
        have e5 : H 5 = a := by omega
        have mt := mtail _ (w_sw k1)
        repeat' refine g_st 103 29 rfl rfl rfl ?_
        rw [e5] at mt ⊢
        exact mt
    · rcases h'.2.2.2.2 with ⟨z1, z2⟩ | ⟨B, q, z1, z2, z3, z4, z5, z6⟩
      · skip
        repeat' first
          | refine w_st rfl rfl ?_
          | refine w_no rfl rfl ?_ ?_
          | (refine w_br rfl rfl (fun z => ?_) (fun z => ?_) <;> try (first | (simp (disch := omega) only [z1, z2, kc, nI_clamp, nI_eq, nI_ltI, nI_leI, nI_m1, hu_o, hu_k, hu_same, not_true_eq_false, not_false_eq_true] at z; first | done | omega)))
          | refine w_in rfl rfl ?_
          | refine w_end rfl rfl ?_
          | refine w_endY rfl rfl ?_ ?_
          | refine w_up ?_
        all_goals try exact Or.inr (Or.inl rfl)
        all_goals exact ⟨0, rfl, rfl, h', Or.inl ⟨rfl, z1⟩⟩
      · skip
        repeat' first
          | refine w_st rfl rfl ?_
          | refine w_no rfl rfl ?_ ?_
          | (refine w_br rfl rfl (fun z => ?_) (fun z => ?_) <;> try (first | (simp (disch := omega) only [z3, z4, kc, nI_clamp, nI_eq, nI_ltI, nI_leI, nI_m1, hu_o, hu_k, hu_same, not_true_eq_false, not_false_eq_true] at z; first | done | omega)))
          | refine w_in rfl rfl ?_
          | refine w_end rfl rfl ?_
          | refine w_endY rfl rfl ?_ ?_
          | refine w_up ?_
        all_goals try exact Or.inr (Or.inr rfl)
        all_goals exact ⟨1, rfl, rfl, h', Or.inr ⟨rfl, B, q, z1, z2, z3, z4, z5, z6⟩⟩
  · intro k z1 z2
    rcases (show k = 1 ∨ k = 2 ∨ k = 3 ∨ k = 4 ∨ k = 5 by omega) with rfl | rfl | rfl | rfl | rfl <;> rfl
  · rfl
  · rw [hm1]
    exact ⟨hfl, hvd, hbt, hsz, hes, hmg, hbk, hpy.1, fun z => absurd (hst.symm.trans z) (by decide)⟩
  · exact hst
