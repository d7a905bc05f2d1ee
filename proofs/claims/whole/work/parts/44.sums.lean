/-! SUMMING LOOPS OVER THE CASSETTES, COUNTS OVER THE PILE (written by wip/whole/gen_sum.py). -/

set_option maxHeartbeats 2000000 in
theorem m_inStores_loop (h : HP) (x : Int32) (hv : ∀ s, s < 4 → ∃ n, n ≤ 30 ∧ h 37 s = nI n) : ∀ (d s : Nat), s + d = 4 → Wp 101 (4, [(3, .inl (nI s)), (2, .inl (nI (sm (fun s => if h 36 s = x then (h 37 s).toNatClampNeg else 0) s))), (0, .inr 30), (1, .inl x)], [], h) (fun r => r = (.inl (some (nI (sm (fun s => if h 36 s = x then (h 37 s).toNatClampNeg else 0) 4))), h)) := by
  intro d
  induction d with
  | zero =>
    intro s hs
    obtain rfl : s = 4 := by omega
    repeat' first
      | refine w_st rfl rfl ?_
      | refine w_end rfl rfl ?_
    rfl
  | succ d ih =>
    intro s hs
    have ec : (nI s).toNatClampNeg = s := nI_clamp (by omega)
    obtain ⟨n, hn, en⟩ := hv s (by omega)
    have em : (nI n).toNatClampNeg = n := nI_clamp (by omega)
    refine w_st rfl rfl ?_
    refine w_st rfl rfl ?_
    refine w_br rfl rfl (fun z => ?_) (fun z => ?_)
    · exfalso
      simp (disch := omega) only [kc, nI_leI] at z
      omega
    · clear z
      repeat' first
        | refine g_st 101 4 rfl rfl rfl ?_
        | refine g_no 101 4 rfl rfl rfl ?_ ?_
        | refine g_br 101 4 rfl rfl rfl (fun z => ?_) (fun z => ?_)
        | refine w_in rfl rfl ?_
        | refine w_end rfl rfl ?_
        | refine w_endY rfl rfl ?_ ?_
        | refine w_up ?_
      all_goals try exact nI_in (by omega) (by decide)
      all_goals
        have e9 := ih (s + 1) (by omega)
        clear ih hv
        simp only [ec, kc] at *
        simp only [sm, *, if_true, if_false, and_true, and_false, not_true_eq_false, not_false_eq_true, ite_true, ite_false, ne_eq] at e9
        simp only [nI_add, en]
        exact e9
theorem m_inStores (h : HP) (x : Int32) (hv : ∀ s, s < 4 → ∃ n, n ≤ 30 ∧ h 37 s = nI n) : Ec 101 [.inr 30, .inl x] h (.inl (some (nI (sm (fun s => if h 36 s = x then (h 37 s).toNatClampNeg else 0) 4))), h) := by
  refine w_fin ?_
  refine w_st rfl rfl ?_
  refine w_st rfl rfl ?_
  refine w_st rfl rfl ?_
  refine w_st rfl rfl ?_
  exact m_inStores_loop h x hv 4 0 (by omega)

set_option maxHeartbeats 2000000 in
theorem c_magCount_loop (h : HP) (x : Int32) (hv : ∀ s, s < 4 → ∃ n, n ≤ 30 ∧ h 11 s = nI n) : ∀ (d s : Nat), s + d = 4 → Wp 32 (4, [(3, .inl (nI s)), (2, .inl (nI (sm (fun s => if h 10 s = x then (h 11 s).toNatClampNeg else 0) s))), (0, .inr 9), (1, .inl x)], [], h) (fun r => r = (.inl (some (nI (sm (fun s => if h 10 s = x then (h 11 s).toNatClampNeg else 0) 4))), h)) := by
  intro d
  induction d with
  | zero =>
    intro s hs
    obtain rfl : s = 4 := by omega
    repeat' first
      | refine w_st rfl rfl ?_
      | refine w_end rfl rfl ?_
    rfl
  | succ d ih =>
    intro s hs
    have ec : (nI s).toNatClampNeg = s := nI_clamp (by omega)
    obtain ⟨n, hn, en⟩ := hv s (by omega)
    have em : (nI n).toNatClampNeg = n := nI_clamp (by omega)
    refine w_st rfl rfl ?_
    refine w_st rfl rfl ?_
    refine w_br rfl rfl (fun z => ?_) (fun z => ?_)
    · exfalso
      simp (disch := omega) only [kc, nI_leI] at z
      omega
    · clear z
      repeat' first
        | refine g_st 32 4 rfl rfl rfl ?_
        | refine g_no 32 4 rfl rfl rfl ?_ ?_
        | refine g_br 32 4 rfl rfl rfl (fun z => ?_) (fun z => ?_)
        | refine w_in rfl rfl ?_
        | refine w_end rfl rfl ?_
        | refine w_endY rfl rfl ?_ ?_
        | refine w_up ?_
      all_goals try exact nI_in (by omega) (by decide)
      all_goals
        have e9 := ih (s + 1) (by omega)
        clear ih hv
        simp only [ec, kc] at *
        simp only [sm, *, if_true, if_false, and_true, and_false, not_true_eq_false, not_false_eq_true, ite_true, ite_false, ne_eq] at e9
        simp only [nI_add, en]
        exact e9
theorem c_magCount (h : HP) (x : Int32) (hv : ∀ s, s < 4 → ∃ n, n ≤ 30 ∧ h 11 s = nI n) : Ec 32 [.inr 9, .inl x] h (.inl (some (nI (sm (fun s => if h 10 s = x then (h 11 s).toNatClampNeg else 0) 4))), h) := by
  refine w_fin ?_
  refine w_st rfl rfl ?_
  refine w_st rfl rfl ?_
  refine w_st rfl rfl ?_
  refine w_st rfl rfl ?_
  exact c_magCount_loop h x hv 4 0 (by omega)

set_option maxHeartbeats 2000000 in
theorem c_escCount_loop (h : HP) (x : Int32) (e : Nat) (hv : e ≤ 24 ∧ h 7 1 = nI e) : ∀ (d s : Nat), s + d = e → Wp 23 (4, [(3, .inl (nI s)), (2, .inl (nI (sm (fun s => if h 8 s = x then 1 else 0) s))), (0, .inr 7), (1, .inl x)], [], h) (fun r => r = (.inl (some (nI (sm (fun s => if h 8 s = x then 1 else 0) e))), h)) := by
  intro d
  induction d with
  | zero =>
    intro s hs
    obtain rfl : s = e := by omega
    refine w_st rfl rfl ?_
    refine w_st rfl rfl ?_
    refine w_st rfl rfl ?_
    refine w_br rfl rfl (fun z => ?_) (fun z => ?_)
    · refine w_st rfl rfl ?_
      exact w_end rfl rfl rfl
    · exfalso
      have hv1 := hv.1
      simp (disch := omega) only [kc, nI_leI, hv.2] at z
      omega
  | succ d ih =>
    intro s hs
    have ec : (nI s).toNatClampNeg = s := nI_clamp (by omega)
    have hv1 := hv.1
    refine w_st rfl rfl ?_
    refine w_st rfl rfl ?_
    refine w_st rfl rfl ?_
    refine w_br rfl rfl (fun z => ?_) (fun z => ?_)
    · exfalso
      simp (disch := omega) only [kc, nI_leI, hv.2] at z
      omega
    · clear z
      repeat' first
        | refine g_st 23 4 rfl rfl rfl ?_
        | refine g_no 23 4 rfl rfl rfl ?_ ?_
        | refine g_br 23 4 rfl rfl rfl (fun z => ?_) (fun z => ?_)
        | refine w_in rfl rfl ?_
        | refine w_end rfl rfl ?_
        | refine w_endY rfl rfl ?_ ?_
        | refine w_up ?_
      all_goals try exact nI_in (by omega) (by decide)
      all_goals
        have e9 := ih (s + 1) (by omega)
        clear ih hv
        simp only [ec, kc] at *
        simp only [sm, *, if_true, if_false, and_true, and_false, not_true_eq_false, not_false_eq_true, ite_true, ite_false, ne_eq] at e9
        simp only [nI_add]
        exact e9
theorem c_escCount (h : HP) (x : Int32) (e : Nat) (hv : e ≤ 24 ∧ h 7 1 = nI e) : Ec 23 [.inr 7, .inl x] h (.inl (some (nI (sm (fun s => if h 8 s = x then 1 else 0) e))), h) := by
  refine w_fin ?_
  refine w_st rfl rfl ?_
  refine w_st rfl rfl ?_
  refine w_st rfl rfl ?_
  refine w_st rfl rfl ?_
  exact c_escCount_loop h x e hv e 0 (by omega)

set_option maxHeartbeats 2000000 in
theorem m_inPile_loop (h : HP) (x : Int32) (e : Nat) (hv : e ≤ 24 ∧ h 30 12 = nI e) : ∀ (d s : Nat), s + d = e → Wp 130 (4, [(3, .inl (nI s)), (2, .inl (nI (sm (fun s => if h 35 s = x then 1 else 0) s))), (0, .inr 30), (1, .inl x)], [], h) (fun r => r = (.inl (some (nI (sm (fun s => if h 35 s = x then 1 else 0) e))), h)) := by
  intro d
  induction d with
  | zero =>
    intro s hs
    obtain rfl : s = e := by omega
    refine w_st rfl rfl ?_
    refine w_st rfl rfl ?_
    refine w_st rfl rfl ?_
    refine w_br rfl rfl (fun z => ?_) (fun z => ?_)
    · refine w_st rfl rfl ?_
      exact w_end rfl rfl rfl
    · exfalso
      have hv1 := hv.1
      simp (disch := omega) only [kc, nI_leI, hv.2] at z
      omega
  | succ d ih =>
    intro s hs
    have ec : (nI s).toNatClampNeg = s := nI_clamp (by omega)
    have hv1 := hv.1
    refine w_st rfl rfl ?_
    refine w_st rfl rfl ?_
    refine w_st rfl rfl ?_
    refine w_br rfl rfl (fun z => ?_) (fun z => ?_)
    · exfalso
      simp (disch := omega) only [kc, nI_leI, hv.2] at z
      omega
    · clear z
      repeat' first
        | refine g_st 130 4 rfl rfl rfl ?_
        | refine g_no 130 4 rfl rfl rfl ?_ ?_
        | refine g_br 130 4 rfl rfl rfl (fun z => ?_) (fun z => ?_)
        | refine w_in rfl rfl ?_
        | refine w_end rfl rfl ?_
        | refine w_endY rfl rfl ?_ ?_
        | refine w_up ?_
      all_goals try exact nI_in (by omega) (by decide)
      all_goals
        have e9 := ih (s + 1) (by omega)
        clear ih hv
        simp only [ec, kc] at *
        simp only [sm, *, if_true, if_false, and_true, and_false, not_true_eq_false, not_false_eq_true, ite_true, ite_false, ne_eq] at e9
        simp only [nI_add]
        exact e9
theorem m_inPile (h : HP) (x : Int32) (e : Nat) (hv : e ≤ 24 ∧ h 30 12 = nI e) : Ec 130 [.inr 30, .inl x] h (.inl (some (nI (sm (fun s => if h 35 s = x then 1 else 0) e))), h) := by
  refine w_fin ?_
  refine w_st rfl rfl ?_
  refine w_st rfl rfl ?_
  refine w_st rfl rfl ?_
  refine w_st rfl rfl ?_
  exact m_inPile_loop h x e hv e 0 (by omega)
