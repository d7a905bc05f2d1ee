/-! COUNTING LOOPS (written by wip/whole/gen_count.py). -/
set_option maxHeartbeats 2000000 in
theorem c_count_loop (h : HP) (x : Int32) : ∀ (d s : Nat), s + d = 10 → Wp 18 (4, [(3, .inl (nI s)), (2, .inl (nI (sm (fun s => if ¬ h 5 s = -1 ∧ h 4 s = x then 1 else 0) s))), (0, .inr 3), (1, .inl x)], [], h) (fun r => r = (.inl (some (nI (sm (fun s => if ¬ h 5 s = -1 ∧ h 4 s = x then 1 else 0) 10))), h)) := by
  intro d
  induction d with
  | zero =>
    intro s hs
    obtain rfl : s = 10 := by omega
    repeat' first
      | refine w_st rfl rfl ?_
      | refine w_end rfl rfl ?_
    rfl
  | succ d ih =>
    intro s hs
    have ec : (nI s).toNatClampNeg = s := nI_clamp (by omega)
    refine w_st rfl rfl ?_
    refine w_st rfl rfl ?_
    refine w_br rfl rfl (fun z => ?_) (fun z => ?_)
    · exfalso
      simp (disch := omega) only [kc, nI_leI] at z
      omega
    · clear z
      repeat' first
        | refine g_st 18 4 rfl rfl rfl ?_
        | refine g_no 18 4 rfl rfl rfl ?_ ?_
        | refine g_br 18 4 rfl rfl rfl (fun z => ?_) (fun z => ?_)
        | refine w_in rfl rfl ?_
        | refine w_end rfl rfl ?_
        | refine w_endY rfl rfl ?_ ?_
        | refine w_up ?_
      all_goals try exact nI_in (by omega) (by decide)
      all_goals
        have e := ih (s + 1) (by omega)
        clear ih
        simp only [ec, kc] at *
        simp only [sm, *, if_true, if_false, and_true, and_false, not_true_eq_false, not_false_eq_true, ite_true, ite_false, ne_eq] at e
        simp only [nI_add]
        exact e
theorem c_count (h : HP) (x : Int32) : Ec 18 [.inr 3, .inl x] h (.inl (some (nI (sm (fun s => if ¬ h 5 s = -1 ∧ h 4 s = x then 1 else 0) 10))), h) := by
  refine w_fin ?_
  refine w_st rfl rfl ?_
  refine w_st rfl rfl ?_
  refine w_st rfl rfl ?_
  refine w_st rfl rfl ?_
  exact c_count_loop h x 10 0 rfl

set_option maxHeartbeats 2000000 in
theorem c_going_loop (h : HP) (x : Int32) : ∀ (d s : Nat), s + d = 10 → Wp 19 (4, [(3, .inl (nI s)), (2, .inl (nI (sm (fun s => if h 5 s = x then 1 else 0) s))), (0, .inr 3), (1, .inl x)], [], h) (fun r => r = (.inl (some (nI (sm (fun s => if h 5 s = x then 1 else 0) 10))), h)) := by
  intro d
  induction d with
  | zero =>
    intro s hs
    obtain rfl : s = 10 := by omega
    repeat' first
      | refine w_st rfl rfl ?_
      | refine w_end rfl rfl ?_
    rfl
  | succ d ih =>
    intro s hs
    have ec : (nI s).toNatClampNeg = s := nI_clamp (by omega)
    refine w_st rfl rfl ?_
    refine w_st rfl rfl ?_
    refine w_br rfl rfl (fun z => ?_) (fun z => ?_)
    · exfalso
      simp (disch := omega) only [kc, nI_leI] at z
      omega
    · clear z
      repeat' first
        | refine g_st 19 4 rfl rfl rfl ?_
        | refine g_no 19 4 rfl rfl rfl ?_ ?_
        | refine g_br 19 4 rfl rfl rfl (fun z => ?_) (fun z => ?_)
        | refine w_in rfl rfl ?_
        | refine w_end rfl rfl ?_
        | refine w_endY rfl rfl ?_ ?_
        | refine w_up ?_
      all_goals try exact nI_in (by omega) (by decide)
      all_goals
        have e := ih (s + 1) (by omega)
        clear ih
        simp only [ec, kc] at *
        simp only [sm, *, if_true, if_false, and_true, and_false, not_true_eq_false, not_false_eq_true, ite_true, ite_false, ne_eq] at e
        simp only [nI_add]
        exact e
theorem c_going (h : HP) (x : Int32) : Ec 19 [.inr 3, .inl x] h (.inl (some (nI (sm (fun s => if h 5 s = x then 1 else 0) 10))), h) := by
  refine w_fin ?_
  refine w_st rfl rfl ?_
  refine w_st rfl rfl ?_
  refine w_st rfl rfl ?_
  refine w_st rfl rfl ?_
  exact c_going_loop h x 10 0 rfl

set_option maxHeartbeats 2000000 in
theorem m_ofBelt_loop (h : HP) (x : Int32) : ∀ (d s : Nat), s + d = 10 → Wp 131 (4, [(3, .inl (nI s)), (2, .inl (nI (sm (fun s => if h 32 s = x then 1 else 0) s))), (0, .inr 30), (1, .inl x)], [], h) (fun r => r = (.inl (some (nI (sm (fun s => if h 32 s = x then 1 else 0) 10))), h)) := by
  intro d
  induction d with
  | zero =>
    intro s hs
    obtain rfl : s = 10 := by omega
    repeat' first
      | refine w_st rfl rfl ?_
      | refine w_end rfl rfl ?_
    rfl
  | succ d ih =>
    intro s hs
    have ec : (nI s).toNatClampNeg = s := nI_clamp (by omega)
    refine w_st rfl rfl ?_
    refine w_st rfl rfl ?_
    refine w_br rfl rfl (fun z => ?_) (fun z => ?_)
    · exfalso
      simp (disch := omega) only [kc, nI_leI] at z
      omega
    · clear z
      repeat' first
        | refine g_st 131 4 rfl rfl rfl ?_
        | refine g_no 131 4 rfl rfl rfl ?_ ?_
        | refine g_br 131 4 rfl rfl rfl (fun z => ?_) (fun z => ?_)
        | refine w_in rfl rfl ?_
        | refine w_end rfl rfl ?_
        | refine w_endY rfl rfl ?_ ?_
        | refine w_up ?_
      all_goals try exact nI_in (by omega) (by decide)
      all_goals
        have e := ih (s + 1) (by omega)
        clear ih
        simp only [ec, kc] at *
        simp only [sm, *, if_true, if_false, and_true, and_false, not_true_eq_false, not_false_eq_true, ite_true, ite_false, ne_eq] at e
        simp only [nI_add]
        exact e
theorem m_ofBelt (h : HP) (x : Int32) : Ec 131 [.inr 30, .inl x] h (.inl (some (nI (sm (fun s => if h 32 s = x then 1 else 0) 10))), h) := by
  refine w_fin ?_
  refine w_st rfl rfl ?_
  refine w_st rfl rfl ?_
  refine w_st rfl rfl ?_
  refine w_st rfl rfl ?_
  exact m_ofBelt_loop h x 10 0 rfl
