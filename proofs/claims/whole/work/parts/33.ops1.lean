/-! CALLS WITHOUT LOOPS. -/
/-- what a pair of runs of a call that may throw comes to -/
def P_F (cs : List Nat) (vf : Bool) (rc rm : PO) : Prop := RR rc.2 rm.2 ∧ ∃ v : Option Int32, rm.1 = .inl v ∧ v.isSome = vf ∧ ((rc.1 = .inl v ∧ rm.2 30 0 = 0) ∨ ∃ t x, cs[t]? = some x ∧ rc.1 = .inr x ∧ rm.2 30 0 = nI (t + 1))
theorem P_Wof {jC jM : Nat} {cs : List Nat} {vf : Bool} {as : List PV} (h : ∀ c m, RR c m → P_run jC jM as c m (P_F cs vf)) : P_W RR jC jM cs vf as := h
theorem f_x (t : Nat) {x : Nat} {cs : List Nat} {vf : Bool} {v : Option Int32} {c m : HP} (hR : RR c m) (hv : v.isSome = vf) (hx : cs[t]? = some x) (hm : m 30 0 = nI (t + 1)) : P_F cs vf (.inr x, c) (.inl v, m) := ⟨hR, v, rfl, hv, Or.inr ⟨t, x, hx, rfl, hm⟩⟩
theorem f_r {cs : List Nat} {vf : Bool} {v w : Option Int32} {c m : HP} (hR : RR c m) (hv : v.isSome = vf) (hw : w = v) (hm : m 30 0 = nI 0) : P_F cs vf (.inl w, c) (.inl v, m) := ⟨hR, v, rfl, hv, Or.inl ⟨by rw [hw], hm⟩⟩
set_option maxHeartbeats 2000000 in
theorem o_insert (n : Int32) : P_W RR 44 96 [0, 1] true [.inl n] := by
  refine P_Wof fun c m hR => ?_
  have hR0 := hR
  obtain ⟨⟨hst, ⟨u, hu1, hu2, hu3⟩, hpw, hop, hsb⟩, hvd, hbt, hsz, hes, hmg, hbk, hpy⟩ := hR
  unfold P_run
  repeat' first
    | refine w_st rfl rfl ?_
    | refine w_no rfl rfl ?_ ?_
    | refine w_br rfl rfl (fun _ => ?_) (fun _ => ?_)
    | refine w_end rfl rfl ?_
    | refine w_endY rfl rfl ?_ ?_
  all_goals try contradiction
  all_goals first
    | exact f_x 0 hR0 rfl rfl rfl
    | exact f_x 1 hR0 rfl rfl rfl
    | (exfalso; simp only [hu2, hu3] at *; contradiction)
    | skip
  rename_i h1 h2 h3 _ _ _
  simp only [hu2, kc] at h1 h2 h3
  have h1' : ¬ n < 0 := fun z => h1 (by rw [Int32.lt_iff_toInt_lt] at z ⊢; have e0 : (0 : Int32).toInt = 0 := rfl; have e1 : (nI 1).toInt = 1 := rfl; omega)
  obtain ⟨j, hj, rfl⟩ := nI_of2 (n := 20) rfl h1' h2
  rw [nI_add, nI_leI (by omega) (by omega)] at h3
  have e : (nI u + nI j : Int32) = nI (u + j) := nI_add u j
  refine f_r ⟨⟨hst, ⟨u + j, h3, ?_, ?_⟩, hpw, hop, hsb⟩, hvd, hbt, hsz, hes, hmg, hbk, hpy⟩ rfl ?_ rfl
  · show c 0 8 + nI j = _
    rw [hu2, e]
  · show m 30 5 + nI j = _
    rw [hu3, e]
  · show some (c 0 8 + nI j) = some (m 30 5 + nI j)
    rw [hu2, hu3]
set_option maxHeartbeats 2000000 in
theorem o_state : P_D RR 86 129 := by
  intro c m hR
  have hR0 := hR
  obtain ⟨⟨⟨t, ht, h1, h2⟩, hsl, hpw, hop, hsb⟩, hvd, hbt, hsz, hes, hmg, hbk, hpy⟩ := hR
  unfold P_run
  repeat' first
    | refine w_st rfl rfl ?_
    | refine w_end rfl rfl ?_
  refine ⟨hR0, m 30 1, rfl, ?_⟩
  show Sum.inl (some (c 0 7)) = _
  rw [h1, h2]
