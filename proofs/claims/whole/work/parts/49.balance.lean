/-! BALANCE. -/
/-- the sum of v over 0 .. n - 1, as ints -/
def sI (v : Nat → Int32) : Nat → Int32
  | 0 => nI 0
  | n + 1 => sI v n + v n
def ab (x : Int32) : Int32 := if 0 ≤ x then x else 0 - x
theorem cn9 {c m : HP} (hbk : r_bk c m) (k : Nat) (hk : k ≤ 5) : Ec 87 [.inr 0, .inl (nI 9), .inl (nI k)] c (.inl (some (m 44 k)), c) := by
  obtain ⟨k1, k2, k3, k4, k5, k6, k7⟩ := hbk k (by omega)
  have ek : (nI k).toNatClampNeg = k := nI_clamp (by omega)
  refine w_fin ?_
  repeat' first
    | refine w_st rfl rfl ?_
    | refine w_no rfl rfl ?_ ?_
    | refine w_br rfl rfl (fun z => ?_) (fun z => ?_)
    | refine w_in rfl rfl ?_
    | refine w_end rfl rfl ?_
    | refine w_up ?_
  all_goals try (intro z; simp (disch := omega) only [nI_clamp, kc, nI_ltI] at z <;> omega)
  show (Sum.inl (some (c 23 (nI k).toNatClampNeg)), c) = _
  simp only [ek, k7]
theorem cb_in {c : HP} {k : Nat} {v : Nat → Int32} (hv : ∀ p, p ≤ 8 → Ec 87 [.inr 0, .inl (nI p), .inl (nI k)] c (.inl (some (v p)), c)) {a : Int32} {F : PO → Prop} : ∀ (d p : Nat), p + d = 9 → Wp 91 (37, [(4, .inl (nI 9)), (3, .inl (sI v 9)), (2, .inl (nI k)), (1, .inl a), (0, .inr 0)], [], c) F → Wp 91 (14, [(4, .inl (nI p)), (3, .inl (sI v p)), (2, .inl (nI k)), (1, .inl a), (0, .inr 0)], [], c) F := by
  intro d
  induction d with
  | zero =>
    intro p hp K
    obtain rfl : p = 9 := by omega
    repeat' refine g_st 91 37 rfl rfl rfl ?_
    exact K
  | succ d ih =>
    intro p hp K
    refine w_st rfl rfl ?_
    refine w_st rfl rfl ?_
    refine w_br rfl rfl (fun z => ?_) (fun z => ?_)
    · exfalso
      simp (disch := omega) only [kc, nI_ltI] at z
      omega
    · clear z
      repeat' first
        | refine g_st 91 14 rfl rfl rfl ?_
        | refine w_ca rfl rfl (hv p (by omega)) ?_
      have e := ih (p + 1) (by omega) K
      simp only [kc, nI_add]
      exact e
theorem mb_in {m : HP} {k : Nat} {v : Nat → Int32} (hv : ∀ p, p ≤ 8 → Ec 132 [.inr 30, .inl (nI p), .inl (nI k)] m (.inl (some (v p)), m)) {a x : Int32} {F : PO → Prop} : ∀ (d p : Nat), p + d = 9 → Wp 136 (48, [(4, .inl (nI 9)), (3, .inl (x - sI v 9)), (2, .inl (nI k)), (1, .inl a), (0, .inr 30)], [], m) F → Wp 136 (25, [(4, .inl (nI p)), (3, .inl (x - sI v p)), (2, .inl (nI k)), (1, .inl a), (0, .inr 30)], [], m) F := by
  intro d
  induction d with
  | zero =>
    intro p hp K
    obtain rfl : p = 9 := by omega
    repeat' refine g_st 136 48 rfl rfl rfl ?_
    exact K
  | succ d ih =>
    intro p hp K
    refine w_st rfl rfl ?_
    refine w_st rfl rfl ?_
    refine w_br rfl rfl (fun z => ?_) (fun z => ?_)
    · exfalso
      simp (disch := omega) only [kc, nI_leI] at z
      omega
    · clear z
      repeat' first
        | refine g_st 136 25 rfl rfl rfl ?_
        | refine w_ca rfl rfl (hv p (by omega)) ?_
      have e := ih (p + 1) (by omega) K
      simp only [kc, nI_add]
      have q : x - sI v p - v p = x - sI v (p + 1) := by simp only [sI, Int32.sub_sub]
      rw [q]
      exact e
/-- the reference's round of a kind: from the inner loop's start to the outer loop's head -/
theorem mb_out {m : HP} {k : Nat} {v : Nat → Int32} (hv : ∀ p, p ≤ 8 → Ec 132 [.inr 30, .inl (nI p), .inl (nI k)] m (.inl (some (v p)), m)) {a x : Int32} {F : PO → Prop} (K : Wp 136 (9, [(2, .inl (nI (k + 1))), (1, .inl (a + ab (x - sI v 9))), (4, .inl (nI 9)), (3, .inl (x - sI v 9)), (0, .inr 30)], [], m) F) : Wp 136 (25, [(4, .inl (nI 0)), (3, .inl x), (2, .inl (nI k)), (1, .inl a), (0, .inr 30)], [], m) F := by
  have e := mb_in hv (a := a) (x := x) (F := F) 9 0 rfl
  have q : x - sI v 0 = x := by simp only [sI, nI_0, Int32.sub_zero]
  rw [q] at e
  refine e ?_
  refine w_st rfl rfl ?_
  refine w_st rfl rfl ?_
  refine w_br rfl rfl (fun z => ?_) (fun z => ?_)
  · repeat' refine g_st 136 9 rfl rfl rfl ?_
    simp only [kc, nI_add]
    rw [ab, if_pos z] at K
    exact K
  · repeat' refine g_st 136 9 rfl rfl rfl ?_
    simp only [kc, nI_add]
    rw [ab, if_neg z, Int32.zero_sub] at K
    exact K
theorem cb_out {c : HP} {k : Nat} {v : Nat → Int32} {x : Int32} (hv : ∀ p, p ≤ 8 → Ec 87 [.inr 0, .inl (nI p), .inl (nI k)] c (.inl (some (v p)), c)) (hx : Ec 87 [.inr 0, .inl (nI 9), .inl (nI k)] c (.inl (some x), c)) {a : Int32} {F : PO → Prop} (K : Wp 91 (4, [(2, .inl (nI (k + 1))), (1, .inl (a + ab (x - sI v 9))), (4, .inl (nI 9)), (3, .inl (sI v 9)), (0, .inr 0)], [], c) F) : Wp 91 (14, [(4, .inl (nI 0)), (3, .inl (nI 0)), (2, .inl (nI k)), (1, .inl a), (0, .inr 0)], [], c) F := by
  refine cb_in hv (a := a) (F := F) 9 0 rfl ?_
  repeat' first
    | refine g_st 91 4 rfl rfl rfl ?_
    | refine w_ca rfl rfl hx ?_
  simp only [kc, nI_add]
  exact K
set_option maxHeartbeats 2000000 in
theorem o_balance : P_D RR 91 136 := by
  intro c m hR
  have hR1 : RR c (hu m 30 0 (Int32.ofInt 0)) := hR
  have hbk : r_bk c (hu m 30 0 (Int32.ofInt 0)) := hR1.2.2.2.2.2.2.1
  have hv : ∀ k, ∃ v : Nat → Int32, k ≤ 5 → ∀ p, p ≤ 8 → Ec 87 [.inr 0, .inl (nI p), .inl (nI k)] c (.inl (some (v p)), c) ∧ Ec 132 [.inr 30, .inl (nI p), .inl (nI k)] (hu m 30 0 (Int32.ofInt 0)) (.inl (some (v p)), hu m 30 0 (Int32.ofInt 0)) := by
    intro k
    by_cases hk : k ≤ 5
    · refine ⟨fun p => if hp : p ≤ 8 then (cn2 hR1 p k (by omega) hk).choose else 0, fun _ p hp => ?_⟩
      simp only [dif_pos hp]
      exact (cn2 hR1 p k (by omega) hk).choose_spec
    · exact ⟨fun _ => 0, fun z => absurd z hk⟩
  have c1 : ∀ k, k ≤ 5 → Ec 87 [.inr 0, .inl (nI 9), .inl (nI k)] c (.inl (some (m 44 k)), c) := fun k hk => cn9 hbk k hk
  obtain ⟨v1, q1⟩ := hv 1
  obtain ⟨v2, q2⟩ := hv 2
  obtain ⟨v3, q3⟩ := hv 3
  obtain ⟨v4, q4⟩ := hv 4
  obtain ⟨v5, q5⟩ := hv 5
  unfold P_run
  refine (?_ : Wp 91 _ (fun rc => rc = (.inl (some (nI 0 + ab (m 44 1 - sI v1 9) + ab (m 44 2 - sI v2 9) + ab (m 44 3 - sI v3 9) + ab (m 44 4 - sI v4 9) + ab (m 44 5 - sI v5 9))), c)) → _) ?_
  · rintro ⟨r, hr, rfl⟩
    refine ⟨_, hr, ?_⟩
    repeat' first
      | refine g_st 136 25 rfl rfl rfl ?_
      | refine g_no 136 25 rfl rfl rfl (nI_in (by decide) (by decide)) ?_
    refine mb_out (k := 1) (fun p hp => (q1 (by decide) p hp).2) ?_
    repeat' first
      | refine g_st 136 25 rfl rfl rfl ?_
      | refine g_no 136 25 rfl rfl rfl (nI_in (by decide) (by decide)) ?_
    refine mb_out (k := 2) (fun p hp => (q2 (by decide) p hp).2) ?_
    repeat' first
      | refine g_st 136 25 rfl rfl rfl ?_
      | refine g_no 136 25 rfl rfl rfl (nI_in (by decide) (by decide)) ?_
    refine mb_out (k := 3) (fun p hp => (q3 (by decide) p hp).2) ?_
    repeat' first
      | refine g_st 136 25 rfl rfl rfl ?_
      | refine g_no 136 25 rfl rfl rfl (nI_in (by decide) (by decide)) ?_
    refine mb_out (k := 4) (fun p hp => (q4 (by decide) p hp).2) ?_
    repeat' first
      | refine g_st 136 25 rfl rfl rfl ?_
      | refine g_no 136 25 rfl rfl rfl (nI_in (by decide) (by decide)) ?_
    refine mb_out (k := 5) (fun p hp => (q5 (by decide) p hp).2) ?_
    repeat' first
      | refine g_st 136 25 rfl rfl rfl ?_
      | refine w_end rfl rfl ?_
    exact ⟨hR1, _, rfl, rfl⟩
  · repeat' refine g_st 91 14 rfl rfl rfl ?_
    refine cb_out (k := 1) (fun p hp => (q1 (by decide) p hp).1) (c1 1 (by decide)) ?_
    repeat' refine g_st 91 14 rfl rfl rfl ?_
    refine cb_out (k := 2) (fun p hp => (q2 (by decide) p hp).1) (c1 2 (by decide)) ?_
    repeat' refine g_st 91 14 rfl rfl rfl ?_
    refine cb_out (k := 3) (fun p hp => (q3 (by decide) p hp).1) (c1 3 (by decide)) ?_
    repeat' refine g_st 91 14 rfl rfl rfl ?_
    refine cb_out (k := 4) (fun p hp => (q4 (by decide) p hp).1) (c1 4 (by decide)) ?_
    repeat' refine g_st 91 14 rfl rfl rfl ?_
    refine cb_out (k := 5) (fun p hp => (q5 (by decide) p hp).1) (c1 5 (by decide)) ?_
    repeat' first
      | refine g_st 91 14 rfl rfl rfl ?_
      | refine w_end rfl rfl ?_
    rfl
