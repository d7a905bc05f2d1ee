/-! PAIRS OF RUNS: a call of the class on one heap, the reference's on another, tied by a relation; out of that what the law's loop asks. -/
/-- the relation looks at the class's cells of the one heap and the reference's cells of the other -/
def q_Dep (R : HP → HP → Prop) : Prop := ∀ (c m c' m' : HP), (∀ a, a < 30 → c' a = c a) → (∀ a, 30 ≤ a → a < 47 → m' a = m a) → R c m → R c' m'
def P_run (jC jM : Nat) (as : List PV) (c m : HP) (F : PO → PO → Prop) : Prop := Wp jC (0, pl_in 0 (.inr 0 :: as), [], c) (fun rc => Wp jM (0, pl_in 0 (.inr 30 :: as), [], m) (fun rm => F rc rm))
def P_W (R : HP → HP → Prop) (jC jM : Nat) (cs : List Nat) (vf : Bool) (as : List PV) : Prop := ∀ c m, R c m → P_run jC jM as c m (fun rc rm => R rc.2 rm.2 ∧ ∃ v : Option Int32, rm.1 = .inl v ∧ v.isSome = vf ∧ ((rc.1 = .inl v ∧ rm.2 30 0 = 0) ∨ ∃ t x, cs[t]? = some x ∧ rc.1 = .inr x ∧ rm.2 30 0 = nI (t + 1)))
def P_D (R : HP → HP → Prop) (jC jM : Nat) : Prop := ∀ c m, R c m → P_run jC jM [] c m (fun rc rm => R rc.2 rm.2 ∧ ∃ v : Int32, rm.1 = .inl (some v) ∧ rc.1 = .inl (some v))
theorem P_seq {R : HP → HP → Prop} (hD : q_Dep R) {jC jM : Nat} (hC : jC < 92) (hM : 92 ≤ jM) {as : List PV} (ha : ∀ v ∈ as, ∃ x, v = Sum.inl x) {h c' m' : HP} {oc om : Option Int32 ⊕ Nat} (rc : Ec jC (.inr 0 :: as) h (oc, c')) (rm : Ec jM (.inr 30 :: as) h (om, m')) (hR : R c' m') :
    ∃ h2, Ec jM (.inr 30 :: as) c' (om, h2) ∧ h2 30 0 = m' 30 0 ∧ R h2 h2 := by
  have oC : okS q_SC (.inr 0 :: as) := okS_cons.mpr ⟨rfl, fun v hv => by obtain ⟨x, rfl⟩ := ha v hv; trivial⟩
  have oM : okS q_SM (.inr 30 :: as) := okS_cons.mpr ⟨rfl, fun v hv => by obtain ⟨x, rfl⟩ := ha v hv; trivial⟩
  have tC : q_TC jC = true := Nat.ble_eq_true_of_le hC
  have tM : q_TM jM = true := Nat.ble_eq_true_of_le hM
  have e : mix q_SM h c' = c' := by
    funext a b
    simp only [mix]
    split
    · rename_i hs
      simp only [q_SM, Bool.and_eq_true, Bool.not_eq_true'] at hs
      have h1 := Nat.le_of_ble_eq_true hs.1
      have hk := ec_keep q_LocC tC oC rc (a := a) (by
        simp only [q_SC, Bool.or_eq_false_iff]
        refine ⟨?_, hs.2⟩
        cases hb : Nat.blt a 30 with
        | false => rfl
        | true => exact absurd (Nat.le_of_ble_eq_true hb) (by omega))
      rw [hk]
    · rfl
  have h2 := ec_mix q_LocM (k := c') tM oM rm
  rw [e] at h2
  refine ⟨_, h2, rfl, hD c' m' _ _ ?_ ?_ hR⟩
  · intro a ha
    funext b
    have : q_SM a = false := by
      simp only [q_SM, Bool.and_eq_false_iff]
      left
      cases hb : Nat.ble 30 a with
      | false => rfl
      | true => exact absurd (Nat.le_of_ble_eq_true hb) (by omega)
    simp [mix, this]
  · intro a ha hb
    funext b
    have : q_SM a = true := by
      simp only [q_SM, Bool.and_eq_true, Bool.not_eq_true']
      refine ⟨Nat.ble_eq_true_of_le ha, ?_⟩
      cases hq : Nat.beq a 47 with
      | false => rfl
      | true => exact absurd (Nat.eq_of_beq_eq_true hq) (by omega)
    simp [mix, this]
theorem P_opW {R : HP → HP → Prop} (hD : q_Dep R) {jC jM : Nat} (hC : jC < 92) (hM : 92 ≤ jM) {cs : List Nat} {vf : Bool} {as : List PV} (ha : ∀ v ∈ as, ∃ x, v = Sum.inl x) (h : P_W R jC jM cs vf as) : q_opW (fun h => R h h) jC jM cs vf as := by
  intro g hg
  obtain ⟨⟨oc, c'⟩, rc, ⟨om, m'⟩, rm, hR, v, e1, e2, e3⟩ := h g g hg
  dsimp only at hR e1 e2 e3
  subst e1
  obtain ⟨h2, q1, q2, q3⟩ := P_seq hD hC hM ha rc rm hR
  rcases e3 with ⟨rfl, e4⟩ | ⟨t, x, e5, rfl, e6⟩
  · exact Or.inl ⟨v, c', h2, e2, rc, q1, by rw [q2, e4], q3⟩
  · exact Or.inr ⟨t, x, v, c', h2, e5, e2, rc, q1, by rw [q2, e6], q3⟩
theorem P_opZ {R : HP → HP → Prop} (hD : q_Dep R) {jC jM : Nat} (hC : jC < 92) (hM : 92 ≤ jM) {cs : List Nat} {as : List PV} (ha : ∀ v ∈ as, ∃ x, v = Sum.inl x) (h : P_W R jC jM cs true as) : q_opZ (fun h => R h h) jC jM cs as := by
  intro g hg
  rcases P_opW hD hC hM ha h g hg with ⟨v, h1, h2, hv, a1, a2, a3, a4⟩ | ⟨t, x, v, h1, h2, ht, hv, a1, a2, a3, a4⟩
  · obtain ⟨v, rfl⟩ := q_some hv
    exact Or.inl ⟨v, h1, h2, a1, a2, a3, a4⟩
  · obtain ⟨v, rfl⟩ := q_some hv
    exact Or.inr ⟨t, x, v, h1, h2, ht, a1, a2, a3, a4⟩
theorem P_opD {R : HP → HP → Prop} (hD : q_Dep R) {jC jM : Nat} (hC : jC < 92) (hM : 92 ≤ jM) (h : P_D R jC jM) : q_opD (fun h => R h h) jC jM := by
  intro g hg
  obtain ⟨⟨oc, c'⟩, rc, ⟨om, m'⟩, rm, hR, v, e1, e2⟩ := h g g hg
  dsimp only at hR e1 e2
  subst e1 e2
  obtain ⟨h2, q1, q2, q3⟩ := P_seq hD hC hM (as := []) (fun _ h => absurd h List.not_mem_nil) rc rm hR
  exact ⟨v, c', h2, rc, q1, q3⟩
