/-! WHERE A STORED NOTE GOES (written by wip/whole/g56.py). -/
/-- the notes on the belt for goal g: the reference -/
def mG (m : HP) (g n : Nat) : Nat := sm (fun s => if ¬ m 32 s = -1 ∧ m 33 s = nI g then 1 else 0) n
theorem mG_le (m : HP) (g n : Nat) : mG m g n ≤ n := by
  have := sm_le (f := fun s => if ¬ m 32 s = -1 ∧ m 33 s = nI g then 1 else 0) (b := 1) (n := n) (fun i _ => by split <;> omega)
  simpa [mG] using this
theorem m_gf_in {m : HP} {k : Int32} {i n : Nat} (hi : i < 4) (hn : n ≤ 30) {F : PO → Prop} : ∀ (d s : Nat), s + d = 10 → Wp 110 (62, [(4, .inl (nI 10)), (3, .inl (nI (n + mG m (2 + i) 10))), (2, .inl (nI i)), (0, .inr 30), (1, .inl k)], [], m) F → Wp 110 (17, [(4, .inl (nI s)), (3, .inl (nI (n + mG m (2 + i) s))), (2, .inl (nI i)), (0, .inr 30), (1, .inl k)], [], m) F := by
  intro d
  induction d with
  | zero =>
    intro s hs K
    obtain rfl : s = 10 := by omega
    repeat' refine g_st 110 62 rfl rfl rfl ?_
    exact K
  | succ d ih =>
    intro s hs K
    have ec : (nI s).toNatClampNeg = s := nI_clamp (by omega)
    have e9 := ih (s + 1) (by omega) K
    have es : mG m (2 + i) (s + 1) = mG m (2 + i) s + (if ¬ m 32 s = -1 ∧ m 33 s = nI (2 + i) then 1 else 0) := rfl
    rw [es] at e9
    refine w_st rfl rfl ?_
    refine w_st rfl rfl ?_
    refine w_br rfl rfl (fun z => ?_) (fun z => ?_)
    · exfalso
      simp (disch := omega) only [kc, nI_leI] at z
      omega
    · clear z ih K es
      repeat' first
        | refine g_st 110 17 rfl rfl rfl ?_
        | refine g_no 110 17 rfl rfl rfl ?_ ?_
        | refine g_br 110 17 rfl rfl rfl (fun z => ?_) (fun z => ?_)
      all_goals try exact nI_in (by omega) (by decide)
      · simp only [ec, kc] at z
        rw [if_neg (fun q => q.1 z)] at e9
        simp only [kc, nI_add]
        exact e9
      · rename_i z1
        simp only [ec, kc, nI_add] at z z1
        rw [if_pos ⟨z1, z⟩, ← Nat.add_assoc] at e9
        simp only [kc, nI_add]
        exact e9
      · simp only [ec, kc, nI_add] at z
        rw [if_neg (fun q => z q.2)] at e9
        simp only [kc, nI_add]
        exact e9
theorem sgC_yes {c m : HP} (hR : RR c m) {k i n : Nat} (hk : k ≤ 5) (hi : i < 4) (hn : n ≤ 30) (h1 : c 10 i = nI k) (h3 : c 11 i = nI n) (hG : n + mG m (2 + i) 10 < 30) {F : PO → Prop} (K : F (.inl (some (nI (2 + i))), c)) : Wp 60 (11, [(3, .inl (nI (2 + i))), (2, .inl (nI i)), (0, .inr 0), (1, .inl (nI k))], [], c) F := by
  have ec : (nI i).toNatClampNeg = i := nI_clamp (by omega)
  have eG := k_going hR.2.2.1 (2 + i) (by omega)
  have g1 := c_going c (nI (2 + i))
  rw [eG] at g1
  have g2 : Ec 19 [.inr 3, .inl (nI (2 + i))] c (.inl (some (nI (mG m (2 + i) 10))), c) := g1
  have e30 : nI 30 - nI n = nI (30 - n) := pk_sub hn
  have hG0 := mG_le m (2 + i) 10
  repeat' first
    | refine w_st rfl rfl ?_
    | refine w_ca rfl rfl g2 ?_
    | refine w_no rfl rfl ?_ ?_
    | (refine w_br rfl rfl (fun z => ?_) (fun z => ?_) <;> try (first | contradiction | (simp (disch := omega) only [ec, h1, h3, e30, kc, nI_eq, nI_ltI, nI_leI, nI_m1, hu_o, hu_k, hu_same, not_true_eq_false, not_false_eq_true] at z; first | done | omega)))
    | refine w_in rfl rfl ?_
    | refine w_end rfl rfl ?_
    | refine w_endY rfl rfl ?_ ?_
    | refine w_up ?_
  all_goals try (intro z; simp (disch := omega) only [ec, h1, h3, e30, nI_clamp, kc, nI_ltI, hu_o, hu_k, hu_same, false_or] at z <;> omega)
  all_goals exact K
theorem sgM_yes {m : HP} {k i n : Nat} (hk : k ≤ 5) (hi : i < 4) (hn : n ≤ 30) (h2 : m 36 i = nI k) (h4 : m 37 i = nI n) (hG : n + mG m (2 + i) 10 < 30) {F : PO → Prop} (K : F (.inl (some (nI (2 + i))), m)) : Wp 110 (17, [(4, .inl (nI 0)), (3, .inl (nI n)), (2, .inl (nI i)), (0, .inr 30), (1, .inl (nI k))], [], m) F := by
  have ec : (nI i).toNatClampNeg = i := nI_clamp (by omega)
  have hG0 := mG_le m (2 + i) 10
  refine m_gf_in hi hn 10 0 rfl ?_
  repeat' first
    | refine w_st rfl rfl ?_
    | refine w_no rfl rfl ?_ ?_
    | (refine w_br rfl rfl (fun z => ?_) (fun z => ?_) <;> try (first | contradiction | (simp (disch := omega) only [ec, h2, h4, nI_add, kc, nI_eq, nI_ltI, nI_leI, nI_m1, hu_o, hu_k, hu_same, not_true_eq_false, not_false_eq_true] at z; first | done | omega)))
    | refine w_in rfl rfl ?_
    | refine w_end rfl rfl ?_
    | refine w_endY rfl rfl ?_ ?_
    | refine w_up ?_
  all_goals try (intro z; simp (disch := omega) only [ec, h2, h4, nI_add, nI_clamp, kc, nI_ltI, hu_o, hu_k, hu_same, false_or] at z <;> omega)
  all_goals (simp only [kc, nI_add]; exact K)
theorem sgC_no {c m : HP} (hR : RR c m) {k k' i n : Nat} (hk : k ≤ 5) (hk' : k' ≤ 5) (hi : i < 4) (hn : n ≤ 30) (h1 : c 10 i = nI k') (h3 : c 11 i = nI n) (hG : ¬ (k' = k ∧ n + mG m (2 + i) 10 < 30)) {F : PO → Prop} (K : Wp 60 (2, [(2, .inl (nI (i + 1))), (3, .inl (nI (2 + i))), (0, .inr 0), (1, .inl (nI k))], [], c) F) : Wp 60 (11, [(3, .inl (nI (2 + i))), (2, .inl (nI i)), (0, .inr 0), (1, .inl (nI k))], [], c) F := by
  have ec : (nI i).toNatClampNeg = i := nI_clamp (by omega)
  have eG := k_going hR.2.2.1 (2 + i) (by omega)
  have g1 := c_going c (nI (2 + i))
  rw [eG] at g1
  have g2 : Ec 19 [.inr 3, .inl (nI (2 + i))] c (.inl (some (nI (mG m (2 + i) 10))), c) := g1
  have e30 : nI 30 - nI n = nI (30 - n) := pk_sub hn
  have hG0 := mG_le m (2 + i) 10
  by_cases hkk : k' = k
  · have hG1 : ¬ n + mG m (2 + i) 10 < 30 := fun z => hG ⟨hkk, z⟩
    repeat' first
      | refine g_st 60 2 rfl rfl rfl ?_
      | refine w_ca rfl rfl g2 ?_
      | refine g_no 60 2 rfl rfl rfl ?_ ?_
      | (refine g_br 60 2 rfl rfl rfl (fun z => ?_) (fun z => ?_) <;> try (first | contradiction | (simp (disch := omega) only [ec, h1, h3, e30, kc, nI_eq, nI_ltI, nI_leI, nI_m1, hu_o, hu_k, hu_same, not_true_eq_false, not_false_eq_true] at z; first | done | omega)))
      | refine w_in rfl rfl ?_
      | refine w_end rfl rfl ?_
      | refine w_endY rfl rfl ?_ ?_
      | refine w_up ?_
    all_goals try (intro z; simp (disch := omega) only [ec, h1, h3, e30, nI_clamp, kc, nI_ltI, hu_o, hu_k, hu_same, false_or] at z <;> omega)
    all_goals (simp only [kc, nI_add]; exact K)
  · skip
    repeat' first
      | refine g_st 60 2 rfl rfl rfl ?_
      | refine w_ca rfl rfl g2 ?_
      | refine g_no 60 2 rfl rfl rfl ?_ ?_
      | (refine g_br 60 2 rfl rfl rfl (fun z => ?_) (fun z => ?_) <;> try (first | contradiction | (simp (disch := omega) only [ec, h1, h3, e30, kc, nI_eq, nI_ltI, nI_leI, nI_m1, hu_o, hu_k, hu_same, not_true_eq_false, not_false_eq_true] at z; first | done | omega)))
      | refine w_in rfl rfl ?_
      | refine w_end rfl rfl ?_
      | refine w_endY rfl rfl ?_ ?_
      | refine w_up ?_
    all_goals try (intro z; simp (disch := omega) only [ec, h1, h3, e30, nI_clamp, kc, nI_ltI, hu_o, hu_k, hu_same, false_or] at z <;> omega)
    all_goals (simp only [kc, nI_add]; exact K)
theorem sgM_no {m : HP} {k k' i n : Nat} (hk : k ≤ 5) (hk' : k' ≤ 5) (hi : i < 4) (hn : n ≤ 30) (h2 : m 36 i = nI k') (h4 : m 37 i = nI n) (hG : ¬ (k' = k ∧ n + mG m (2 + i) 10 < 30)) {F : PO → Prop} (K : Wp 110 (2, [(2, .inl (nI (i + 1))), (4, .inl (nI 10)), (3, .inl (nI (n + mG m (2 + i) 10))), (0, .inr 30), (1, .inl (nI k))], [], m) F) : Wp 110 (17, [(4, .inl (nI 0)), (3, .inl (nI n)), (2, .inl (nI i)), (0, .inr 30), (1, .inl (nI k))], [], m) F := by
  have ec : (nI i).toNatClampNeg = i := nI_clamp (by omega)
  have hG0 := mG_le m (2 + i) 10
  refine m_gf_in hi hn 10 0 rfl ?_
  by_cases hkk : k' = k
  · have hG1 : ¬ n + mG m (2 + i) 10 < 30 := fun z => hG ⟨hkk, z⟩
    repeat' first
      | refine g_st 110 2 rfl rfl rfl ?_
      | refine g_no 110 2 rfl rfl rfl ?_ ?_
      | (refine g_br 110 2 rfl rfl rfl (fun z => ?_) (fun z => ?_) <;> try (first | contradiction | (simp (disch := omega) only [ec, h2, h4, nI_add, kc, nI_eq, nI_ltI, nI_leI, nI_m1, hu_o, hu_k, hu_same, not_true_eq_false, not_false_eq_true] at z; first | done | omega)))
      | refine w_in rfl rfl ?_
      | refine w_end rfl rfl ?_
      | refine w_endY rfl rfl ?_ ?_
      | refine w_up ?_
    all_goals try (intro z; simp (disch := omega) only [ec, h2, h4, nI_add, nI_clamp, kc, nI_ltI, hu_o, hu_k, hu_same, false_or] at z <;> omega)
    all_goals (simp only [kc, nI_add]; exact K)
  · skip
    repeat' first
      | refine g_st 110 2 rfl rfl rfl ?_
      | refine g_no 110 2 rfl rfl rfl ?_ ?_
      | (refine g_br 110 2 rfl rfl rfl (fun z => ?_) (fun z => ?_) <;> try (first | contradiction | (simp (disch := omega) only [ec, h2, h4, nI_add, kc, nI_eq, nI_ltI, nI_leI, nI_m1, hu_o, hu_k, hu_same, not_true_eq_false, not_false_eq_true] at z; first | done | omega)))
      | refine w_in rfl rfl ?_
      | refine w_end rfl rfl ?_
      | refine w_endY rfl rfl ?_ ?_
      | refine w_up ?_
    all_goals try (intro z; simp (disch := omega) only [ec, h2, h4, nI_add, nI_clamp, kc, nI_ltI, hu_o, hu_k, hu_same, false_or] at z <;> omega)
    all_goals (simp only [kc, nI_add]; exact K)
set_option maxHeartbeats 2000000 in
/-- where a note of kind k is stored: both sides answer alike -/
theorem sg2 {c m : HP} (hR : RR c m) {k : Nat} (hk : k ≤ 5) : ∃ g, 2 ≤ g ∧ g ≤ 7 ∧ Ec 60 [.inr 0, .inl (nI k)] c (.inl (some (nI g)), c) ∧ Ec 110 [.inr 30, .inl (nI k)] m (.inl (some (nI g)), m) := by
  have hmg := hR.2.2.2.2.2.1
  obtain ⟨k0, n0, _, ha0, hb0, a0, b0, c0, d0⟩ := hmg 0 (by decide)
  obtain ⟨k1, n1, _, ha1, hb1, a1, b1, c1, d1⟩ := hmg 1 (by decide)
  obtain ⟨k2, n2, _, ha2, hb2, a2, b2, c2, d2⟩ := hmg 2 (by decide)
  obtain ⟨k3, n3, _, ha3, hb3, a3, b3, c3, d3⟩ := hmg 3 (by decide)
  by_cases D0 : k0 = k ∧ n0 + mG m (2 + 0) 10 < 30
  · obtain ⟨e, D0⟩ := D0
    rw [e] at a0 b0
    refine ⟨2 + 0, by decide, by decide, ?_, ?_⟩
    · -- the class
      refine w_fin ?_
      repeat' refine g_st 60 11 rfl rfl rfl ?_
      exact sgC_yes hR hk (i := 0) (by decide) hb0 a0 c0 D0 rfl
    · -- the reference
      refine w_fin ?_
      repeat' first
        | refine g_st 110 17 rfl rfl rfl ?_
        | refine g_no 110 17 rfl rfl rfl (nI_in (by decide) (by decide)) ?_
      refine (?_ : Wp 110 (17, [(4, .inl (nI 0)), (3, .inl (m 37 0)), (2, .inl (nI 0)), (0, .inr 30), (1, .inl (nI k))], [], m) _)
      rw [d0]
      exact sgM_yes hk (i := 0) (by decide) hb0 b0 d0 D0 rfl
  · skip
    by_cases D1 : k1 = k ∧ n1 + mG m (2 + 1) 10 < 30
    · obtain ⟨e, D1⟩ := D1
      rw [e] at a1 b1
      refine ⟨2 + 1, by decide, by decide, ?_, ?_⟩
      · -- the class
        refine w_fin ?_
        repeat' refine g_st 60 11 rfl rfl rfl ?_
        refine sgC_no hR hk ha0 (i := 0) (by decide) hb0 a0 c0 D0 ?_
        repeat' refine g_st 60 11 rfl rfl rfl ?_
        exact sgC_yes hR hk (i := 1) (by decide) hb1 a1 c1 D1 rfl
      · -- the reference
        refine w_fin ?_
        repeat' first
          | refine g_st 110 17 rfl rfl rfl ?_
          | refine g_no 110 17 rfl rfl rfl (nI_in (by decide) (by decide)) ?_
        refine (?_ : Wp 110 (17, [(4, .inl (nI 0)), (3, .inl (m 37 0)), (2, .inl (nI 0)), (0, .inr 30), (1, .inl (nI k))], [], m) _)
        rw [d0]
        refine sgM_no hk ha0 (i := 0) (by decide) hb0 b0 d0 D0 ?_
        repeat' first
          | refine g_st 110 17 rfl rfl rfl ?_
          | refine g_no 110 17 rfl rfl rfl (nI_in (by decide) (by decide)) ?_
        refine (?_ : Wp 110 (17, [(4, .inl (nI 0)), (3, .inl (m 37 1)), (2, .inl (nI 1)), (0, .inr 30), (1, .inl (nI k))], [], m) _)
        rw [d1]
        exact sgM_yes hk (i := 1) (by decide) hb1 b1 d1 D1 rfl
    · skip
      by_cases D2 : k2 = k ∧ n2 + mG m (2 + 2) 10 < 30
      · obtain ⟨e, D2⟩ := D2
        rw [e] at a2 b2
        refine ⟨2 + 2, by decide, by decide, ?_, ?_⟩
        · -- the class
          refine w_fin ?_
          repeat' refine g_st 60 11 rfl rfl rfl ?_
          refine sgC_no hR hk ha0 (i := 0) (by decide) hb0 a0 c0 D0 ?_
          repeat' refine g_st 60 11 rfl rfl rfl ?_
          refine sgC_no hR hk ha1 (i := 1) (by decide) hb1 a1 c1 D1 ?_
          repeat' refine g_st 60 11 rfl rfl rfl ?_
          exact sgC_yes hR hk (i := 2) (by decide) hb2 a2 c2 D2 rfl
        · -- the reference
          refine w_fin ?_
          repeat' first
            | refine g_st 110 17 rfl rfl rfl ?_
            | refine g_no 110 17 rfl rfl rfl (nI_in (by decide) (by decide)) ?_
          refine (?_ : Wp 110 (17, [(4, .inl (nI 0)), (3, .inl (m 37 0)), (2, .inl (nI 0)), (0, .inr 30), (1, .inl (nI k))], [], m) _)
          rw [d0]
          refine sgM_no hk ha0 (i := 0) (by decide) hb0 b0 d0 D0 ?_
          repeat' first
            | refine g_st 110 17 rfl rfl rfl ?_
            | refine g_no 110 17 rfl rfl rfl (nI_in (by decide) (by decide)) ?_
          refine (?_ : Wp 110 (17, [(4, .inl (nI 0)), (3, .inl (m 37 1)), (2, .inl (nI 1)), (0, .inr 30), (1, .inl (nI k))], [], m) _)
          rw [d1]
          refine sgM_no hk ha1 (i := 1) (by decide) hb1 b1 d1 D1 ?_
          repeat' first
            | refine g_st 110 17 rfl rfl rfl ?_
            | refine g_no 110 17 rfl rfl rfl (nI_in (by decide) (by decide)) ?_
          refine (?_ : Wp 110 (17, [(4, .inl (nI 0)), (3, .inl (m 37 2)), (2, .inl (nI 2)), (0, .inr 30), (1, .inl (nI k))], [], m) _)
          rw [d2]
          exact sgM_yes hk (i := 2) (by decide) hb2 b2 d2 D2 rfl
      · skip
        by_cases D3 : k3 = k ∧ n3 + mG m (2 + 3) 10 < 30
        · obtain ⟨e, D3⟩ := D3
          rw [e] at a3 b3
          refine ⟨2 + 3, by decide, by decide, ?_, ?_⟩
          · -- the class
            refine w_fin ?_
            repeat' refine g_st 60 11 rfl rfl rfl ?_
            refine sgC_no hR hk ha0 (i := 0) (by decide) hb0 a0 c0 D0 ?_
            repeat' refine g_st 60 11 rfl rfl rfl ?_
            refine sgC_no hR hk ha1 (i := 1) (by decide) hb1 a1 c1 D1 ?_
            repeat' refine g_st 60 11 rfl rfl rfl ?_
            refine sgC_no hR hk ha2 (i := 2) (by decide) hb2 a2 c2 D2 ?_
            repeat' refine g_st 60 11 rfl rfl rfl ?_
            exact sgC_yes hR hk (i := 3) (by decide) hb3 a3 c3 D3 rfl
          · -- the reference
            refine w_fin ?_
            repeat' first
              | refine g_st 110 17 rfl rfl rfl ?_
              | refine g_no 110 17 rfl rfl rfl (nI_in (by decide) (by decide)) ?_
            refine (?_ : Wp 110 (17, [(4, .inl (nI 0)), (3, .inl (m 37 0)), (2, .inl (nI 0)), (0, .inr 30), (1, .inl (nI k))], [], m) _)
            rw [d0]
            refine sgM_no hk ha0 (i := 0) (by decide) hb0 b0 d0 D0 ?_
            repeat' first
              | refine g_st 110 17 rfl rfl rfl ?_
              | refine g_no 110 17 rfl rfl rfl (nI_in (by decide) (by decide)) ?_
            refine (?_ : Wp 110 (17, [(4, .inl (nI 0)), (3, .inl (m 37 1)), (2, .inl (nI 1)), (0, .inr 30), (1, .inl (nI k))], [], m) _)
            rw [d1]
            refine sgM_no hk ha1 (i := 1) (by decide) hb1 b1 d1 D1 ?_
            repeat' first
              | refine g_st 110 17 rfl rfl rfl ?_
              | refine g_no 110 17 rfl rfl rfl (nI_in (by decide) (by decide)) ?_
            refine (?_ : Wp 110 (17, [(4, .inl (nI 0)), (3, .inl (m 37 2)), (2, .inl (nI 2)), (0, .inr 30), (1, .inl (nI k))], [], m) _)
            rw [d2]
            refine sgM_no hk ha2 (i := 2) (by decide) hb2 b2 d2 D2 ?_
            repeat' first
              | refine g_st 110 17 rfl rfl rfl ?_
              | refine g_no 110 17 rfl rfl rfl (nI_in (by decide) (by decide)) ?_
            refine (?_ : Wp 110 (17, [(4, .inl (nI 0)), (3, .inl (m 37 3)), (2, .inl (nI 3)), (0, .inr 30), (1, .inl (nI k))], [], m) _)
            rw [d3]
            exact sgM_yes hk (i := 3) (by decide) hb3 b3 d3 D3 rfl
        · skip
          refine ⟨7, by decide, by decide, ?_, ?_⟩
          · -- the class
            refine w_fin ?_
            repeat' refine g_st 60 11 rfl rfl rfl ?_
            refine sgC_no hR hk ha0 (i := 0) (by decide) hb0 a0 c0 D0 ?_
            repeat' refine g_st 60 11 rfl rfl rfl ?_
            refine sgC_no hR hk ha1 (i := 1) (by decide) hb1 a1 c1 D1 ?_
            repeat' refine g_st 60 11 rfl rfl rfl ?_
            refine sgC_no hR hk ha2 (i := 2) (by decide) hb2 a2 c2 D2 ?_
            repeat' refine g_st 60 11 rfl rfl rfl ?_
            refine sgC_no hR hk ha3 (i := 3) (by decide) hb3 a3 c3 D3 ?_
            repeat' first
              | refine w_st rfl rfl ?_
              | refine w_end rfl rfl ?_
            rfl
          · -- the reference
            refine w_fin ?_
            repeat' first
              | refine g_st 110 17 rfl rfl rfl ?_
              | refine g_no 110 17 rfl rfl rfl (nI_in (by decide) (by decide)) ?_
            refine (?_ : Wp 110 (17, [(4, .inl (nI 0)), (3, .inl (m 37 0)), (2, .inl (nI 0)), (0, .inr 30), (1, .inl (nI k))], [], m) _)
            rw [d0]
            refine sgM_no hk ha0 (i := 0) (by decide) hb0 b0 d0 D0 ?_
            repeat' first
              | refine g_st 110 17 rfl rfl rfl ?_
              | refine g_no 110 17 rfl rfl rfl (nI_in (by decide) (by decide)) ?_
            refine (?_ : Wp 110 (17, [(4, .inl (nI 0)), (3, .inl (m 37 1)), (2, .inl (nI 1)), (0, .inr 30), (1, .inl (nI k))], [], m) _)
            rw [d1]
            refine sgM_no hk ha1 (i := 1) (by decide) hb1 b1 d1 D1 ?_
            repeat' first
              | refine g_st 110 17 rfl rfl rfl ?_
              | refine g_no 110 17 rfl rfl rfl (nI_in (by decide) (by decide)) ?_
            refine (?_ : Wp 110 (17, [(4, .inl (nI 0)), (3, .inl (m 37 2)), (2, .inl (nI 2)), (0, .inr 30), (1, .inl (nI k))], [], m) _)
            rw [d2]
            refine sgM_no hk ha2 (i := 2) (by decide) hb2 b2 d2 D2 ?_
            repeat' first
              | refine g_st 110 17 rfl rfl rfl ?_
              | refine g_no 110 17 rfl rfl rfl (nI_in (by decide) (by decide)) ?_
            refine (?_ : Wp 110 (17, [(4, .inl (nI 0)), (3, .inl (m 37 3)), (2, .inl (nI 3)), (0, .inr 30), (1, .inl (nI k))], [], m) _)
            rw [d3]
            refine sgM_no hk ha3 (i := 3) (by decide) hb3 b3 d3 D3 ?_
            repeat' first
              | refine w_st rfl rfl ?_
              | refine w_end rfl rfl ?_
            rfl
