/-! THE REFERENCE'S EXHAUSTIVE SEARCH three COMES TO THE GREEDY ANSWER (written by wip/whole/g61.py). -/
theorem greedy {H1 H2 H3 r c d e t3 t2 t1 : Nat} (h3 : t3 = min H3 (r / 4)) (h2 : t2 = min H2 ((r - 4 * t3) / 2)) (h1 : t1 = r - 4 * t3 - 2 * t2) (hc : c ≤ H3) (hd : d ≤ H2) (he : e ≤ H1) (h : 4 * c + 2 * d + e = r) : t1 ≤ H1 ∧ t3 + t2 + t1 ≤ c + d + e := by omega
/-- what inStores answers, on this heap -/
def inS (h : HP) (H : Nat → Nat) : Prop := ∀ k, 1 ≤ k → k ≤ 5 → Ec 101 [.inr 30, .inl (nI k)] h (.inl (some (nI (H k))), h)
section THREE
variable {a b r H2 H3 mo cc B : Nat} {H : Nat → Nat} {h : HP} {F : PO → Prop}
theorem t_1 (ha : a ≤ 120) (hb : b ≤ 120) (hr : r ≤ 400) (hH : ∀ k, 1 ≤ k → k ≤ 5 → H k ≤ 120) (hB : B ≤ 21) (hS : inS h H) (h24 : h 30 24 = nI B) (hmo : mo ≤ 400) (hcc : cc ≤ 120) {d : Nat} (hd : 2 * d ≤ mo) (hn : ¬ (mo - 2 * d ≤ H 1 ∧ a + b + cc + d + (mo - 2 * d) < B)) (K : ∀ v, Wp 102 (75, [(8, .inl (nI d + Int32.ofInt (-1))), (9, .inl v), (7, .inl (nI mo)), (6, .inl (nI cc)), (5, .inl (nI H2)), (4, .inl (nI H3)), (0, .inr 30), (1, .inl (nI a)), (2, .inl (nI b)), (3, .inl (nI r))], [], h) F) : Wp 102 (75, [(8, .inl (nI d)), (7, .inl (nI mo)), (6, .inl (nI cc)), (5, .inl (nI H2)), (4, .inl (nI H3)), (0, .inr 30), (1, .inl (nI a)), (2, .inl (nI b)), (3, .inl (nI r))], [], h) F := by
  have i1 := hS 1 (by decide) (by decide)
  have hH1 := hH 1 (by decide) (by decide)
  have ed : nI mo - nI 2 * nI d = nI (mo - 2 * d) := by rw [pk_mul, pk_sub hd]
  have l0 : (nI d < nI 0) = False := eq_false (fun z => by rw [nI_ltI (by omega) (by omega)] at z; omega)
  refine w_st rfl rfl ?_
  refine w_br rfl rfl (fun z => absurd z (of_eq_false l0)) (fun _ => ?_)
  by_cases h1 : mo - 2 * d ≤ H 1
  · have h2 : ¬ a + b + cc + d + (mo - 2 * d) < B := fun z => hn ⟨h1, z⟩
    repeat' first
      | refine g_st 102 75 rfl rfl rfl ?_
      | refine w_ca rfl rfl i1 ?_
      | refine g_no 102 75 rfl rfl rfl ?_ ?_
      | (refine g_br 102 75 rfl rfl rfl (fun z => ?_) (fun z => ?_) <;> try (first | (simp (disch := omega) only [ed, h24, nI_add, kc, nI_clamp, nI_eq, nI_ltI, nI_leI, nI_m1, hu_o, hu_k, hu_same, not_true_eq_false, not_false_eq_true] at z; first | done | omega)))
      | refine w_in rfl rfl ?_
      | refine w_end rfl rfl ?_
      | refine w_endY rfl rfl ?_ ?_
      | refine w_up ?_
    all_goals exact K _
  · skip
    repeat' first
      | refine g_st 102 75 rfl rfl rfl ?_
      | refine w_ca rfl rfl i1 ?_
      | refine g_no 102 75 rfl rfl rfl ?_ ?_
      | (refine g_br 102 75 rfl rfl rfl (fun z => ?_) (fun z => ?_) <;> try (first | (simp (disch := omega) only [ed, h24, nI_add, kc, nI_clamp, nI_eq, nI_ltI, nI_leI, nI_m1, hu_o, hu_k, hu_same, not_true_eq_false, not_false_eq_true] at z; first | done | omega)))
      | refine w_in rfl rfl ?_
      | refine w_end rfl rfl ?_
      | refine w_endY rfl rfl ?_ ?_
      | refine w_up ?_
    all_goals exact K _
theorem t_2 (v : Int32) (ha : a ≤ 120) (hb : b ≤ 120) (hr : r ≤ 400) (hH : ∀ k, 1 ≤ k → k ≤ 5 → H k ≤ 120) (hB : B ≤ 21) (hS : inS h H) (h24 : h 30 24 = nI B) (hmo : mo ≤ 400) (hcc : cc ≤ 120) {d : Nat} (hd : 2 * d ≤ mo) (hn : ¬ (mo - 2 * d ≤ H 1 ∧ a + b + cc + d + (mo - 2 * d) < B)) (K : ∀ v, Wp 102 (75, [(8, .inl (nI d + Int32.ofInt (-1))), (9, .inl v), (7, .inl (nI mo)), (6, .inl (nI cc)), (5, .inl (nI H2)), (4, .inl (nI H3)), (0, .inr 30), (1, .inl (nI a)), (2, .inl (nI b)), (3, .inl (nI r))], [], h) F) : Wp 102 (75, [(8, .inl (nI d)), (9, .inl v), (7, .inl (nI mo)), (6, .inl (nI cc)), (5, .inl (nI H2)), (4, .inl (nI H3)), (0, .inr 30), (1, .inl (nI a)), (2, .inl (nI b)), (3, .inl (nI r))], [], h) F := by
  have i1 := hS 1 (by decide) (by decide)
  have hH1 := hH 1 (by decide) (by decide)
  have ed : nI mo - nI 2 * nI d = nI (mo - 2 * d) := by rw [pk_mul, pk_sub hd]
  have l0 : (nI d < nI 0) = False := eq_false (fun z => by rw [nI_ltI (by omega) (by omega)] at z; omega)
  refine w_st rfl rfl ?_
  refine w_br rfl rfl (fun z => absurd z (of_eq_false l0)) (fun _ => ?_)
  by_cases h1 : mo - 2 * d ≤ H 1
  · have h2 : ¬ a + b + cc + d + (mo - 2 * d) < B := fun z => hn ⟨h1, z⟩
    repeat' first
      | refine g_st 102 75 rfl rfl rfl ?_
      | refine w_ca rfl rfl i1 ?_
      | refine g_no 102 75 rfl rfl rfl ?_ ?_
      | (refine g_br 102 75 rfl rfl rfl (fun z => ?_) (fun z => ?_) <;> try (first | (simp (disch := omega) only [ed, h24, nI_add, kc, nI_clamp, nI_eq, nI_ltI, nI_leI, nI_m1, hu_o, hu_k, hu_same, not_true_eq_false, not_false_eq_true] at z; first | done | omega)))
      | refine w_in rfl rfl ?_
      | refine w_end rfl rfl ?_
      | refine w_endY rfl rfl ?_ ?_
      | refine w_up ?_
    all_goals exact K _
  · skip
    repeat' first
      | refine g_st 102 75 rfl rfl rfl ?_
      | refine w_ca rfl rfl i1 ?_
      | refine g_no 102 75 rfl rfl rfl ?_ ?_
      | (refine g_br 102 75 rfl rfl rfl (fun z => ?_) (fun z => ?_) <;> try (first | (simp (disch := omega) only [ed, h24, nI_add, kc, nI_clamp, nI_eq, nI_ltI, nI_leI, nI_m1, hu_o, hu_k, hu_same, not_true_eq_false, not_false_eq_true] at z; first | done | omega)))
      | refine w_in rfl rfl ?_
      | refine w_end rfl rfl ?_
      | refine w_endY rfl rfl ?_ ?_
      | refine w_up ?_
    all_goals exact K _
theorem t_3 (v : Int32) (ha : a ≤ 120) (hb : b ≤ 120) (hr : r ≤ 400) (hH : ∀ k, 1 ≤ k → k ≤ 5 → H k ≤ 120) (hB : B ≤ 21) (hS : inS h H) (h24 : h 30 24 = nI B) (hmo : mo ≤ 400) (hcc : cc ≤ 120) {d : Nat} (hd : 2 * d ≤ mo) (hn : ¬ (mo - 2 * d ≤ H 1 ∧ a + b + cc + d + (mo - 2 * d) < B)) (K : ∀ v, Wp 102 (75, [(8, .inl (nI d + Int32.ofInt (-1))), (9, .inl v), (7, .inl (nI mo)), (6, .inl (nI cc)), (5, .inl (nI H2)), (4, .inl (nI H3)), (0, .inr 30), (1, .inl (nI a)), (2, .inl (nI b)), (3, .inl (nI r))], [], h) F) : Wp 102 (75, [(8, .inl (nI d)), (7, .inl (nI mo)), (6, .inl (nI cc)), (9, .inl v), (5, .inl (nI H2)), (4, .inl (nI H3)), (0, .inr 30), (1, .inl (nI a)), (2, .inl (nI b)), (3, .inl (nI r))], [], h) F := by
  have i1 := hS 1 (by decide) (by decide)
  have hH1 := hH 1 (by decide) (by decide)
  have ed : nI mo - nI 2 * nI d = nI (mo - 2 * d) := by rw [pk_mul, pk_sub hd]
  have l0 : (nI d < nI 0) = False := eq_false (fun z => by rw [nI_ltI (by omega) (by omega)] at z; omega)
  refine w_st rfl rfl ?_
  refine w_br rfl rfl (fun z => absurd z (of_eq_false l0)) (fun _ => ?_)
  by_cases h1 : mo - 2 * d ≤ H 1
  · have h2 : ¬ a + b + cc + d + (mo - 2 * d) < B := fun z => hn ⟨h1, z⟩
    repeat' first
      | refine g_st 102 75 rfl rfl rfl ?_
      | refine w_ca rfl rfl i1 ?_
      | refine g_no 102 75 rfl rfl rfl ?_ ?_
      | (refine g_br 102 75 rfl rfl rfl (fun z => ?_) (fun z => ?_) <;> try (first | (simp (disch := omega) only [ed, h24, nI_add, kc, nI_clamp, nI_eq, nI_ltI, nI_leI, nI_m1, hu_o, hu_k, hu_same, not_true_eq_false, not_false_eq_true] at z; first | done | omega)))
      | refine w_in rfl rfl ?_
      | refine w_end rfl rfl ?_
      | refine w_endY rfl rfl ?_ ?_
      | refine w_up ?_
    all_goals exact K _
  · skip
    repeat' first
      | refine g_st 102 75 rfl rfl rfl ?_
      | refine w_ca rfl rfl i1 ?_
      | refine g_no 102 75 rfl rfl rfl ?_ ?_
      | (refine g_br 102 75 rfl rfl rfl (fun z => ?_) (fun z => ?_) <;> try (first | (simp (disch := omega) only [ed, h24, nI_add, kc, nI_clamp, nI_eq, nI_ltI, nI_leI, nI_m1, hu_o, hu_k, hu_same, not_true_eq_false, not_false_eq_true] at z; first | done | omega)))
      | refine w_in rfl rfl ?_
      | refine w_end rfl rfl ?_
      | refine w_endY rfl rfl ?_ ?_
      | refine w_up ?_
    all_goals exact K _
/-- the inner loop without an update -/
theorem t_loop (ha : a ≤ 120) (hb : b ≤ 120) (hr : r ≤ 400) (hH : ∀ k, 1 ≤ k → k ≤ 5 → H k ≤ 120) (hB : B ≤ 21) (hS : inS h H) (h24 : h 30 24 = nI B) (hmo : mo ≤ 400) (hcc : cc ≤ 120) : ∀ d, 2 * d ≤ mo → (∀ d', d' ≤ d → ¬ (mo - 2 * d' ≤ H 1 ∧ a + b + cc + d' + (mo - 2 * d') < B)) → (∀ v8 v9, Wp 102 (181, [(8, .inl (v8)), (9, .inl v9), (7, .inl (nI mo)), (6, .inl (nI cc)), (5, .inl (nI H2)), (4, .inl (nI H3)), (0, .inr 30), (1, .inl (nI a)), (2, .inl (nI b)), (3, .inl (nI r))], [], h) F) → ∀ v, Wp 102 (75, [(8, .inl (nI d)), (9, .inl v), (7, .inl (nI mo)), (6, .inl (nI cc)), (5, .inl (nI H2)), (4, .inl (nI H3)), (0, .inr 30), (1, .inl (nI a)), (2, .inl (nI b)), (3, .inl (nI r))], [], h) F := by
  intro d
  induction d with
  | zero =>
    intro hd hn K v
    refine t_2 v ha hb hr hH hB hS h24 hmo hcc hd (hn 0 (Nat.le_refl _)) (fun v => ?_)
    refine w_st rfl rfl ?_
    refine w_st rfl rfl ?_
    exact K _ _
  | succ d ih =>
    intro hd hn K v
    refine t_2 v ha hb hr hH hB hS h24 hmo hcc hd (hn _ (Nat.le_refl _)) (fun v => ?_)
    have e : nI (d + 1) + Int32.ofInt (-1) = nI d := nI_dec d
    rw [e]
    exact ih (by omega) (fun d' h' => hn d' (by omega)) K v
theorem t_all1 (ha : a ≤ 120) (hb : b ≤ 120) (hr : r ≤ 400) (hH : ∀ k, 1 ≤ k → k ≤ 5 → H k ≤ 120) (hB : B ≤ 21) (hS : inS h H) (h24 : h 30 24 = nI B) (hmo : mo ≤ 400) (hcc : cc ≤ 120) {d : Nat} (hd : 2 * d ≤ mo) (hn : ∀ d', d' ≤ d → ¬ (mo - 2 * d' ≤ H 1 ∧ a + b + cc + d' + (mo - 2 * d') < B)) (K : ∀ v8 v9, Wp 102 (181, [(8, .inl (v8)), (9, .inl v9), (7, .inl (nI mo)), (6, .inl (nI cc)), (5, .inl (nI H2)), (4, .inl (nI H3)), (0, .inr 30), (1, .inl (nI a)), (2, .inl (nI b)), (3, .inl (nI r))], [], h) F) : Wp 102 (75, [(8, .inl (nI d)), (7, .inl (nI mo)), (6, .inl (nI cc)), (5, .inl (nI H2)), (4, .inl (nI H3)), (0, .inr 30), (1, .inl (nI a)), (2, .inl (nI b)), (3, .inl (nI r))], [], h) F := by
  refine t_1 ha hb hr hH hB hS h24 hmo hcc hd (hn d (Nat.le_refl _)) (fun v => ?_)
  rcases (show d = 0 ∨ ∃ d', d = d' + 1 from by cases d; exact Or.inl rfl; exact Or.inr ⟨_, rfl⟩) with rfl | ⟨d', rfl⟩
  · refine w_st rfl rfl ?_
    refine w_st rfl rfl ?_
    exact K _ _
  · have e : nI (d' + 1) + Int32.ofInt (-1) = nI d' := nI_dec d'
    rw [e]
    exact t_loop ha hb hr hH hB hS h24 hmo hcc d' (by omega) (fun d2 h2 => hn d2 (by omega)) K v
theorem t_all3 (v : Int32) (ha : a ≤ 120) (hb : b ≤ 120) (hr : r ≤ 400) (hH : ∀ k, 1 ≤ k → k ≤ 5 → H k ≤ 120) (hB : B ≤ 21) (hS : inS h H) (h24 : h 30 24 = nI B) (hmo : mo ≤ 400) (hcc : cc ≤ 120) {d : Nat} (hd : 2 * d ≤ mo) (hn : ∀ d', d' ≤ d → ¬ (mo - 2 * d' ≤ H 1 ∧ a + b + cc + d' + (mo - 2 * d') < B)) (K : ∀ v8 v9, Wp 102 (181, [(8, .inl (v8)), (9, .inl v9), (7, .inl (nI mo)), (6, .inl (nI cc)), (5, .inl (nI H2)), (4, .inl (nI H3)), (0, .inr 30), (1, .inl (nI a)), (2, .inl (nI b)), (3, .inl (nI r))], [], h) F) : Wp 102 (75, [(8, .inl (nI d)), (7, .inl (nI mo)), (6, .inl (nI cc)), (9, .inl v), (5, .inl (nI H2)), (4, .inl (nI H3)), (0, .inr 30), (1, .inl (nI a)), (2, .inl (nI b)), (3, .inl (nI r))], [], h) F := by
  refine t_3 v ha hb hr hH hB hS h24 hmo hcc hd (hn d (Nat.le_refl _)) (fun v => ?_)
  rcases (show d = 0 ∨ ∃ d', d = d' + 1 from by cases d; exact Or.inl rfl; exact Or.inr ⟨_, rfl⟩) with rfl | ⟨d', rfl⟩
  · refine w_st rfl rfl ?_
    refine w_st rfl rfl ?_
    exact K _ _
  · have e : nI (d' + 1) + Int32.ofInt (-1) = nI d' := nI_dec d'
    rw [e]
    exact t_loop ha hb hr hH hB hS h24 hmo hcc d' (by omega) (fun d2 h2 => hn d2 (by omega)) K v
/-- the outer loop without an update -/
theorem t_out (ha : a ≤ 120) (hb : b ≤ 120) (hr : r ≤ 400) (hH : ∀ k, 1 ≤ k → k ≤ 5 → H k ≤ 120) (hB : B ≤ 21) (hS : inS h H) (h24 : h 30 24 = nI B) (hH2 : H2 = H 2) (K : F (.inl none, h)) : ∀ cc, cc ≤ 120 → 4 * cc ≤ r → (∀ c' d', c' ≤ cc → d' ≤ H2 → 2 * d' ≤ r - 4 * c' → ¬ (r - 4 * c' - 2 * d' ≤ H 1 ∧ a + b + c' + d' + (r - 4 * c' - 2 * d') < B)) → ∀ v7 v8 v9, Wp 102 (32, [(6, .inl (nI cc)), (8, .inl v8), (9, .inl v9), (7, .inl v7), (5, .inl (nI H2)), (4, .inl (nI H3)), (0, .inr 30), (1, .inl (nI a)), (2, .inl (nI b)), (3, .inl (nI r))], [], h) F := by
  intro cc
  have hH2' := hH 2 (by decide) (by decide)
  have step : ∀ cc, cc ≤ 120 → 4 * cc ≤ r → (∀ d', d' ≤ H2 → 2 * d' ≤ r - 4 * cc → ¬ (r - 4 * cc - 2 * d' ≤ H 1 ∧ a + b + cc + d' + (r - 4 * cc - 2 * d') < B)) → (∀ v7 v8 v9, Wp 102 (32, [(6, .inl (nI cc + Int32.ofInt (-1))), (8, .inl v8), (9, .inl v9), (7, .inl v7), (5, .inl (nI H2)), (4, .inl (nI H3)), (0, .inr 30), (1, .inl (nI a)), (2, .inl (nI b)), (3, .inl (nI r))], [], h) F) → ∀ v7 v8 v9, Wp 102 (32, [(6, .inl (nI cc)), (8, .inl v8), (9, .inl v9), (7, .inl v7), (5, .inl (nI H2)), (4, .inl (nI H3)), (0, .inr 30), (1, .inl (nI a)), (2, .inl (nI b)), (3, .inl (nI r))], [], h) F := by
    intro cc hcc h4 hn KK v7 v8 v9
    have l0 : (nI cc < nI 0) = False := eq_false (fun z => by rw [nI_ltI (by omega) (by omega)] at z; omega)
    have em : nI r - nI 4 * nI cc = nI (r - 4 * cc) := by rw [pk_mul, pk_sub h4]
    refine w_st rfl rfl ?_
    refine w_br rfl rfl (fun z => absurd z (of_eq_false l0)) (fun _ => ?_)
    by_cases hab : a + b < B
    · have key : ∀ d, d = min H2 ((r - 4 * cc) / 2) → Wp 102 (75, [(8, .inl (nI d)), (7, .inl (nI (r - 4 * cc))), (6, .inl (nI cc)), (9, .inl v9), (5, .inl (nI H2)), (4, .inl (nI H3)), (0, .inr 30), (1, .inl (nI a)), (2, .inl (nI b)), (3, .inl (nI r))], [], h) F := fun d hd => by
        refine t_all3 (mo := r - 4 * cc) v9 ha hb hr hH hB hS h24 (by omega) hcc (by omega) (fun d' h' => hn d' (by omega) (by omega)) (fun v8' v9' => ?_)
        repeat' refine g_st 102 32 rfl rfl rfl ?_
        exact KK _ _ _
      refine w_st rfl rfl ?_
      refine w_st rfl rfl ?_
      refine w_st rfl rfl ?_
      refine w_st rfl rfl ?_
      refine w_st rfl rfl ?_
      refine w_br rfl rfl (fun z => ?_) (fun _ => ?_)
      · exfalso
        simp (disch := omega) only [h24, nI_add, nI_leI] at z
        omega
      repeat' refine w_st rfl rfl ?_
      refine w_br rfl rfl (fun z => ?_) (fun z => ?_)
      · simp (disch := omega) only [kc, em, pk_div, nI_leI] at z
        have k1 := key ((r - 4 * cc) / 2) (by omega)
        repeat' refine g_st 102 75 rfl rfl rfl ?_
        simp (disch := omega) only [kc, em, pk_div]
        exact k1
      · simp (disch := omega) only [kc, em, pk_div, nI_leI] at z
        have k1 := key H2 (by omega)
        repeat' refine g_st 102 75 rfl rfl rfl ?_
        simp (disch := omega) only [kc, em, pk_div]
        exact k1
    · refine w_st rfl rfl ?_
      refine w_st rfl rfl ?_
      refine w_st rfl rfl ?_
      refine w_st rfl rfl ?_
      refine w_st rfl rfl ?_
      refine w_br rfl rfl (fun z => ?_) (fun z => ?_)
      · exact w_end rfl rfl K
      · exfalso
        simp (disch := omega) only [h24, nI_add, nI_leI] at z
        omega
  induction cc with
  | zero =>
    intro hcc h4 hn
    refine step 0 hcc h4 (fun d' h1 h2 => hn 0 d' (Nat.le_refl _) h1 h2) (fun v7 v8 v9 => ?_)
    refine w_st rfl rfl ?_
    refine w_st rfl rfl ?_
    exact w_end rfl rfl K
  | succ cc ih =>
    intro hcc h4 hn
    refine step (cc + 1) hcc h4 (fun d' h1 h2 => hn (cc + 1) d' (Nat.le_refl _) h1 h2) ?_
    have e : nI (cc + 1) + Int32.ofInt (-1) = nI cc := nI_dec cc
    rw [e]
    exact ih (by omega) (by omega) (fun c' d' h0 h1 h2 => hn c' d' (by omega) h1 h2)
/-- the reference's heap with a plan of kinds 5 .. 1 -/
def mU (m : HP) (a b t3 t2 t1 S : Nat) : HP := hu (hu (hu (hu (hu (hu m 30 24 (nI S)) 46 5 (nI a)) 46 4 (nI b)) 46 3 (nI t3)) 46 2 (nI t2)) 46 1 (nI t1)
set_option maxHeartbeats 2000000 in
theorem three {t3 t2 t1 : Nat} (ha : a ≤ 120) (hb : b ≤ 120) (hr : r ≤ 400) (hH : ∀ k, 1 ≤ k → k ≤ 5 → H k ≤ 120) (hB : B ≤ 21) (hS : inS h H) (hS' : inS (mU h a b t3 t2 t1 (a + b + t3 + t2 + t1)) H) (h24 : h 30 24 = nI B) (h3 : t3 = min (H 3) (r / 4)) (h2 : t2 = min (H 2) ((r - 4 * t3) / 2)) (h1 : t1 = r - 4 * t3 - 2 * t2) : Ec 102 [.inr 30, .inl (nI a), .inl (nI b), .inl (nI r)] h (.inl none, if t1 ≤ H 1 ∧ a + b + t3 + t2 + t1 < B then mU h a b t3 t2 t1 (a + b + t3 + t2 + t1) else h) := by
  have i3 := hS 3 (by decide) (by decide)
  have i2 := hS 2 (by decide) (by decide)
  have i1 := hS 1 (by decide) (by decide)
  have q3 := hH 3 (by decide) (by decide)
  have q2 := hH 2 (by decide) (by decide)
  have q1 := hH 1 (by decide) (by decide)
  have em : nI r - nI 4 * nI t3 = nI (r - 4 * t3) := by rw [pk_mul, pk_sub (by omega)]
  have ee : nI (r - 4 * t3) - nI 2 * nI t2 = nI t1 := by rw [pk_mul, pk_sub (by omega), h1]
  have l3 : (nI t3 < nI 0) = False := eq_false (fun z => by rw [nI_ltI (by omega) (by omega)] at z; omega)
  have l2 : (nI t2 < nI 0) = False := eq_false (fun z => by rw [nI_ltI (by omega) (by omega)] at z; omega)
  -- from the outer head, first time
  have main : ∀ r', r' = (.inl none, if t1 ≤ H 1 ∧ a + b + t3 + t2 + t1 < B then mU h a b t3 t2 t1 (a + b + t3 + t2 + t1) else h) → Wp 102 (32, [(6, .inl (nI t3)), (5, .inl (nI (H 2))), (4, .inl (nI (H 3))), (0, .inr 30), (1, .inl (nI a)), (2, .inl (nI b)), (3, .inl (nI r))], [], h) (fun z => z = r') := by
    intro r' hr'
    -- behind the inner loop of the first round
    have rest : ∀ (g : HP) (B' : Nat), r' = (.inl none, g) → inS g H → g 30 24 = nI B' → B' ≤ 21 → (∀ c' d', c' ≤ t3 → d' ≤ H 2 → 2 * d' ≤ r - 4 * c' → ¬ (r - 4 * c' - 2 * d' ≤ H 1 ∧ a + b + c' + d' + (r - 4 * c' - 2 * d') < B')) → ∀ v8 v9, Wp 102 (181, [(8, .inl v8), (9, .inl v9), (7, .inl (nI (r - 4 * t3))), (6, .inl (nI t3)), (5, .inl (nI (H 2))), (4, .inl (nI (H 3))), (0, .inr 30), (1, .inl (nI a)), (2, .inl (nI b)), (3, .inl (nI r))], [], g) (fun z => z = r') := by
      intro g B' hg hSg hg24 hB' hn v8 v9
      refine w_st rfl rfl ?_
      refine w_st rfl rfl ?_
      rcases (show t3 = 0 ∨ ∃ c', t3 = c' + 1 from by cases t3; exact Or.inl rfl; exact Or.inr ⟨_, rfl⟩) with e0 | ⟨c', e0⟩
      · rw [e0]
        refine w_st rfl rfl ?_
        refine w_st rfl rfl ?_
        exact w_end rfl rfl hg.symm
      · have e : nI t3 + Int32.ofInt (-1) = nI c' := by rw [e0]; exact nI_dec c'
        rw [e]
        exact t_out (B := B') ha hb hr hH hB' hSg hg24 rfl hg.symm c' (by omega) (by omega) (fun c2 d2 z0 z1 z2 => hn c2 d2 (by omega) z1 z2) _ _ _
    refine w_st rfl rfl ?_
    refine w_br rfl rfl (fun z => absurd z (of_eq_false l3)) (fun _ => ?_)
    refine w_st rfl rfl ?_
    refine w_st rfl rfl ?_
    refine w_st rfl rfl ?_
    refine w_st rfl rfl ?_
    refine w_st rfl rfl ?_
    by_cases hab : a + b < B
    · refine w_br rfl rfl (fun z => ?_) (fun _ => ?_)
      · exfalso
        simp (disch := omega) only [h24, nI_add, nI_leI] at z
        omega
      have key : Wp 102 (75, [(8, .inl (nI t2)), (7, .inl (nI (r - 4 * t3))), (6, .inl (nI t3)), (5, .inl (nI (H 2))), (4, .inl (nI (H 3))), (0, .inr 30), (1, .inl (nI a)), (2, .inl (nI b)), (3, .inl (nI r))], [], h) (fun z => z = r') := by
        by_cases hU : t1 ≤ H 1 ∧ a + b + t3 + t2 + t1 < B
        · rw [if_pos hU] at hr'
          have nU : ∀ c' d', c' ≤ t3 → d' ≤ H 2 → 2 * d' ≤ r - 4 * c' → ¬ (r - 4 * c' - 2 * d' ≤ H 1 ∧ a + b + c' + d' + (r - 4 * c' - 2 * d') < a + b + t3 + t2 + t1) := fun c' d' z0 z1 z2 z3 => by
            have := (greedy h3 h2 h1 (c := c') (d := d') (e := r - 4 * c' - 2 * d') (by omega) z1 z3.1 (by omega)).2
            omega
          have rs := rest _ (a + b + t3 + t2 + t1) hr' hS' (by simp [mU, hu]) (by omega) nU
          refine w_st rfl rfl ?_
          refine w_br rfl rfl (fun z => absurd z (of_eq_false l2)) (fun _ => ?_)
          repeat' first
            | refine g_st 102 75 rfl rfl rfl ?_
            | refine w_ca rfl rfl i1 ?_
            | refine g_no 102 75 rfl rfl rfl ?_ ?_
            | (refine g_br 102 75 rfl rfl rfl (fun z => ?_) (fun z => ?_) <;> try (first | (simp (disch := omega) only [ee, h24, nI_add, kc, nI_clamp, nI_eq, nI_ltI, nI_leI, nI_m1, hu_o, hu_k, hu_same, not_true_eq_false, not_false_eq_true] at z; first | done | omega)))
            | refine w_in rfl rfl ?_
            | refine w_end rfl rfl ?_
            | refine w_endY rfl rfl ?_ ?_
            | refine w_up ?_
          simp (disch := omega) only [kc, ee, nI_add]
          rcases (show t2 = 0 ∨ ∃ d', t2 = d' + 1 from by cases t2; exact Or.inl rfl; exact Or.inr ⟨_, rfl⟩) with e0 | ⟨d', e0⟩
          · have e : nI t2 + -1 = -1 := by rw [e0]; decide
            rw [e]
            refine w_st rfl rfl ?_
            refine w_st rfl rfl ?_
            exact rs _ _
          · have e : nI t2 + -1 = nI d' := by rw [e0]; exact nI_dec d'
            rw [e]
            refine t_loop (B := a + b + t3 + t2 + t1) (h := mU h a b t3 t2 t1 (a + b + t3 + t2 + t1)) ha hb hr hH (by omega) hS' (by simp [mU, hu]) (by omega) (by omega) d' (by omega) (fun d2 z => ?_) rs _
            exact nU t3 d2 (Nat.le_refl _) (by omega) (by omega)
        · rw [if_neg hU] at hr'
          have nU : ∀ c' d', c' ≤ t3 → d' ≤ H 2 → 2 * d' ≤ r - 4 * c' → ¬ (r - 4 * c' - 2 * d' ≤ H 1 ∧ a + b + c' + d' + (r - 4 * c' - 2 * d') < B) := fun c' d' z0 z1 z2 z3 => by
            have := greedy h3 h2 h1 (c := c') (d := d') (e := r - 4 * c' - 2 * d') (by omega) z1 z3.1 (by omega)
            exact hU ⟨this.1, by omega⟩
          refine t_all1 (B := B) ha hb hr hH hB hS h24 (by omega) (by omega) (by omega) (fun d2 z => nU t3 d2 (Nat.le_refl _) (by omega) (by omega)) (rest h B hr' hS h24 hB nU)
      repeat' refine w_st rfl rfl ?_
      refine w_br rfl rfl (fun z => ?_) (fun z => ?_)
      · simp (disch := omega) only [kc, em, pk_div, nI_leI] at z
        repeat' refine g_st 102 75 rfl rfl rfl ?_
        simp (disch := omega) only [kc, em, pk_div]
        rw [show (r - 4 * t3) / 2 = t2 by omega]
        exact key
      · simp (disch := omega) only [kc, em, pk_div, nI_leI] at z
        repeat' refine g_st 102 75 rfl rfl rfl ?_
        simp (disch := omega) only [kc, em, pk_div]
        have e2 : H 2 = t2 := by omega
        rw [e2] at key ⊢
        exact key
    · refine w_br rfl rfl (fun z => ?_) (fun z => ?_)
      · rw [if_neg (by omega)] at hr'
        exact w_end rfl rfl hr'.symm
      · exfalso
        simp (disch := omega) only [h24, nI_add, nI_leI] at z
        omega
  refine w_fin ?_
  refine w_st rfl rfl ?_
  refine w_st rfl rfl ?_
  refine w_ca rfl rfl i3 ?_
  refine w_st rfl rfl ?_
  refine w_st rfl rfl ?_
  refine w_st rfl rfl ?_
  refine w_ca rfl rfl i2 ?_
  repeat' refine w_st rfl rfl ?_
  refine w_br rfl rfl (fun z => ?_) (fun z => ?_)
  · simp (disch := omega) only [kc, pk_div, nI_leI] at z
    repeat' refine g_st 102 32 rfl rfl rfl ?_
    simp (disch := omega) only [kc, pk_div]
    rw [show r / 4 = t3 by omega]
    exact main _ rfl
  · simp (disch := omega) only [kc, pk_div, nI_leI] at z
    have e3 : H 3 = t3 := by omega
    have mm := main _ rfl
    rw [e3] at mm
    repeat' refine g_st 102 32 rfl rfl rfl ?_
    rw [e3]
    exact mm
end THREE
