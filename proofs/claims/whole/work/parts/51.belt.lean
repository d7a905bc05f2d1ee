/-! THE BELT'S PRIMITIVES AND WHAT THEY KEEP (written by wip/whole/g51.py). -/
theorem sm_mono {f g : Nat → Nat} : ∀ {n : Nat}, (∀ i, i < n → f i ≤ g i) → sm f n ≤ sm g n
  | 0, _ => Nat.le_refl _
  | n + 1, h => by
    have h1 := sm_mono (f := f) (g := g) (n := n) (fun i hi => h i (by omega))
    have h2 := h n (by omega)
    simp only [sm]
    omega
theorem nI_dec (n : Nat) : nI (n + 1) + -1 = nI n := by
  have e := nI_pred n
  rw [Int32.sub_eq_add_neg] at e
  exact e
/-- a segment is cleared -/
def cC (c : HP) (s : Nat) : HP := hu (hu (hu (hu c 3 3 (c 3 3 - nI 1)) 4 s (nI 0)) 5 s (-1)) 6 s (nI 0)
/-- a note is put on a free segment -/
def cP (c : HP) (s : Nat) (k g : Int32) : HP := hu (hu (hu c 3 3 (c 3 3 + nI 1)) 4 s k) 5 s g
def mP (m : HP) (s : Nat) (k g : Int32) : HP := hu (hu (hu m 32 s k) 33 s g) 34 s (nI 0)
/-- the relation with judge's goals on the first b segments -/
def r_btb (b : Nat) (c m : HP) : Prop := ∀ s, s < 10 → (r_no c m s ∨ ∃ k g t, k ≤ 5 ∧ g ≤ 8 ∧ t ≤ 1 ∧ (g = 0 → s < b) ∧ r_nt c m s k g t)
def RRb (b : Nat) (c m : HP) : Prop := r_fl c m ∧ r_vd c m ∧ r_btb b c m ∧ r_sz c ∧ r_es c m ∧ r_mg c m ∧ r_bk c m ∧ r_py c m
theorem RRb2 {c m : HP} : RRb 2 c m ↔ RR c m := Iff.rfl
theorem RRb3 {c m : HP} (h : RR c m) : RRb 3 c m := by
  obtain ⟨h1, h2, h3, h4⟩ := h
  refine ⟨h1, h2, fun s hs => ?_, h4⟩
  rcases h3 s hs with h | ⟨k, g, t, q1, q2, q3, q4, q5⟩
  · exact Or.inl h
  · exact Or.inr ⟨k, g, t, q1, q2, q3, fun z => Nat.lt_succ_of_lt (q4 z), q5⟩
theorem btb_at {b : Nat} {c m c' m' : HP} {j : Nat} (h : r_btb b c m) (e : ∀ s, s ≠ j → c' 4 s = c 4 s ∧ c' 5 s = c 5 s ∧ c' 6 s = c 6 s ∧ m' 32 s = m 32 s ∧ m' 33 s = m 33 s ∧ m' 34 s = m 34 s) (hj : r_no c' m' j ∨ ∃ k g t, k ≤ 5 ∧ g ≤ 8 ∧ t ≤ 1 ∧ (g = 0 → j < b) ∧ r_nt c' m' j k g t) : r_btb b c' m' := by
  intro s hs
  by_cases es : s = j
  · subst es
    exact hj
  · obtain ⟨a1, a2, a3, a4, a5, a6⟩ := e s es
    have h0 := h s hs
    simp only [r_no, r_nt, a1, a2, a3, a4, a5, a6] at h0 ⊢
    exact h0
theorem RR_clear {b : Nat} {c m : HP} (hR : RRb b c m) {s k g t : Nat} (hs : s < 10) (hg : g ≤ 8) (ht : t ≤ 1) (hn : r_nt c m s k g t) : RRb b (cC c s) (hu m 32 s (-1)) := by
  obtain ⟨hfl, hvd, hbt, hsz, hes, hmg, hbk, hpy⟩ := hR
  obtain ⟨b1, b2, b3, b4, b5, b6⟩ := hn
  refine ⟨hfl, hvd, btb_at (j := s) hbt (fun s' hs' => by simp [cC, hu, hs']) (Or.inl ?_), ?_, hes, hmg, hbk, hpy⟩
  · refine ⟨by simp [cC, hu], by simp [hu], by simp [cC, hu], ?_⟩
    show m 34 s = _ ∨ m 34 s = _
    rw [b6]
    rcases (show t = 0 ∨ t = 1 by omega) with rfl | rfl
    · exact Or.inl rfl
    · exact Or.inr rfl
  · show c 3 3 - nI 1 = nI (nN _)
    rw [hsz, nN_clr (g := c 5) (g' := cC c s 5) (j := s) hs (fun i hi => by simp [cC, hu, hi]) (by rw [b3]; exact of_eq_false (nI_m1 (by omega))) (by simp [cC, hu])]
    exact nI_pred _
theorem RR_put {b : Nat} {c m : HP} (hR : RRb b c m) {s k g : Nat} (hs : s < 10) (hk : k ≤ 5) (hg : g ≤ 8) (hgs : g = 0 → s < b) (hn : r_no c m s) : RRb b (cP c s (nI k) (nI g)) (mP m s (nI k) (nI g)) := by
  obtain ⟨hfl, hvd, hbt, hsz, hes, hmg, hbk, hpy⟩ := hR
  obtain ⟨q1, q2, q3, q4⟩ := hn
  refine ⟨hfl, hvd, btb_at (j := s) hbt (fun s' hs' => by simp [cP, mP, hu, hs']) (Or.inr ⟨k, g, 0, hk, hg, by decide, hgs, ?_⟩), ?_, hes, hmg, hbk, hpy⟩
  · refine ⟨by simp [cP, hu], by simp [mP, hu], by simp [cP, hu], by simp [mP, hu], ?_, by simp [mP, hu]⟩
    show c 6 s = _
    exact q3
  · show c 3 3 + nI 1 = nI (nN _)
    rw [hsz, nN_clr (g := cP c s (nI k) (nI g) 5) (g' := c 5) (j := s) hs (fun i hi => by simp [cP, hu, hi]) (by simp only [cP, hu_same]; exact of_eq_false (nI_m1 (by omega))) q1, nI_add]
theorem RR_goal {b : Nat} {c m : HP} (hR : RRb b c m) {s k g t g' : Nat} (hs : s < 10) (hk : k ≤ 5) (hg : g ≤ 8) (ht : t ≤ 1) (hg' : g' ≤ 8) (hgs : g' = 0 → s < b) (hn : r_nt c m s k g t) : RRb b (hu c 5 s (nI g')) (hu m 33 s (nI g')) := by
  obtain ⟨hfl, hvd, hbt, hsz, hes, hmg, hbk, hpy⟩ := hR
  obtain ⟨b1, b2, b3, b4, b5, b6⟩ := hn
  refine ⟨hfl, hvd, btb_at (j := s) hbt (fun s' hs' => by simp [hu, hs']) (Or.inr ⟨k, g', t, hk, hg', ht, hgs, ?_⟩), ?_, hes, hmg, hbk, hpy⟩
  · exact ⟨b1, b2, by simp [hu], by simp [hu], b5, b6⟩
  · show c 3 3 = nI (nN _)
    rw [hsz, nN_same (g := c 5) (g' := hu c 5 s (nI g') 5) (j := s) (fun i hi => by simp [hu, hi]) (by rw [b3]; exact of_eq_false (nI_m1 (by omega))) (by simp only [hu_same]; exact of_eq_false (nI_m1 (by omega)))]
theorem c_clr {c : HP} {s g : Nat} (hs : s < 10) (hg : g ≤ 8) (h : c 5 s = nI g) : Ec 15 [.inr 3, .inl (nI s)] c (.inl none, cC c s) := by
  have ec : (nI s).toNatClampNeg = s := nI_clamp (by omega)
  have em : (nI g = -1) = False := nI_m1 (by omega)
  refine w_fin ?_
  repeat' first
    | refine w_st rfl rfl ?_
    | refine w_no rfl rfl ?_ ?_
    | (refine w_br rfl rfl (fun z => ?_) (fun z => ?_) <;> try (first | contradiction | (simp (disch := omega) only [ec, h, em, kc, nI_eq, nI_ltI, nI_leI, nI_m1, hu_o, hu_k, hu_same, not_true_eq_false, not_false_eq_true] at z; first | done | omega)))
    | refine w_in rfl rfl ?_
    | refine w_end rfl rfl ?_
    | refine w_endY rfl rfl ?_ ?_
    | refine w_up ?_
  all_goals try (intro z; simp (disch := omega) only [ec, nI_clamp, kc, nI_ltI, hu_o, hu_k, hu_same] at z <;> omega)
  simp only [ec]
  rfl
theorem c_put {c : HP} {s : Nat} {k g : Int32} (hs : s < 10) (h : c 5 s = -1) : Ec 14 [.inr 3, .inl (nI s), .inl k, .inl g] c (.inl none, cP c s k g) := by
  have ec : (nI s).toNatClampNeg = s := nI_clamp (by omega)
  refine w_fin ?_
  repeat' first
    | refine w_st rfl rfl ?_
    | refine w_no rfl rfl ?_ ?_
    | (refine w_br rfl rfl (fun z => ?_) (fun z => ?_) <;> try (first | contradiction | (simp (disch := omega) only [ec, h, kc, nI_eq, nI_ltI, nI_leI, nI_m1, hu_o, hu_k, hu_same, not_true_eq_false, not_false_eq_true] at z; first | done | omega)))
    | refine w_in rfl rfl ?_
    | refine w_end rfl rfl ?_
    | refine w_endY rfl rfl ?_ ?_
    | refine w_up ?_
  all_goals try (intro z; simp (disch := omega) only [ec, nI_clamp, kc, nI_ltI, hu_o, hu_k, hu_same] at z <;> omega)
  simp only [ec]
  rfl
theorem c_adv0 {c : HP} {s : Nat} (hs : s < 10) (h : s < 9 → c 5 (s + 1) ≠ -1) : Ec 16 [.inr 3, .inl (nI s)] c (.inl none, c) := by
  have ec : (nI s).toNatClampNeg = s := nI_clamp (by omega)
  refine w_fin ?_
  by_cases h9 : s < 9
  · have h' : (c 5 (s + 1) = -1) = False := eq_false (h h9)
    have ec1 : (nI (s + 1)).toNatClampNeg = s + 1 := nI_clamp (by omega)
    repeat' first
      | refine w_st rfl rfl ?_
      | refine w_no rfl rfl ?_ ?_
      | (refine w_br rfl rfl (fun z => ?_) (fun z => ?_) <;> try (first | contradiction | (simp (disch := omega) only [ec, ec1, h', nI_add, kc, nI_eq, nI_ltI, nI_leI, nI_m1, hu_o, hu_k, hu_same, not_true_eq_false, not_false_eq_true] at z; first | done | omega)))
      | refine w_in rfl rfl ?_
      | refine w_end rfl rfl ?_
      | refine w_endY rfl rfl ?_ ?_
      | refine w_up ?_
    all_goals try (intro z; simp (disch := omega) only [ec, ec1, nI_add, nI_clamp, kc, nI_ltI, hu_o, hu_k, hu_same] at z <;> omega)
    rfl
  · obtain rfl : s = 9 := by omega
    repeat' first
      | refine w_st rfl rfl ?_
      | refine w_no rfl rfl ?_ ?_
      | (refine w_br rfl rfl (fun z => ?_) (fun z => ?_) <;> try (first | contradiction | (simp (disch := omega) only [nI_add, kc, nI_eq, nI_ltI, nI_leI, nI_m1, hu_o, hu_k, hu_same, not_true_eq_false, not_false_eq_true] at z; first | done | omega)))
      | refine w_in rfl rfl ?_
      | refine w_end rfl rfl ?_
      | refine w_endY rfl rfl ?_ ?_
      | refine w_up ?_
    rfl
theorem c_adv1 {c : HP} {s g : Nat} (hs : s < 9) (hg : g ≤ 8) (h : c 5 s = nI g) (h1 : c 5 (s + 1) = -1) : Ec 16 [.inr 3, .inl (nI s)] c (.inl none, cC (cP c (s + 1) (c 4 s) (c 5 s)) s) := by
  have ec : (nI s).toNatClampNeg = s := nI_clamp (by omega)
  have ec1 : (nI (s + 1)).toNatClampNeg = s + 1 := nI_clamp (by omega)
  have e1 : ∀ k g : Int32, Ec 14 [.inr 3, .inl (nI s + Int32.ofInt 1), .inl k, .inl g] c (.inl none, cP c (s + 1) k g) := fun k g => by
    simp only [kc, nI_add]
    exact c_put (by omega) h1
  have e2 : ∀ k x : Int32, Ec 15 [.inr 3, .inl (nI s)] (cP c (s + 1) k x) (.inl none, cC (cP c (s + 1) k x) s) := fun k x => c_clr (g := g) (by omega) hg (by simp only [cP]; rw [hu_k (by omega), hu_o (by decide), hu_o (by decide)]; exact h)
  refine w_fin ?_
  repeat' first
    | refine w_st rfl rfl ?_
    | refine w_ca rfl rfl (e1 _ _) ?_
    | refine w_ca rfl rfl (e2 _ _) ?_
    | refine w_no rfl rfl ?_ ?_
    | (refine w_br rfl rfl (fun z => ?_) (fun z => ?_) <;> try (first | contradiction | (simp (disch := omega) only [ec, ec1, h, h1, nI_add, kc, nI_eq, nI_ltI, nI_leI, nI_m1, hu_o, hu_k, hu_same, not_true_eq_false, not_false_eq_true] at z; first | done | omega)))
    | refine w_in rfl rfl ?_
    | refine w_end rfl rfl ?_
    | refine w_endY rfl rfl ?_ ?_
    | refine w_up ?_
  all_goals try (intro z; simp (disch := omega) only [ec, ec1, nI_add, nI_clamp, kc, nI_ltI, hu_o, hu_k, hu_same] at z <;> omega)
  simp only [ec]
theorem m_put {m : HP} {s : Nat} {k g : Int32} (hs : s < 10) : Ec 107 [.inr 30, .inl (nI s), .inl k, .inl g] m (.inl none, mP m s k g) := by
  have ec : (nI s).toNatClampNeg = s := nI_clamp (by omega)
  refine w_fin ?_
  repeat' first
    | refine w_st rfl rfl ?_
    | refine w_no rfl rfl ?_ ?_
    | (refine w_br rfl rfl (fun z => ?_) (fun z => ?_) <;> try (first | contradiction | (simp (disch := omega) only [ec, kc, nI_eq, nI_ltI, nI_leI, nI_m1, hu_o, hu_k, hu_same, not_true_eq_false, not_false_eq_true] at z; first | done | omega)))
    | refine w_in rfl rfl ?_
    | refine w_end rfl rfl ?_
    | refine w_endY rfl rfl ?_ ?_
    | refine w_up ?_
  all_goals try (intro z; simp (disch := omega) only [ec, nI_clamp, kc, nI_ltI, hu_o, hu_k, hu_same] at z <;> omega)
  simp only [ec]
  rfl
theorem gf_s : ∀ g, 1 ≤ g → g ≤ 8 → ∀ h : HP, Ec 94 [.inl (nI g)] h (.inl (some (qGf g)), h) := by
  intro g h1 h8 h
  rcases (show g = 1 ∨ g = 2 ∨ g = 3 ∨ g = 4 ∨ g = 5 ∨ g = 6 ∨ g = 7 ∨ g = 8 by omega) with rfl | rfl | rfl | rfl | rfl | rfl | rfl | rfl
  all_goals refine w_fin ?_
  all_goals
    repeat' first
      | refine w_st rfl rfl ?_
      | refine w_end rfl rfl ?_
  all_goals rfl
theorem gf_0 (h : HP) : Ec 94 [.inl (nI 0)] h (.inl (some (-1)), h) := by
  refine w_fin ?_
  repeat' first
    | refine w_st rfl rfl ?_
    | refine w_end rfl rfl ?_
  rfl
theorem c_atG {c : HP} {s g : Nat} (hs : s < 10) (hg : g ≤ 8) (h : c 5 s = nI g) : (qGf g = nI s → Ec 11 [.inr 3, .inl (nI s)] c (.inl (some (nI 1)), c)) ∧ (qGf g ≠ nI s → Ec 11 [.inr 3, .inl (nI s)] c (.inl (some (nI 0)), c)) := by
  have ec : (nI s).toNatClampNeg = s := nI_clamp (by omega)
  have eg : (nI g).toNatClampNeg = g := nI_clamp (by omega)
  have e0 : (nI g < nI 0) = False := eq_false (fun z => by rw [nI_ltI (by omega) (by omega)] at z; omega)
  refine ⟨fun q => w_fin ?_, fun q => w_fin ?_⟩
  · have q' : (qGf g = nI s) = True := eq_true q
    repeat' first
      | refine w_st rfl rfl ?_
      | refine w_no rfl rfl ?_ ?_
      | (refine w_br rfl rfl (fun z => ?_) (fun z => ?_) <;> try (first | contradiction | (simp (disch := omega) only [ec, h, eg, e0, q', kc, nI_eq, nI_ltI, nI_leI, nI_m1, hu_o, hu_k, hu_same, not_true_eq_false, not_false_eq_true] at z; first | done | omega)))
      | refine w_in rfl rfl ?_
      | refine w_end rfl rfl ?_
      | refine w_endY rfl rfl ?_ ?_
      | refine w_up ?_
    all_goals try (intro z; simp (disch := omega) only [ec, h, eg, e0, q', nI_clamp, kc, nI_ltI, hu_o, hu_k, hu_same] at z <;> omega)
    all_goals try (rw [ec, h]; exact nI_in (by omega) (by decide))
    all_goals rfl
  · have q' : (qGf g = nI s) = False := eq_false q
    repeat' first
      | refine w_st rfl rfl ?_
      | refine w_no rfl rfl ?_ ?_
      | (refine w_br rfl rfl (fun z => ?_) (fun z => ?_) <;> try (first | contradiction | (simp (disch := omega) only [ec, h, eg, e0, q', kc, nI_eq, nI_ltI, nI_leI, nI_m1, hu_o, hu_k, hu_same, not_true_eq_false, not_false_eq_true] at z; first | done | omega)))
      | refine w_in rfl rfl ?_
      | refine w_end rfl rfl ?_
      | refine w_endY rfl rfl ?_ ?_
      | refine w_up ?_
    all_goals try (intro z; simp (disch := omega) only [ec, h, eg, e0, q', nI_clamp, kc, nI_ltI, hu_o, hu_k, hu_same] at z <;> omega)
    all_goals try (rw [ec, h]; exact nI_in (by omega) (by decide))
    all_goals rfl
