/-! THE RELATION between the class's cells (c) and the reference's (m). -/
/-- the constants of the code, as ints of naturals -/
theorem kc : (0 : Int32) = nI 0 ∧ Int32.ofInt 0 = nI 0 ∧ Int32.ofInt 1 = nI 1 ∧ Int32.ofInt 2 = nI 2 ∧ Int32.ofInt 3 = nI 3 ∧ Int32.ofInt 4 = nI 4 ∧ Int32.ofInt 5 = nI 5 ∧ (Int8.ofInt 6).toInt32 = nI 6 ∧ (Int8.ofInt 7).toInt32 = nI 7 ∧ (Int8.ofInt 8).toInt32 = nI 8 ∧ (Int8.ofInt 9).toInt32 = nI 9 ∧ (Int8.ofInt 10).toInt32 = nI 10 ∧ (Int8.ofInt 20).toInt32 = nI 20 ∧ (Int8.ofInt 21).toInt32 = nI 21 ∧ (Int8.ofInt 24).toInt32 = nI 24 ∧ (Int8.ofInt 30).toInt32 = nI 30 ∧ (Int8.ofInt 40).toInt32 = nI 40 ∧ (Int8.ofInt 100).toInt32 = nI 100 ∧ (Int16.ofInt 400).toInt32 = nI 400 ∧ Int32.ofInt (-1) = -1 := by decide +kernel
/-- the sum of f over 0 .. n - 1 -/
def sm (f : Nat → Nat) : Nat → Nat
  | 0 => 0
  | n + 1 => sm f n + f n
theorem sm_eq {f g : Nat → Nat} : ∀ {n : Nat}, (∀ i, i < n → f i = g i) → sm f n = sm g n
  | 0, _ => rfl
  | n + 1, h => by
    simp only [sm]
    rw [sm_eq (n := n) (fun i hi => h i (by omega)), h n (by omega)]
theorem sm_at {f g : Nat → Nat} {s : Nat} : ∀ {n : Nat}, s < n → (∀ i, i < n → i ≠ s → f i = g i) → sm f n + g s = sm g n + f s
  | 0, h, _ => absurd h (by omega)
  | n + 1, h, e => by
    simp only [sm]
    by_cases hs : s = n
    · subst hs
      rw [sm_eq (f := f) (g := g) (n := s) (fun i hi => e i (by omega) (by omega))]
      omega
    · have := sm_at (f := f) (g := g) (s := s) (n := n) (by omega) (fun i hi hn => e i (by omega) hn)
      have := e n (by omega) (fun z => hs z.symm)
      omega
theorem sm_le {f : Nat → Nat} {b : Nat} : ∀ {n : Nat}, (∀ i, i < n → f i ≤ b) → sm f n ≤ n * b
  | 0, _ => by simp [sm]
  | n + 1, h => by
    have h1 := sm_le (f := f) (b := b) (n := n) (fun i hi => h i (by omega))
    have h2 := h n (by omega)
    simp only [sm, Nat.succ_mul]
    omega
theorem sm_one {f : Nat → Nat} {s : Nat} : ∀ {n : Nat}, s < n → f s ≤ sm f n
  | 0, h => absurd h (by omega)
  | n + 1, h => by
    simp only [sm]
    by_cases hs : s = n
    · subst hs; omega
    · have := sm_one (f := f) (s := s) (n := n) (by omega)
      omega
/-- how many notes there are on the belt, by goals -/
def nN (g : Nat → Int32) : Nat := sm (fun s => if g s = -1 then 0 else 1) 10
/-- how many notes of a kind the cassettes hold -/
def stk (ks ns : Nat → Int32) (k : Nat) : Nat := sm (fun i => if ks i = nI k then (ns i).toNatClampNeg else 0) 4
def r_fl (c m : HP) : Prop := (∃ t, t ≤ 8 ∧ c 0 7 = nI t ∧ m 30 1 = nI t) ∧ (∃ t, t ≤ 40 ∧ c 0 8 = nI t ∧ m 30 5 = nI t) ∧ (c 0 9 = nI 1 ∧ m 30 2 = nI 0 ∨ c 0 9 = nI 0 ∧ m 30 2 = nI 1) ∧ (∃ t, t ≤ 1 ∧ c 0 10 = nI t ∧ m 30 3 = nI t) ∧ (∃ t, t ≤ 1 ∧ c 0 11 = nI t ∧ m 30 4 = nI t)
def r_vd (c m : HP) : Prop := ∃ f w, f < 40 ∧ w ≤ 40 ∧ c 1 1 = nI f ∧ c 1 2 = nI w ∧ m 30 7 = nI w ∧ ∀ i, i < w → c 2 ((f + i) % 40) = m 31 i
/-- a segment without a note -/
def r_no (c m : HP) (s : Nat) : Prop := c 5 s = -1 ∧ m 32 s = -1 ∧ c 6 s = nI 0 ∧ (m 34 s = nI 0 ∨ m 34 s = nI 1)
/-- a segment with a note of kind k for goal g that sticks (1) or not (0) -/
def r_nt (c m : HP) (s k g t : Nat) : Prop := c 4 s = nI k ∧ m 32 s = nI k ∧ c 5 s = nI g ∧ m 33 s = nI g ∧ c 6 s = nI t ∧ m 34 s = nI t
def r_sg (c m : HP) (s : Nat) : Prop := r_no c m s ∨ ∃ k g t, k ≤ 5 ∧ g ≤ 8 ∧ t ≤ 1 ∧ (g = 0 → s < 2) ∧ r_nt c m s k g t
def r_bt (c m : HP) : Prop := ∀ s, s < 10 → r_sg c m s
def r_sz (c : HP) : Prop := c 3 3 = nI (nN (c 5))
def r_es (c m : HP) : Prop := ∃ e, e ≤ 24 ∧ c 7 1 = nI e ∧ m 30 12 = nI e ∧ ∀ i, i < e → ∃ k, k ≤ 5 ∧ c 8 i = nI k ∧ m 35 i = nI k
def r_mg (c m : HP) : Prop := ∀ i, i < 4 → ∃ k n, 1 ≤ k ∧ k ≤ 5 ∧ n ≤ 30 ∧ c 10 i = nI k ∧ m 36 i = nI k ∧ c 11 i = nI n ∧ m 37 i = nI n
def r_bk (c m : HP) : Prop := ∀ k, k < 6 → c 16 k = m 38 k ∧ c 18 k = m 39 k ∧ c 19 k = m 40 k ∧ c 20 k = m 41 k ∧ c 21 k = m 42 k ∧ c 22 k = m 43 k ∧ c 23 k = m 44 k
def r_py (c m : HP) : Prop := m 45 0 = nI 0 ∧ (c 0 7 = nI 5 → ∃ q : Nat → Nat, (∀ k, 1 ≤ k → k ≤ 5 → c 29 k = nI (q k) ∧ m 45 k = nI (q k) ∧ q k ≤ stk (m 36) (m 37) k) ∧ c 27 2 = nI (q 1 + q 2 + q 3 + q 4 + q 5))
def RR (c m : HP) : Prop := r_fl c m ∧ r_vd c m ∧ r_bt c m ∧ r_sz c ∧ r_es c m ∧ r_mg c m ∧ r_bk c m ∧ r_py c m
theorem RR_dep : q_Dep RR := by
  intro c m c' m' hc hm h
  have e1 := hc 0 (by decide)
  have e2 := hc 1 (by decide)
  have e3 := hc 2 (by decide)
  have e4 := hc 3 (by decide)
  have e5 := hc 4 (by decide)
  have e6 := hc 5 (by decide)
  have e7 := hc 6 (by decide)
  have e8 := hc 7 (by decide)
  have e9 := hc 8 (by decide)
  have f1 := hc 10 (by decide)
  have f2 := hc 11 (by decide)
  have f3 := hc 16 (by decide)
  have f4 := hc 18 (by decide)
  have f5 := hc 19 (by decide)
  have f6 := hc 20 (by decide)
  have f7 := hc 21 (by decide)
  have f8 := hc 22 (by decide)
  have f9 := hc 23 (by decide)
  have g1 := hc 29 (by decide)
  have g2 := hc 27 (by decide)
  have m0 := hm 30 (by decide) (by decide)
  have m1 := hm 31 (by decide) (by decide)
  have m2 := hm 32 (by decide) (by decide)
  have m3 := hm 33 (by decide) (by decide)
  have m4 := hm 34 (by decide) (by decide)
  have m5 := hm 35 (by decide) (by decide)
  have m6 := hm 36 (by decide) (by decide)
  have m7 := hm 37 (by decide) (by decide)
  have m8 := hm 38 (by decide) (by decide)
  have m9 := hm 39 (by decide) (by decide)
  have n0 := hm 40 (by decide) (by decide)
  have n1 := hm 41 (by decide) (by decide)
  have n2 := hm 42 (by decide) (by decide)
  have n3 := hm 43 (by decide) (by decide)
  have n4 := hm 44 (by decide) (by decide)
  have n5 := hm 45 (by decide) (by decide)
  simp only [RR, r_fl, r_vd, r_bt, r_sg, r_no, r_nt, r_sz, r_es, r_mg, r_bk, r_py, e1, e2, e3, e4, e5, e6, e7, e8, e9, f1, f2, f3, f4, f5, f6, f7, f8, f9, g1, g2, m0, m1, m2, m3, m4, m5, m6, m7, m8, m9, n0, n1, n2, n3, n4, n5] at h ⊢
  exact h
