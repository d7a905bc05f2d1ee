/-! THE WORLD OF A PURE HEAP, and what the checks give of a row of code. -/
def q_tr (ad : Nat → Nat) (v : PV) : Value := match v with
  | .inl x => .int x
  | .inr i => .ref (ad i)
theorem q_tr_cat (ad : Nat → Nat) (v : PV) : (q_tr ad v).category = 1 := by cases v <;> rfl
def q_tl (ad : Nat → Nat) (l : PL) : List (Nat × Value) := l.map (fun q => (q.1, q_tr ad q.2))
def q_fv (ad : Nat → Nat) (h : HP) (o k : Nat) : Value := match qRf o k with
  | some r => .ref (ad r)
  | none => .int (h o k)
def q_fs (ad : Nat → Nat) (h : HP) (o c : Nat) : List Value := (List.range (qC c).2.2).map (q_fv ad h o)
def q_cell (ad : Nat → Nat) (cI cZ cQ : ClassId) (h : HP) (o : Nat) : va_E := match qSh o with
  | some (.inl c) => .inr (c, q_fs ad h o c)
  | some (.inr (0, n)) => .inl (cI, n, .inl (h o))
  | some (.inr (1, n)) => .inl (cZ, n, .inl (h o))
  | some (.inr (2, n)) => .inl (cQ, n, .inr (.inr (.inr (.inr (fun k => (qRf o k).map ad)))))
  | _ => .inl (cI, 0, .inl (h o))
def q_W (ad : Nat → Nat) (cI cZ cQ : ClassId) (h : HP) : va_W := (List.range qNW).map (fun o => (ad o, q_cell ad cI cZ cQ h o))
def q_A (ad : Nat → Nat) : Nat → Prop := fun q => ∃ o, o < qNW ∧ q = ad o
theorem q_W_at {ad : Nat → Nat} {cI cZ cQ : ClassId} {h : HP} {o : Nat} (ho : o < qNW) : (q_W ad cI cZ cQ h)[o]? = some (ad o, q_cell ad cI cZ cQ h o) := by
  simp [q_W, ho]
theorem q_hu_ne {h : HP} {o k i : Nat} {x : Int32} (hi : i ≠ o) : hu h o k x i = h i := by
  funext b; simp [hu, hi]
theorem q_cell_ne {ad : Nat → Nat} {cI cZ cQ : ClassId} {h : HP} {o k i : Nat} {x : Int32} (hi : i ≠ o) : q_cell ad cI cZ cQ (hu h o k x) i = q_cell ad cI cZ cQ h i := by
  have e : q_fs ad (hu h o k x) i = q_fs ad h i := by
    funext c; simp only [q_fs]; congr 1; funext b; simp only [q_fv, q_hu_ne hi]
  simp only [q_cell, q_hu_ne hi, e]
theorem q_W_set {ad : Nat → Nat} {cI cZ cQ : ClassId} {h : HP} {o k : Nat} {x : Int32} : (q_W ad cI cZ cQ h).set o (ad o, q_cell ad cI cZ cQ (hu h o k x) o) = q_W ad cI cZ cQ (hu h o k x) := by
  apply List.ext_getElem?
  intro i
  rw [List.getElem?_set]
  by_cases hi : o = i
  · subst hi
    simp only [if_true]
    by_cases ho : o < qNW
    · rw [q_W_at ho]; simp [q_W, ho]
    · simp [q_W, ho]
  · rw [if_neg hi]
    by_cases ho : i < qNW
    · rw [q_W_at ho, q_W_at ho, q_cell_ne (fun e => hi e.symm)]
    · simp [q_W, ho]
theorem q_fs_put {ad : Nat → Nat} {h : HP} {o c k : Nat} {x : Int32} (hk : k < (qC c).2.2) (hr : qRf o k = none) : (q_fs ad h o c).set k (.int x) = q_fs ad (hu h o k x) o c := by
  apply List.ext_getElem?
  intro i
  rw [List.getElem?_set]
  by_cases hi : k = i
  · subst hi
    simp only [if_true]
    simp [q_fs, hk, q_fv, hr, hu]
  · rw [if_neg hi]
    have hi' : i ≠ k := fun e => hi e.symm
    by_cases hN : i < (qC c).2.2
    · simp [q_fs, hN, q_fv, hu_k hi']
    · simp [q_fs, hN]
theorem q_upd {h : HP} {o k : Nat} {x : Int32} : upd (h o) k x = hu h o k x o := by
  funext b; simp [upd, hu]
theorem q_D {ad : Nat → Nat} {cI cZ cQ : ClassId} {h : HP} (hd : ∀ i j, i < qNW → j < qNW → ad i = ad j → i = j) : va_D (q_A ad) (q_W ad cI cZ cQ h) := by
  have lt : ∀ {i : Nat} {q : Nat × va_E}, (q_W ad cI cZ cQ h)[i]? = some q → i < qNW ∧ q = (ad i, q_cell ad cI cZ cQ h i) := by
    intro i q hq
    by_cases hi : i < qNW
    · rw [q_W_at hi] at hq; exact ⟨hi, (Option.some.inj hq).symm⟩
    · simp [q_W, hi] at hq
  refine ⟨fun i j p q hp hq e => ?_, fun k q hq => ?_⟩
  · obtain ⟨h1, rfl⟩ := lt hp
    obtain ⟨h2, rfl⟩ := lt hq
    exact hd i j h1 h2 e
  · obtain ⟨h1, rfl⟩ := lt hq
    exact ⟨k, h1, rfl⟩
theorem q_sh_lt {o : Nat} {z : Nat ⊕ (Nat × Nat)} (h : qSh o = some z) : o < 48 := by
  have := (List.getElem?_eq_some_iff.mp h).1
  exact this
theorem q_sh_W {o : Nat} {z : Nat ⊕ (Nat × Nat)} (h : qSh o = some z) (hz : ∀ n, z ≠ .inr (3, n)) : o < qNW := by
  have h1 := q_sh_lt h
  by_cases e : o = 47
  · subst e
    exact absurd (Option.some.inj h).symm (hz 9)
  · show o < 47
    omega
theorem pl_at_mem : ∀ {l : PL} {k : Nat} {v : PV}, pl_at l k = some v → (k, v) ∈ l
  | (i, w) :: t, k, v, h => by
    simp only [pl_at] at h
    by_cases e : i = k
    · rw [if_pos e] at h; cases h; subst e; exact List.mem_cons_self
    · rw [if_neg e] at h; exact List.mem_cons_of_mem _ (pl_at_mem h)
theorem q_loc {ad : Nat → Nat} {ls : Array Slot} {nL : Nat} {l : PL} {k : Nat} {v : PV} (hl : lv_has ls nL (q_tl ad l)) (h : pl_at l k = some v) : ls[k]? = some (.val (q_tr ad v)) :=
  hl.2.2 (k, q_tr ad v) (List.mem_map.mpr ⟨(k, v), pl_at_mem h, rfl⟩)
theorem q_tl_put {ad : Nat → Nat} {l : PL} {i : Nat} {v : PV} : (i, q_tr ad v) :: (q_tl ad l).filter (fun q => !(q.1 == i) && !(q.1 + 1 == i && q.2.category == 2)) = q_tl ad (pl_put l i v) := by
  simp only [q_tl, pl_put, List.map_cons, List.filter_map]
  congr 2
  apply List.filter_congr
  intro q _
  simp [q_tr_cat]
theorem pe_at_mem : ∀ {c : List PE} {k : Nat} {v : Instr × Nat × List Nat}, pe_at c k = some v → (k, v) ∈ c
  | (i, w) :: t, k, v, h => by
    simp only [pe_at] at h
    by_cases e : i = k
    · rw [if_pos e] at h; cases h; subst e; exact List.mem_cons_self
    · rw [if_neg e] at h; exact List.mem_cons_of_mem _ (pe_at_mem h)
theorem q_row {j pc n : Nat} {i : Instr} {ax : List Nat} (hj : j < 137) (h : pe_at (qCod j) pc = some (i, n, ax)) : decode (qmB j) pc = .ok (i, n) ∧ q_okc j pc i n ax = true := by
  have h1 := List.all_eq_true.mp (List.all_eq_true.mp qOkAll j (List.mem_range.mpr hj)) _ (pe_at_mem h)
  simp only [q_ok, Bool.and_eq_true, decide_eq_true_eq] at h1
  exact h1
