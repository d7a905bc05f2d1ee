/-! LOCALITY, second half: references stay on their side; whole runs. -/
def q_lok1 (S T : Nat → Bool) (i : Instr) (ax : List Nat) : Bool := match i, ax with
  | .getstatic _, [g] => S g
  | .invokevirtual _, [j', _] => T j'
  | .invokestatic _, [j', _] => Nat.ble j' 1 || T j'
  | _, _ => true
def okz (S T : Nat → Bool) : PG ⊕ (PO ⊕ (Nat × List PV × List PV)) → Prop
  | .inl (_, l, st, _) => okL S l ∧ okS S st
  | .inr (.inl _) => True
  | .inr (.inr (j', as, t)) => T j' = true ∧ okS S as ∧ okS S t
theorem okS_cons {S : Nat → Bool} {v : PV} {t : List PV} : okS S (v :: t) ↔ okV S v ∧ okS S t := by simp [okS]
theorem okS_nil {S : Nat → Bool} : okS S [] := fun _ h => absurd h List.not_mem_nil
theorem okL_put {S : Nat → Bool} {l : PL} {i : Nat} {v : PV} (hl : okL S l) (hv : okV S v) : okL S (pl_put l i v) := by
  intro q hq
  rcases List.mem_cons.mp hq with rfl | h
  · exact hv
  · exact hl q (List.mem_filter.mp h).1
theorem okL_at {S : Nat → Bool} : ∀ {l : PL} {k : Nat} {v : PV}, okL S l → pl_at l k = some v → okV S v
  | [], _, _, _, h => by cases h
  | (i, w) :: t, k, v, hl, h => by
    simp only [pl_at] at h
    split at h
    · cases h
      exact hl (i, w) List.mem_cons_self
    · exact okL_at (fun q hq => hl q (List.mem_cons_of_mem _ hq)) h
theorem okL_in {S : Nat → Bool} : ∀ {as : List PV} {i : Nat}, okS S as → okL S (pl_in i as)
  | [], _, _ => fun _ h => absurd h List.not_mem_nil
  | v :: t, i, h => by
    intro q hq
    rcases List.mem_cons.mp hq with rfl | hq
    · exact h v List.mem_cons_self
    · exact okL_in (fun w hw => h w (List.mem_cons_of_mem _ hw)) q hq
theorem okS_sub {S : Nat → Bool} {a b : List PV} (h : okS S b) (hab : ∀ v ∈ a, v ∈ b) : okS S a := fun v hv => h v (hab v hv)
set_option maxHeartbeats 8000000 in
theorem loc_ok {S T : Nat → Bool} (hR : ∀ o k r, S o = true → qRf o k = some r → S r = true) {j : Nat} {i : Instr} {n : Nat} {ax : List Nat} {pc : Nat} {l : PL} {st : List PV} {g : HP} {z : PG ⊕ (PO ⊕ (Nat × List PV × List PV))} (hck : q_lok1 S T i ax = true) (hl : okL S l) (hs : okS S st) (h : p1i j i n ax pc l st g = some z) : okz S T z := by
  cases i
  case ifCond c o =>
    dsimp only [p1i] at h
    split at h
    · cases c <;> simp only [p_br] at h <;> split at h <;> cases h <;> exact ⟨hl, (okS_cons.mp hs).2⟩
    · cases h
  case if_icmp c o =>
    dsimp only [p1i] at h
    split at h
    · cases c <;> simp only [p_br] at h <;> split at h <;> cases h <;> exact ⟨hl, (okS_cons.mp (okS_cons.mp hs).2).2⟩
    · cases h
  case aload_n k =>
    dsimp only [p1i] at h
    split at h
    · rename_i hq
      cases h
      exact ⟨hl, okS_cons.mpr ⟨okL_at hl hq, hs⟩⟩
    · cases h
  case getfield f =>
    dsimp only [p1i, p_int] at h
    split at h
    · have ho := (okS_cons.mp hs).1
      split at h
      · split at h
        · split at h
          · rename_i hr
            cases h
            exact ⟨hl, okS_cons.mpr ⟨hR _ _ _ ho hr, (okS_cons.mp hs).2⟩⟩
          · cases h
            exact ⟨hl, okS_cons.mpr ⟨trivial, (okS_cons.mp hs).2⟩⟩
        · cases h
      · cases h
    · cases h
  case aaload =>
    dsimp only [p1i, p_int] at h
    split at h
    · have ho := (okS_cons.mp (okS_cons.mp hs).2).1
      split at h
      · split at h
        · cases h
        · split at h
          · rename_i hr
            cases h
            exact ⟨hl, okS_cons.mpr ⟨hR _ _ _ ho hr, (okS_cons.mp (okS_cons.mp hs).2).2⟩⟩
          · cases h
      · cases h
    · cases h
  case getstatic f =>
    dsimp only [p1i] at h
    split at h
    · cases h
      exact ⟨hl, okS_cons.mpr ⟨hck, hs⟩⟩
    · cases h
  case invokevirtual f =>
    dsimp only [p1i] at h
    split at h
    · split at h
      · cases h
        exact ⟨hck, okS_sub hs (fun v hv => List.mem_of_mem_take (List.mem_reverse.mp hv)), okS_sub hs (fun v hv => List.mem_of_mem_drop hv)⟩
      · cases h
    · cases h
  case invokestatic f =>
    dsimp only [p1i, p_int] at h
    split at h
    · split at h
      · split at h
        · cases h
          exact ⟨hl, okS_cons.mpr ⟨trivial, (okS_cons.mp hs).2⟩⟩
        · cases h
      · cases h
    · split at h
      · split at h
        · cases h
          exact ⟨hl, okS_cons.mpr ⟨trivial, (okS_cons.mp (okS_cons.mp hs).2).2⟩⟩
        · cases h
      · cases h
    · rename_i j' na n0 n1
      have hT : T j' = true := by
        simp only [q_lok1, Bool.or_eq_true] at hck
        rcases hck with e | e
        · exfalso
          have e := Nat.le_of_ble_eq_true e
          rcases (show j' = 0 ∨ j' = 1 by omega) with rfl | rfl
          · exact n0 rfl
          · exact n1 rfl
        · exact e
      split at h
      · cases h
        exact ⟨hT, okS_sub hs (fun v hv => List.mem_of_mem_take (List.mem_reverse.mp hv)), okS_sub hs (fun v hv => List.mem_of_mem_drop hv)⟩
      · cases h
    · cases h
  all_goals first
    | (cases h; done)
    | skip
  all_goals dsimp only [p1i, p_int] at h
  all_goals repeat' split at h
  all_goals first
    | (cases h; done)
    | (cases h; exact trivial)
    | (cases h; exact ⟨hl, hs⟩)
    | (cases h; exact ⟨hl, okS_cons.mpr ⟨trivial, hs⟩⟩)
    | (cases h; (try simp only [okS_cons] at hs); refine ⟨?_, ?_⟩ <;> first | exact hl | exact hs | exact okL_put hl trivial | (simp_all [okV, okS_cons]; done))
theorem e_det {j : Nat} {c : PG} {r r' : PO} (h : Ev j c r) (h' : Ev j c r') : r = r' := by
  obtain ⟨n, hn⟩ := h
  obtain ⟨m, hm⟩ := h'
  have e1 := pm_le hn (Nat.le_max_left n m)
  have e2 := pm_le hm (Nat.le_max_right n m)
  exact Option.some.inj (e1.symm.trans e2)
theorem pe_mem : ∀ {L : List PE} {pc : Nat} {r : Instr × Nat × List Nat}, pe_at L pc = some r → (pc, r) ∈ L
  | [], _, _, h => by cases h
  | (i, v) :: t, k, r, h => by
    simp only [pe_at] at h
    split at h
    · rename_i e
      cases h
      subst e
      exact List.mem_cons_self
    · exact List.mem_cons_of_mem _ (pe_mem h)
/-- the methods of T keep to the cells of S -/
def q_Loc (S T : Nat → Bool) : Prop := (∀ o k r, S o = true → qRf o k = some r → S r = true) ∧ ∀ j, T j = true → ∀ e ∈ qCod j, q_lok1 S T e.2.1 e.2.2.2 = true
theorem loc_p1 {S T : Nat → Bool} (hL : q_Loc S T) {j pc : Nat} {l : PL} {st : List PV} {g k : HP} {z : PG ⊕ (PO ⊕ (Nat × List PV × List PV))} (hj : T j = true) (hl : okL S l) (hs : okS S st) (h : p1 j (pc, l, st, g) = some z) : p1 j (pc, l, st, mix S g k) = some (lift S k z) ∧ okz S T z := by
  cases hp : pe_at (qCod j) pc with
  | none => simp only [p1, hp] at h; cases h
  | some r =>
    obtain ⟨i, n, ax⟩ := r
    have h : p1i j i n ax pc l st g = some z := by simpa only [p1, hp] using h
    have hck := hL.2 j hj _ (pe_mem hp)
    refine ⟨?_, loc_ok hL.1 hck hl hs h⟩
    simp only [p1, hp]
    rw [loc_eq hs, h]
    rfl
theorem loc_pm {S T : Nat → Bool} (hL : q_Loc S T) {k : HP} : ∀ (n j pc : Nat) (l : PL) (st : List PV) (g : HP) (r : PO), T j = true → okL S l → okS S st → pm n j (pc, l, st, g) = some r → pm n j (pc, l, st, mix S g k) = some (r.1, mix S r.2 k) := by
  intro n
  induction n with
  | zero => intro j pc l st g r _ _ _ h; cases h
  | succ n ih =>
    intro j pc l st g r hj hl hs h
    rw [pm] at h ⊢
    cases hp : p1 j (pc, l, st, g) with
    | none => rw [hp] at h; cases h
    | some z =>
      obtain ⟨e1, e2⟩ := loc_p1 hL (k := k) hj hl hs hp
      rw [e1]
      rw [hp] at h
      rcases z with ⟨pc', l', st', g'⟩ | ⟨o, g'⟩ | ⟨j', as, t⟩
      · exact ih _ _ _ _ _ _ hj e2.1 e2.2 h
      · cases h
        rfl
      · dsimp only [lift] at h ⊢
        cases hq : pm n j' (0, pl_in 0 as, [], g) with
        | none => rw [hq] at h; cases h
        | some y =>
          rw [hq] at h
          rw [ih _ _ _ _ _ _ e2.1 (okL_in e2.2.1) okS_nil hq]
          obtain ⟨o, g'⟩ := y
          cases o with
          | inr x => cases h
          | inl v =>
            dsimp only at h ⊢
            refine ih _ _ _ _ _ _ hj hl ?_ h
            intro w hw
            rcases List.mem_append.mp hw with hw | hw
            · cases v with
              | none => cases hw
              | some x =>
                rcases List.mem_cons.mp hw with rfl | hw
                · trivial
                · cases hw
            · exact e2.2.2 w hw
theorem ec_mix {S T : Nat → Bool} (hL : q_Loc S T) {j : Nat} {as : List PV} {g g' k : HP} {o : Option Int32 ⊕ Nat} (hj : T j = true) (ha : okS S as) (h : Ec j as g (o, g')) : Ec j as (mix S g k) (o, mix S g' k) := by
  obtain ⟨n, hn⟩ := h
  exact ⟨n, loc_pm hL n j 0 _ [] g _ hj (okL_in ha) okS_nil hn⟩
theorem mix_self {S : Nat → Bool} {g : HP} : mix S g g = g := by
  funext a b
  simp [mix]
/-- a run of one side leaves the other side's cells alone -/
theorem ec_keep {S T : Nat → Bool} (hL : q_Loc S T) {j : Nat} {as : List PV} {g g' : HP} {o : Option Int32 ⊕ Nat} (hj : T j = true) (ha : okS S as) (h : Ec j as g (o, g')) {a : Nat} (hS : S a = false) : g' a = g a := by
  have h2 := ec_mix hL (k := g) hj ha h
  rw [mix_self] at h2
  have e := e_det h h2
  have e : g' = mix S g' g := congrArg Prod.snd e
  rw [e]
  funext b
  simp [mix, hS]
def q_SC (a : Nat) : Bool := Nat.blt a 30 || Nat.beq a 47
def q_SM (a : Nat) : Bool := Nat.ble 30 a && !(Nat.beq a 47)
def q_TC (j : Nat) : Bool := Nat.blt j 92
def q_TM (j : Nat) : Bool := Nat.ble 92 j
theorem q_RfC : (List.range 48).all (fun o => (qRfL.getD o []).all (fun r => match r with | some r => (!(q_SC o) || q_SC r) && (!(q_SM o) || q_SM r) | none => true)) = true := by decide +kernel
theorem q_RfB {o k r : Nat} (h : qRf o k = some r) : (q_SC o = true → q_SC r = true) ∧ (q_SM o = true → q_SM r = true) := by
  have ho : o < 48 := by
    apply Decidable.byContradiction
    intro hn
    have e : qRfL.getD o [] = [] := by
      rw [List.getD_eq_getElem?_getD, List.getElem?_eq_none (by have : qRfL.length = 48 := rfl; omega)]
      rfl
    simp only [qRf, e] at h
    cases h
  have h1 := List.all_eq_true.mp q_RfC o (List.mem_range.mpr ho)
  have hm : some r ∈ qRfL.getD o [] := by
    have h2 : (qRfL.getD o [])[k]? = some (some r) := by
      simp only [qRf, List.getD_eq_getElem?_getD] at h ⊢
      cases hq : (qRfL[o]?.getD [])[k]? with
      | none => rw [hq] at h; cases h
      | some y => rw [hq] at h; exact congrArg some h
    exact List.mem_of_getElem? h2
  have h3 := List.all_eq_true.mp h1 _ hm
  simp only [Bool.and_eq_true, Bool.or_eq_true, Bool.not_eq_true'] at h3
  constructor
  · intro e
    rcases h3.1 with e' | e'
    · rw [e] at e'; cases e'
    · exact e'
  · intro e
    rcases h3.2 with e' | e'
    · rw [e] at e'; cases e'
    · exact e'
theorem q_cods : (List.range 137).all (fun j => (qCod j).all (fun e => (!(q_TC j) || q_lok1 q_SC q_TC e.2.1 e.2.2.2) && (!(q_TM j) || q_lok1 q_SM q_TM e.2.1 e.2.2.2))) = true := by decide +kernel
theorem q_LocC : q_Loc q_SC q_TC := by
  refine ⟨fun o k r h1 h2 => (q_RfB h2).1 h1, fun j hj e he => ?_⟩
  have hlt : j < 137 := by have := Nat.le_of_ble_eq_true hj; omega
  have h := List.all_eq_true.mp (List.all_eq_true.mp q_cods j (List.mem_range.mpr hlt)) e he
  simp only [Bool.and_eq_true, Bool.or_eq_true, Bool.not_eq_true'] at h
  rcases h.1 with e' | e'
  · rw [hj] at e'; cases e'
  · exact e'
theorem q_LocM : q_Loc q_SM q_TM := by
  refine ⟨fun o k r h1 h2 => (q_RfB h2).2 h1, fun j hj e he => ?_⟩
  by_cases hlt : j < 137
  · have h := List.all_eq_true.mp (List.all_eq_true.mp q_cods j (List.mem_range.mpr hlt)) e he
    simp only [Bool.and_eq_true, Bool.or_eq_true, Bool.not_eq_true'] at h
    rcases h.2 with e' | e'
    · rw [hj] at e'; cases e'
    · exact e'
  · exfalso
    have e0 : qCod j = [] := by
      have e1 : qCodL.length = 137 := by decide +kernel
      simp only [qCod, List.getD_eq_getElem?_getD]
      rw [List.getElem?_eq_none (by omega)]
      rfl
    rw [e0] at he
    cases he
