/-! METHODS THAT THROW: the exception is made and thrown; the world stays as it was. -/
def q_steD : String := "[Ljava/lang/StackTraceElement;"
def q_lisD : String := "Ljava/util/List;"
def q_chn : List String := ["java/lang/RuntimeException", "java/lang/Exception"]
/-- what a throw asks beside the tables' words -/
def q_dcl : List MethodName := [⟨"java/lang/RuntimeException", "<init>", "()V"⟩, ⟨"java/lang/Exception", "<init>", "()V"⟩, ⟨"java/lang/Throwable", "<init>", "()V"⟩]
def q_Thr (ad : Nat → Nat) (U : State) : Prop := ((∀ x ∈ qEx, va_Nw (.castable x x) U) ∧ ∀ y ∈ q_dcl, va_Nw (.declares y) U) ∧ (va_Zq "java/lang/Throwable" "UNASSIGNED_STACK" q_steD (q_A ad) U U.heap ∧ va_Zq "java/lang/Throwable" "SUPPRESSED_SENTINEL" q_lisD (q_A ad) U U.heap) ∧
  va_Nw (.laysStatic "java/lang/Throwable" "UNASSIGNED_STACK" q_steD) U ∧ va_Nw (.laysStatic "java/lang/Throwable" "SUPPRESSED_SENTINEL" q_lisD) U
/-- no cell of the world is one of statics -/
theorem q_notStatics {D : va_G} {ad : Nat → Nat} {cI cZ cQ : ClassId} {h : HP} {H : Heap} {a : Nat} {cell : Cell} (hP : va_P D qCl (q_W ad cI cZ cQ h) H) (hc : H[a]? = some cell) (hs : cell.vm.isStatics = true) : ¬ q_A ad a := by
  rintro ⟨o, ho, rfl⟩
  have h1 := hP o _ (q_W_at ho)
  unfold va_at at h1
  split at h1
  · rename_i z hz
    rw [hc] at h1
    have e := Option.some.inj h1
    subst e
    revert hs
    unfold vp_cell
    split <;> (intro q; cases q)
  · obtain ⟨r, -, cell', g1, g2, g3, -⟩ := h1
    rw [hc] at g1
    cases g1
    rw [g3] at hs
    cases hs
theorem q_ls {D : va_G} {ad : Nat → Nat} {cI cZ cQ : ClassId} {h : HP} {s U : State} {H : Heap} {locs : List Loc} {C n d : String} (hP : va_P D qCl (q_W ad cI cZ cQ h) s.heap) (hS : va_S (q_A ad) s.heap H locs) (hU : U.heap = H) (hW : s.WarmedH U.vm) (hl : va_Nw (.laysStatic C n d) s) : va_Nw (.laysStatic C n d) U := by
  have h1 : (Cond.laysStatic C n d).before #[] (s.setVm U.vm) = true := Cond.before_shiftedFace (State.Shifted.of_warmed hW) _ rfl hl
  obtain ⟨c, k, i, f, a, cell, g1, g2, g3, g4, g5, g6, g7, g8, g9⟩ := Cond.laysStatic_spec (args := #[]) (first := s.setVm U.vm) (o := none) (s := s.setVm U.vm) (idx := []) h1
  have g5' : s.heap[a]? = some cell := g5
  have hA : ¬ q_A ad a := q_notStatics hP g5' g6
  have e5 : U.heap[a]? = some cell := by rw [hU, hS.2.1 a (Array.getElem?_eq_some_iff.mp g5').1 hA]; exact g5'
  have e1 : U.vm.findClass C = some c := g1
  have e2 : U.fieldFound? C n d = some (c, k, i, f) := g2
  show (Cond.laysStatic C n d).before #[] U = true
  simp [Cond.before, Cond.holds, Cond.value, e1, e2, g3, g4, e5, g6, g7, g8, g9]
theorem q_Thr_at {D : va_G} {ad : Nat → Nat} {cI cZ cQ : ClassId} {h : HP} {s U : State} {H : Heap} {locs : List Loc} (hT : q_Thr ad s) (hP : va_P D qCl (q_W ad cI cZ cQ h) s.heap) (hS : va_S (q_A ad) s.heap H locs) (hU : U.heap = H) (hW : s.WarmedH U.vm) : q_Thr ad U := by
  have hU' := hU
  subst hU'
  exact ⟨⟨fun x hx => (hT.1.1 x hx).warmC hW, fun y hy => (hT.1.2 y hy).warmD hW⟩, ⟨(hT.2.1.1.kept hS.2.1).moved hW.alike, (hT.2.1.2.kept hS.2.1).moved hW.alike⟩, q_ls hP hS rfl hW hT.2.2.1, q_ls hP hS rfl hW hT.2.2.2⟩
theorem q_isRef {C n d : String} {A : Nat → Prop} {U : State} {args : Array Value} (h : va_Zq C n d A U U.heap) : (Cond.isRef (.static C n d)).before args U = true := by
  have key : ∀ v : Value, (v = .null ∨ ∃ t, v = .ref t) → va_Z C n d v A U U.heap → (Cond.isRef (.static C n d)).before args U = true := by
    intro v hv hz
    obtain ⟨cf, kf, fi, f, a, cell, h1, h2, h3, h4, h5, h6, h7, h8⟩ := hz
    have ev : (Term.static C n d).eval args U none [] U = some v := by
      simp [Term.eval, State.fieldNamed?, h1, h2, h4, h5, h6, h7]
    rcases hv with rfl | ⟨t, rfl⟩ <;> simp [Cond.before, Cond.holds, Cond.value, ev]
  rcases h with h | ⟨t, h⟩
  · exact key _ (Or.inl rfl) h
  · exact key _ (Or.inr ⟨t, rfl⟩) h
def q_okw (w : Cond) : Bool := match w with
  | .isRef _ => true
  | .castable _ _ => true
  | .declares _ => true
  | .laysStatic _ _ _ => true
  | w => decide (w ∈ lw_tbl) && goodWord w
def q_atOk (ic : Nat) (x : String) : Bool := (Bundle.ownAtoms0 "CashRecycler" ic x q_chn).all q_okw
theorem q_at0 : q_atOk 73 "java/lang/IllegalArgumentException" = true := by decide +kernel
theorem q_at1 : q_atOk 76 "java/lang/IllegalStateException" = true := by decide +kernel
theorem q_at2 : q_atOk 101 "java/lang/UnsupportedOperationException" = true := by decide +kernel
theorem q_at3 : q_atOk 127 "java/util/NoSuchElementException" = true := by decide +kernel
theorem q_atR {ic : Nat} {x : String} {t : Term} (h : Cond.isRef t ∈ Bundle.ownAtoms0 "CashRecycler" ic x q_chn) : t = .static "java/lang/Throwable" "UNASSIGNED_STACK" q_steD ∨ t = .static "java/lang/Throwable" "SUPPRESSED_SENTINEL" q_lisD := by
  simp [Bundle.ownAtoms0, Bundle.throwableAtoms, Bundle.chain0Atoms, Bundle.passAtoms, q_chn, Bundle.tN, Bundle.steD, Bundle.listD] at h
  exact h
theorem q_atC {ic : Nat} {x a b : String} (h : Cond.castable a b ∈ Bundle.ownAtoms0 "CashRecycler" ic x q_chn) : a = x ∧ b = x := by
  simp [Bundle.ownAtoms0, Bundle.throwableAtoms, Bundle.chain0Atoms, Bundle.passAtoms, q_chn] at h
  exact h
theorem q_atD {ic : Nat} {x : String} {y : MethodName} (h : Cond.declares y ∈ Bundle.ownAtoms0 "CashRecycler" ic x q_chn) : y ∈ q_dcl := by
  simp [Bundle.ownAtoms0, Bundle.throwableAtoms, Bundle.chain0Atoms, Bundle.passAtoms, q_chn, Bundle.init0, Bundle.tN] at h
  simp only [q_dcl, List.mem_cons, List.not_mem_nil, or_false]
  exact h
theorem q_atL {ic : Nat} {x C n d : String} (h : Cond.laysStatic C n d ∈ Bundle.ownAtoms0 "CashRecycler" ic x q_chn) : (C = "java/lang/Throwable" ∧ n = "UNASSIGNED_STACK" ∧ d = q_steD) ∨ (C = "java/lang/Throwable" ∧ n = "SUPPRESSED_SENTINEL" ∧ d = q_lisD) := by
  simp [Bundle.ownAtoms0, Bundle.throwableAtoms, Bundle.chain0Atoms, Bundle.passAtoms, q_chn, Bundle.tN, Bundle.steD, Bundle.listD] at h
  exact h
/-- every word that the making of the exception asks -/
theorem q_atoms {ad : Nat → Nat} {s : State} {args : Array Value} {ic : Nat} {x : String} (hok : q_atOk ic x = true) (hx : x ∈ qEx) (hts : ∀ w ∈ q_WS, w.before args s = true) (hT : q_Thr ad s) : ∀ w ∈ Bundle.ownAtoms0 "CashRecycler" ic x q_chn, w.before args s = true := by
  intro w hw
  have h1 := List.all_eq_true.mp hok w hw
  unfold q_okw at h1
  split at h1
  · rename_i t
    rcases q_atR hw with rfl | rfl
    · exact q_isRef hT.2.1.1
    · exact q_isRef hT.2.1.2
  · rename_i a b
    obtain ⟨rfl, rfl⟩ := q_atC hw
    exact va_Nw.use rfl (hT.1.1 _ hx)
  · rename_i y
    exact va_Nw.use rfl (hT.1.2 y (q_atD hw))
  · rename_i C n d
    rcases q_atL hw with ⟨rfl, rfl, rfl⟩ | ⟨rfl, rfl, rfl⟩
    · exact hT.2.2.1
    · exact hT.2.2.2
  · simp only [Bool.and_eq_true, decide_eq_true_eq] at h1
    exact hts w (q_inW h1.1 h1.2)
