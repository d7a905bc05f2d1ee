/-! THE START: the heap that the constructors make (written by wip/whole/g68.py). -/
def fG : Nat → Int32 := (upd (upd (upd (upd (upd (upd (upd (upd (upd (upd (fun _ => 0) 0 (-1)) 1 (-1)) 2 (-1)) 3 (-1)) 4 (-1)) 5 (-1)) 6 (-1)) 7 (-1)) 8 (-1)) 9 (-1))
def fM : Nat → Int32 := (upd (upd (upd (upd (fun _ => 0) 0 1) 1 2) 2 3) 3 4)
def hpL : List (Nat → Int32) := [(fun k => if k = 9 then 1 else 0), (fun _ => 0), (fun _ => 0), (fun _ => 0), (fun _ => 0), fG, (fun _ => 0), (fun _ => 0), (fun _ => 0), (fun _ => 0), fM, (fun _ => 0), (fun _ => 0), (fun _ => 0), (fun _ => 0), (fun _ => 0), (fun _ => 0), (fun _ => 0), (fun _ => 0), (fun _ => 0), (fun _ => 0), (fun _ => 0), (fun _ => 0), (fun _ => 0), (fun _ => 0), (fun _ => 0), (fun _ => 0), (fun _ => 0), (fun _ => 0), (fun _ => 0), (fun _ => 0), (fun _ => 0), fG, (fun _ => 0), (fun _ => 0), (fun _ => 0), fM, (fun _ => 0), (fun _ => 0), (fun _ => 0), (fun _ => 0), (fun _ => 0), (fun _ => 0), (fun _ => 0), (fun _ => 0), (fun _ => 0), (fun _ => 0)]
/-- the first heap -/
def hp0 : HP := fun o => hpL.getD o (fun _ => 0)
theorem fG_m1 : ∀ s, s < 10 → fG s = -1 := by
  intro s hs
  rcases (show s = 0 ∨ s = 1 ∨ s = 2 ∨ s = 3 ∨ s = 4 ∨ s = 5 ∨ s = 6 ∨ s = 7 ∨ s = 8 ∨ s = 9 by omega) with rfl | rfl | rfl | rfl | rfl | rfl | rfl | rfl | rfl | rfl <;> rfl
theorem RR_0 : RR hp0 hp0 := by
  refine ⟨⟨⟨0, by decide, rfl, rfl⟩, ⟨0, by decide, rfl, rfl⟩, Or.inl ⟨rfl, rfl⟩, ⟨0, by decide, rfl, rfl⟩, ⟨0, by decide, rfl, rfl⟩⟩, ⟨0, 0, by decide, by decide, rfl, rfl, rfl, fun i hi => absurd hi (by omega)⟩, fun s hs => Or.inl ⟨fG_m1 s hs, fG_m1 s hs, rfl, Or.inl rfl⟩, ?_, ⟨0, by decide, rfl, rfl, fun i hi => absurd hi (by omega)⟩, fun i hi => ?_, fun k hk => ⟨rfl, rfl, rfl, rfl, rfl, rfl, rfl⟩, rfl, fun z => absurd (show nI 0 = nI 5 from z) (by decide)⟩
  · have e : nN (hp0 5) = 0 := by
      have h : sm (fun s => if hp0 5 s = -1 then 0 else 1) 10 = sm (fun _ => 0) 10 := sm_eq (fun i hi => if_pos (show hp0 5 i = -1 from fG_m1 i hi))
      exact h
    show (0 : Int32) = nI (nN (hp0 5))
    rw [e]
    rfl
  · rcases (show i = 0 ∨ i = 1 ∨ i = 2 ∨ i = 3 by omega) with rfl | rfl | rfl | rfl
    · exact ⟨1, 0, by decide, by decide, by decide, rfl, rfl, rfl, rfl⟩
    · exact ⟨2, 0, by decide, by decide, by decide, rfl, rfl, rfl, rfl⟩
    · exact ⟨3, 0, by decide, by decide, by decide, rfl, rfl, rfl, rfl⟩
    · exact ⟨4, 0, by decide, by decide, by decide, rfl, rfl, rfl, rfl⟩
theorem q_arrK {s : State} {args : Array Value} {t : FieldType} (h : (Cond.arrayClass t).before args s = true) : ∃ cA, ArrOfT s cA t ∧ s.vm.findClass (FieldType.array t).toString = some cA := by
  obtain ⟨comp, kC, cc, h1, h2, h3⟩ := Cond.arrayClass_spec h
  exact ⟨comp, fun n z => ⟨fun k h => (by cases h), kC, h2, cc, h3⟩, h1⟩
theorem q_arrO {s : State} {args : Array Value} (h : (Cond.arrayOver (.array .int)).before args s = true) : ∃ cA, ArrOfT s cA (.array .int) ∧ s.vm.findClass "[[I" = some cA := by
  obtain ⟨comp1, cA1, kA, h1, h2, h3, h4⟩ := q_overSpec h
  exact ⟨cA1, fun n z => ⟨fun k h => (by cases h), kA, h2, comp1, h3⟩, h4⟩
/-- what the Statement and the tables give of the start -/
theorem law_facts {s : State} {args : Array Value} (hts : ∀ w ∈ lw_tbl, w.before args s = true) (hgv : (Jvm.Cond.and given_1 narrow_1).before args s = true) : ∃ (D : va_G) (cI cZ cQ cL : ClassId) (tg : Nat), va_K D qCl (q_Tys cI cZ cQ) s ∧ va_Z "CashRecycler" "GOAL_SEGMENT" "[I" (.ref tg) (q_A0 s) s s.heap ∧ va_T .int tg 9 (fun k => .int (qGf k)) (q_A0 s) s s.heap ∧ q_Nest s ∧ (((∀ x ∈ qEx, va_Nw (.castable x x) s) ∧ ∀ y ∈ q_dcl, va_Nw (.declares y) s) ∧ (va_Zq "java/lang/Throwable" "UNASSIGNED_STACK" q_steD (q_A0 s) s s.heap ∧ va_Zq "java/lang/Throwable" "SUPPRESSED_SENTINEL" q_lisD (q_A0 s) s s.heap) ∧
    va_Nw (.laysStatic "java/lang/Throwable" "UNASSIGNED_STACK" q_steD) s ∧ va_Nw (.laysStatic "java/lang/Throwable" "SUPPRESSED_SENTINEL" q_lisD) s) ∧ va_K D qCl [(cL, .long)] s ∧ (∀ X ∈ qEx, ∀ Y ∈ qEx, X ≠ Y → va_Nc X Y s) := by
  have hW : ∀ w ∈ q_WS, w.before args s = true := fun w hw => hts w (List.mem_filter.mp hw).1
  have hs := flat_of_before _ hgv
  have hcl : ∀ c, ∃ (cC : ClassId) (iS : Nat → Nat), c < 8 → u_Kn s (qC c).1 (qC c).2.1 (qC c).2.2 cC iS := by
    intro c
    by_cases hc : c < 8
    · have hi : (Cond.instantiable (qC c).1 (qC c).2.2).before args s = true := by
        rcases (show c = 0 ∨ c = 1 ∨ c = 2 ∨ c = 3 ∨ c = 4 ∨ c = 5 ∨ c = 6 ∨ c = 7 by omega) with rfl | rfl | rfl | rfl | rfl | rfl | rfl | rfl
        · exact hts (.instantiable "CashRecycler$Verdicts" 3) (List.mem_of_getElem? (i := 67) (by decide +kernel))
        · exact hts (.instantiable "CashRecycler$Track" 4) (List.mem_of_getElem? (i := 84) (by decide +kernel))
        · exact hts (.instantiable "CashRecycler$Escrow" 2) (List.mem_of_getElem? (i := 104) (by decide +kernel))
        · exact hts (.instantiable "CashRecycler$Magazine" 2) (List.mem_of_getElem? (i := 117) (by decide +kernel))
        · exact hts (.instantiable "CashRecycler$Books" 1) (List.mem_of_getElem? (i := 130) (by decide +kernel))
        · exact hts (.instantiable "CashRecycler$Plan" 3) (List.mem_of_getElem? (i := 142) (by decide +kernel))
        · exact hts (.instantiable "CashRecycler" 12) (List.mem_of_getElem? (i := 59) (by decide +kernel))
        · exact hts (.instantiable "CashRecyclerModel" 25) (List.mem_of_getElem? (i := 741) (by decide +kernel))
      obtain ⟨cC, iS, h⟩ := u_known hW (q_lays hc).1 hi
      exact ⟨cC, iS, fun _ => h⟩
    · exact ⟨0, fun _ => 0, fun z => absurd z hc⟩
  obtain ⟨cI, i1, i2⟩ := q_arrK (hts (.arrayClass .int) (List.mem_of_getElem? (i := 82) (by decide +kernel)))
  obtain ⟨cZ, z1, z2⟩ := q_arrK (hts (.arrayClass .boolean) (List.mem_of_getElem? (i := 102) (by decide +kernel)))
  obtain ⟨cL, l1, l2⟩ := q_arrK (hts (.arrayClass .long) (List.mem_of_getElem? (i := 1000) (by decide +kernel)))
  obtain ⟨cQ, o1, o2⟩ := q_arrO (hts (.arrayOver (.array .int)) (List.mem_of_getElem? (i := 136) (by decide +kernel)))
  have hA : ∀ a : Nat, a < s.heap.size → ¬ q_A0 s a := fun a h z => by
    have : s.heap.size ≤ a := z
    omega
  have hK1 : ∀ (c : Nat) (q : vw_C), qCl[c]? = some q → u_Kn s q.1 q.2.1 q.2.2 ((fun c => Classical.choose (hcl c)) c) ((fun c => Classical.choose (Classical.choose_spec (hcl c))) c) := fun c q hq => by
    have hc : c < 8 := (List.getElem?_eq_some_iff.mp hq).1
    have e := Option.some.inj (hq.symm.trans (q_class hc))
    subst e
    exact Classical.choose_spec (Classical.choose_spec (hcl c)) hc
  obtain ⟨tg, t1, t2⟩ := va_Tof (args := args) (s := s) (tm := .static "CashRecycler" "GOAL_SEGMENT" "[I") (ty := .int) (N := 9) (f := fun k => .int (qGf k)) (A := q_A0 s) (by decide) (hs _ (by decide +kernel)) (va_eqt (z := 9) (hs _ (by decide +kernel))) (fun j hj => by
    rcases (show j = 0 ∨ j = 1 ∨ j = 2 ∨ j = 3 ∨ j = 4 ∨ j = 5 ∨ j = 6 ∨ j = 7 ∨ j = 8 by omega) with rfl | rfl | rfl | rfl | rfl | rfl | rfl | rfl | rfl
    · exact va_eqt (t := .elem (.static "CashRecycler" "GOAL_SEGMENT" "[I") (.int 0)) (z := -1) (hs _ (by decide +kernel))
    · exact va_eqt (t := .elem (.static "CashRecycler" "GOAL_SEGMENT" "[I") (.int 1)) (z := 4) (hs _ (by decide +kernel))
    · exact va_eqt (t := .elem (.static "CashRecycler" "GOAL_SEGMENT" "[I") (.int 2)) (z := 5) (hs _ (by decide +kernel))
    · exact va_eqt (t := .elem (.static "CashRecycler" "GOAL_SEGMENT" "[I") (.int 3)) (z := 5) (hs _ (by decide +kernel))
    · exact va_eqt (t := .elem (.static "CashRecycler" "GOAL_SEGMENT" "[I") (.int 4)) (z := 6) (hs _ (by decide +kernel))
    · exact va_eqt (t := .elem (.static "CashRecycler" "GOAL_SEGMENT" "[I") (.int 5)) (z := 6) (hs _ (by decide +kernel))
    · exact va_eqt (t := .elem (.static "CashRecycler" "GOAL_SEGMENT" "[I") (.int 6)) (z := 7) (hs _ (by decide +kernel))
    · exact va_eqt (t := .elem (.static "CashRecycler" "GOAL_SEGMENT" "[I") (.int 7)) (z := 8) (hs _ (by decide +kernel))
    · exact va_eqt (t := .elem (.static "CashRecycler" "GOAL_SEGMENT" "[I") (.int 8)) (z := 9) (hs _ (by decide +kernel))) hA
  refine ⟨(fun c => Classical.choose (hcl c), fun c => Classical.choose (Classical.choose_spec (hcl c))), cI, cZ, cQ, cL, tg, ⟨hK1, fun k q hk => ?_⟩, va_Zof (hts (.laysStatic "CashRecycler" "GOAL_SEGMENT" "[I") (List.mem_of_getElem? (i := 508) (by decide +kernel))) (hts (.initialized "CashRecycler") (List.mem_of_getElem? (i := 42) (by decide +kernel))) t1 hA, t2, ⟨va_Nw.of rfl (hts (.methodLinkNest "CashRecycler$Magazine" 18 (qmY 29) "CashRecycler") (List.mem_of_getElem? (i := 525) (by decide +kernel))), va_Nw.of rfl (hts (.fieldLinkNest "CashRecycler$Track" 26 "CashRecycler" "GOAL_SEGMENT" "[I" "CashRecycler") (List.mem_of_getElem? (i := 507) (by decide +kernel)))⟩, ⟨⟨fun x hx => ?_, fun y hy => ?_⟩, ⟨va_Zqof (hts (.laysStatic "java/lang/Throwable" "UNASSIGNED_STACK" "[Ljava/lang/StackTraceElement;") (List.mem_of_getElem? (i := 330) (by decide +kernel))) (hts (.initialized "java/lang/Throwable") (List.mem_of_getElem? (i := 50) (by decide +kernel))) (hs _ (by decide +kernel)) hA, va_Zqof (hts (.laysStatic "java/lang/Throwable" "SUPPRESSED_SENTINEL" "Ljava/util/List;") (List.mem_of_getElem? (i := 332) (by decide +kernel))) (hts (.initialized "java/lang/Throwable") (List.mem_of_getElem? (i := 50) (by decide +kernel))) (hs _ (by decide +kernel)) hA⟩, ?_, ?_⟩, ⟨hK1, fun k q hk => ?_⟩, fun X hX Y hY hXY => ?_⟩
  · rcases k with _ | _ | _ | k
    · cases hk; exact ⟨i1, i2⟩
    · cases hk; exact ⟨z1, z2⟩
    · cases hk; exact ⟨o1, o2⟩
    · cases hk
  · simp only [qEx, List.mem_cons, List.not_mem_nil, or_false] at hx
    rcases hx with rfl | rfl | rfl | rfl
    · exact va_Nw.of rfl (hts (.castable "java/lang/IllegalArgumentException" "java/lang/IllegalArgumentException") (List.mem_of_getElem? (i := 305) (by decide +kernel)))
    · exact va_Nw.of rfl (hts (.castable "java/lang/IllegalStateException" "java/lang/IllegalStateException") (List.mem_of_getElem? (i := 369) (by decide +kernel)))
    · exact va_Nw.of rfl (hts (.castable "java/lang/UnsupportedOperationException" "java/lang/UnsupportedOperationException") (List.mem_of_getElem? (i := 449) (by decide +kernel)))
    · exact va_Nw.of rfl (hts (.castable "java/util/NoSuchElementException" "java/util/NoSuchElementException") (List.mem_of_getElem? (i := 634) (by decide +kernel)))
  · simp only [q_dcl, List.mem_cons, List.not_mem_nil, or_false] at hy
    rcases hy with rfl | rfl | rfl
    · exact va_Nw.of rfl (hts (.declares ⟨"java/lang/RuntimeException", "<init>", "()V"⟩) (List.mem_of_getElem? (i := 306) (by decide +kernel)))
    · exact va_Nw.of rfl (hts (.declares ⟨"java/lang/Exception", "<init>", "()V"⟩) (List.mem_of_getElem? (i := 308) (by decide +kernel)))
    · exact va_Nw.of rfl (hts (.declares ⟨"java/lang/Throwable", "<init>", "()V"⟩) (List.mem_of_getElem? (i := 310) (by decide +kernel)))
  · have h := hts (.laysStatic "java/lang/Throwable" "UNASSIGNED_STACK" "[Ljava/lang/StackTraceElement;") (List.mem_of_getElem? (i := 330) (by decide +kernel))
    simpa only [va_Nw, Cond.before, Cond.holds, Cond.value, q_steD] using h
  · have h := hts (.laysStatic "java/lang/Throwable" "SUPPRESSED_SENTINEL" "Ljava/util/List;") (List.mem_of_getElem? (i := 332) (by decide +kernel))
    simpa only [va_Nw, Cond.before, Cond.holds, Cond.value, q_lisD] using h
  · rcases k with _ | k
    · cases hk; exact ⟨l1, l2⟩
    · cases hk
  · simp only [qEx, List.mem_cons, List.not_mem_nil, or_false] at hX hY
    rcases hX with rfl | rfl | rfl | rfl <;> rcases hY with rfl | rfl | rfl | rfl <;> first | exact absurd rfl hXY | exact va_Nc.of (hs _ (by decide +kernel))
