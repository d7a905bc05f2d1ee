/-! CONSTRUCTORS (written by wip/whole/g64.py): rows for new arrays whose class is known, and the nested classes' contracts. -/
section QNEW
variable {p : Program} {l : Launch} {e : Env} {R : Room} {s : State} {m : MethodId} {args : Array Value} {below : List Frame} {meth : Method} {c : Code} {H : Heap} {locs : List Loc} {cells slots : Nat} {Q : State → Prop} {D : va_G} {cl : List vw_C} {tys : List (ClassId × FieldType)} {ws : va_W} {A : Nat → Prop} {H0 : Heap} {cc : ByteArray} {pc : Nat} {ls : Array Slot} {rest : List Value}
theorem q_newa (hexec : p.tables.exec = Jvm.exec) (hb : c.code = cc) {atype : ArrayType} (harr : (Cond.arrayClass (newarray.typeOf atype)).before args s = true) {ty : FieldType} (hty : newarray.typeOf atype = ty) (hK : va_K D cl tys s) (hP : va_P D cl ws H) (hD : va_D A ws) (hS : va_S A H0 H locs) (hA : ∀ q, H0.size ≤ q → A q)
    {n : Int32} {N' : Nat} {a0 : vp_A} (ha : ∀ cA : ClassId, vp_cell cA a0 = arrV cA N' (fun _ => defaultValue ty)) (hn : ¬ n < 0) (hN : n.toNatClampNeg = N') (hbytes : N' * componentBytes ty ≤ 536870912) (hcells : cells + 1 ≤ R.cells) (hslots : slots + N' ≤ R.slots) (t0 : Nat) {cA0 : ClassId} (ht : tys[t0]? = some (cA0, ty)) (hdg : decode cc pc = .ok (.newarray atype, 2))
    (kk : ∀ (q : Nat) (H1 : Heap), va_P D cl (ws ++ [(q, .inl (cA0, a0))]) H1 → va_D A (ws ++ [(q, .inl (cA0, a0))]) → va_S A H0 H1 locs →
      W p l e R s m args below meth c H1 locs (cells + 1) (slots + N') Q (F0 m (pc + 2) ls (.ref q :: rest))) : W p l e R s m args below meth c H locs cells slots Q (F0 m pc ls (.int n :: rest)) := by
  refine va_newa hexec hb harr hty hK hP hD hS hA ha hn hN hbytes hcells hslots hdg (fun q cA H1 hK' hP' hD' hS' => ?_)
  have e1 := (hK'.2 tys.length (cA, ty) (by simp)).2
  have e2 := (hK.2 t0 (cA0, ty) ht).2
  have e : cA = cA0 := by
    subst hty
    cases atype <;> exact Option.some.inj ((show s.vm.findClass _ = some cA from e1).symm.trans (show s.vm.findClass _ = some cA0 from e2))
  subst e
  exact kk q H1 hP' hD' hS'
end QNEW
/-! A row for `new int[10][6]`, over the model's own `make`. -/
theorem q_arrV {cA : ClassId} {N : Nat} {f g : Nat → Value} (h : ∀ j, j < N → f j = g j) : arrV cA N f = arrV cA N g := by
  unfold arrV
  congr 1
  congr 1
  funext j
  exact h j.val j.isLt
theorem q_warmO {t : FieldType} {a : Array Value} {s U : State} (hW : s.WarmedH U.vm) (h : (Cond.arrayOver t).before a s = true) : (Cond.arrayOver t).before a (s.setVm U.vm) = true := by
  rw [Cond.arrayOver_setVmC hW.alike t]
  exact h
theorem q_overSpec {s : State} {a : Array Value} (h : (Cond.arrayOver (.array .int)).before a s = true) : ∃ (comp cA : ClassId) (k : Class), s.vm.findClass "[I" = some comp ∧ s.vm.classes[cA]? = some k ∧ k.kind = .array comp (.array .int) ∧ s.vm.findClass "[[I" = some cA := by
  have h := eq_of_beq (show (Cond.value a s none s [] (Cond.arrayOver (.array .int)) == some true) = true from h)
  simp only [Cond.value] at h
  obtain ⟨comp, hc, h⟩ := Option.bind_eq_some_iff.mp h
  obtain ⟨cA, hi, h⟩ := Option.bind_eq_some_iff.mp h
  obtain ⟨k, hk, hb⟩ := Option.map_eq_some_iff.mp h
  obtain ⟨hlt, hp, _⟩ := Array.findIdx?_eq_some_iff_getElem.mp hi
  rw [(Array.getElem?_eq_some_iff.mp hk).2] at hp
  refine ⟨comp, cA, k, hc, hk, ?_⟩
  rcases hkind : k.kind with _ | _ | ⟨c2, ty⟩ | _
  all_goals simp [hkind] at hb hp
  exact ⟨by rw [hp, hb.1], hb.2⟩
section QMK
variable {E : CtlPost} {e : Env} {d : Bool} {acts : List Action} {S : State}
/-- the model makes an array of default values: one cell more -/
theorem q_wpArr {cA comp : ClassId} {k : Class} {ty : FieldType} {n : Nat} {v : Value} (hk : S.vm.classes[cA]? = some k) (hkind : k.kind = .array comp ty) (h1 : n ≤ e.platform.arrayLengthLimit) (h2 : n * componentBytes ty ≤ e.platform.maxHeapBytes) (hv : fits ty v = true ∧ v.isDefault = true) (h3 : S.heap.size + 1 ≤ e.platform.maxCells) (h4 : S.slotsUsed + n ≤ e.platform.maxSlots) {Q : Addr → Pre} (K : ∀ acts', Q S.heap.size d acts' (S.pushCell (arrV cA n (fun _ => v)))) : wp (Jvm.newArray cA n v) Q E e d acts S := by
  have f1 : ∀ i x, (Array.replicate n v)[i]? = some x → S.fitsSlot cA .none i x = true := fun i x hx => by
    rw [Array.getElem?_replicate] at hx
    split at hx
    · cases hx
      simp [State.fitsSlot, State.slotType?, hk, hkind, hv.1]
    · cases hx
  have f2 : ¬ n > e.platform.arrayLengthLimit := by omega
  have f3 : ¬ n * componentBytes ty > e.platform.maxHeapBytes := by omega
  simp only [Jvm.newArray, Jvm.arrayFits, wp_bind', W.ask, W.ite, f2, if_false, wp_pure', W.theClass, hk, hkind, f3, W.alloc, W.stop, Option.some.injEq, exists_eq_left', Array.size_replicate]
  rw [if_neg (by omega), arrV_new]
  exact ⟨by omega, h4, f1, K _⟩
end QMK
/-- of 10 rows i are made, behind the outer array -/
def q_Row (T T' : State) (cA comp : ClassId) (i : Nat) : Prop := T'.vm = T.vm ∧ T'.heap.size = T.heap.size + 1 + i ∧ T'.heap[T.heap.size]? = some (arrV cA 10 (fun j => if j < i then .ref (T.heap.size + 1 + j) else .null)) ∧ (∀ j, j < i → T'.heap[T.heap.size + 1 + j]? = some (arrV comp 6 (fun _ => .int 0))) ∧ ∀ q, q < T.heap.size → T'.heap[q]? = T.heap[q]?
theorem q_outS (cA : ClassId) (h i : Nat) : (arrV cA 10 (fun j => if j < i then .ref (h + 1 + j) else .null)).setSlot i (.ref (h + 1 + i)) = arrV cA 10 (fun j => if j < i + 1 then .ref (h + 1 + j) else .null) := by
  rw [arrV_store]
  congr 1
  funext j
  unfold updV
  by_cases e : j = i
  · subst e
    simp
  · rcases Nat.lt_or_ge j i with e2 | e2
    · simp [e, e2, Nat.lt_succ_of_lt e2]
    · simp [e, show ¬ j < i by omega, show ¬ j < i + 1 by omega]
theorem q_Row_next {T T' : State} {cA comp : ClassId} {i : Nat} (h : q_Row T T' cA comp i) : q_Row T ((T'.pushCell (arrV comp 6 (fun _ => .int 0))).setCell T.heap.size (arrV cA 10 (fun j => if j < i + 1 then .ref (T.heap.size + 1 + j) else .null))) cA comp (i + 1) := by
  obtain ⟨h1, h2, h3, h4, h5⟩ := h
  have hlt : T.heap.size < (T'.pushCell (arrV comp 6 (fun _ => .int 0))).heap.size := by simp; omega
  have hat : (T'.pushCell (arrV comp 6 (fun _ => .int 0))).heap[T.heap.size]? = some (arrV cA 10 (fun j => if j < i then .ref (T.heap.size + 1 + j) else .null)) := by
    rw [State.heap_pushCell_of_lt (h := (show T.heap.size < T'.heap.size by omega))]
    exact h3
  refine ⟨h1, ?_, State.heap_setCell_self hat, fun j hj => ?_, fun q hq => ?_⟩
  · simp
    omega
  · rw [State.heap_setCell_other (show T.heap.size ≠ T.heap.size + 1 + j by omega)]
    by_cases e : j = i
    · subst e
      have e2 : T.heap.size + 1 + j = T'.heap.size := h2.symm
      rw [e2]
      simp
    · rw [State.heap_pushCell_of_lt (h := (show T.heap.size + 1 + j < T'.heap.size by omega))]
      exact h4 j (by omega)
  · rw [State.heap_setCell_other (show T.heap.size ≠ q by omega), State.heap_pushCell_of_lt (h := (show q < T'.heap.size by omega))]
    exact h5 q hq
/-- the state behind i rows -/
def q_Fl (T : State) (cA comp : ClassId) : Nat → State
  | 0 => T.pushCell (arrV cA 10 (fun _ => .null))
  | i + 1 => ((q_Fl T cA comp i).pushCell (arrV comp 6 (fun _ => .int 0))).setCell T.heap.size (arrV cA 10 (fun j => if j < i + 1 then .ref (T.heap.size + 1 + j) else .null))
section QMK2
variable {p : Program} {l : Launch} {e : Env} {R : Room} {s : State} {m : MethodId} {args : Array Value} {below : List Frame} {meth : Method} {c : Code} {locs : List Loc} {cells slots : Nat} {E : CtlPost} {d : Bool} {acts : List Action}
theorem q_Fl_ok {T : State} (cA comp : ClassId) (X : Stand p l e R s m args below meth c T locs cells slots) : ∀ i, Stand p l e R s m args below meth c (q_Fl T cA comp i) locs (cells + 1 + i) (slots + 10 + 6 * i) ∧ q_Row T (q_Fl T cA comp i) cA comp i
  | 0 => by
    have h := X.pushed (arrV cA 10 (fun _ => .null))
    rw [arrV_size] at h
    refine ⟨h, rfl, by simp [q_Fl], ?_, fun j hj => absurd hj (by omega), fun q hq => State.heap_pushCell_of_lt T _ hq⟩
    have e0 : arrV cA 10 (fun j => if j < 0 then .ref (T.heap.size + 1 + j) else .null) = arrV cA 10 (fun _ => .null) := q_arrV (fun j _ => by simp)
    rw [e0]
    simp [q_Fl]
  | i + 1 => by
    obtain ⟨X', R'⟩ := q_Fl_ok cA comp X i
    obtain ⟨q1, q2, q3, q4, q5⟩ := id R'
    have X2 := X'.pushed (arrV comp 6 (fun _ => .int 0))
    rw [arrV_size] at X2
    have hat : ((q_Fl T cA comp i).pushCell (arrV comp 6 (fun _ => .int 0))).heap[T.heap.size]? = some (arrV cA 10 (fun j => if j < i then .ref (T.heap.size + 1 + j) else .null)) := by
      rw [State.heap_pushCell_of_lt (h := (show T.heap.size < (q_Fl T cA comp i).heap.size by omega))]
      exact q3
    have X3 := (X2.stored hat i (.ref (T.heap.size + 1 + i))).dropFresh (fun y hy => by
      rw [List.mem_singleton] at hy
      subst hy
      exact X.heapGrown)
    rw [q_outS] at X3
    refine ⟨?_, q_Row_next R'⟩
    have e4 : slots + 10 + 6 * (i + 1) = slots + 10 + 6 * i + 6 := by omega
    rw [e4]
    exact X3
theorem q_wpMake {T : State} {f : JFrame} {cA comp cc : ClassId} {kA kC : Class} (X : Stand p l e R s m args below meth c T locs cells slots) (hkA : T.vm.classes[cA]? = some kA) (hkindA : kA.kind = .array comp (.array .int)) (hkC : T.vm.classes[comp]? = some kC) (hkindC : kC.kind = .array cc .int) (hcells : cells + 11 ≤ R.cells) (hslots : slots + 70 ≤ R.slots) {Q : Addr → Pre} (K : ∀ d' acts', Q T.heap.size d' acts' ((q_Fl T cA comp 10).setTop f)) : wp (multianewarray.make cA [10, 6]) Q E e d acts (T.setTop f) := by
  have e10 : (10 : Int32).toNatClampNeg = 10 := by decide
  have e6 : (6 : Int32).toNatClampNeg = 6 := by decide
  have n10 : ¬ (10 : Int32) < 0 := by decide
  have n6 : ¬ (6 : Int32) < 0 := by decide
  have p1 := Launch.admits_arrayLengthLimit X.admits
  have p2 := Launch.admits_maxHeapBytes X.admits
  have r0 := X.roomAbove (a := 1) (b := 10) (by omega) (by omega)
  rw [multianewarray.make]
  simp only [wp_bind', W.ite, n10, if_false, wp_pure', W.theClass, Option.some.injEq, exists_eq_left']
  refine ⟨kA, hkA, ?_⟩
  simp only [hkindA, wp_bind', e10]
  refine q_wpArr (S := T.setTop f) (n := 10) (v := .null) (k := kA) hkA hkindA (by rw [p1]; decide) (by rw [p2]; decide) ⟨rfl, rfl⟩ (by show T.heap.size + 1 ≤ _; omega) (by show T.slotsUsed + 10 ≤ _; omega) (fun acts' => ?_)
  have nz : ((10 : Int32) == 0) = false := by decide
  simp only [nz, Bool.false_eq_true, if_false, wp_bind', wp_pure']
  rw [Std.Legacy.Range.forIn_eq_forIn_range']
  refine wp_forIn_inv (fun rest S => ∃ i, rest = List.range' i (10 - i) ∧ i ≤ 10 ∧ S = (q_Fl T cA comp i).setTop f) _ _ ⟨0, rfl, by decide, rfl⟩ ?_ ?_
  · rintro x rest S d' acts2 Q' ⟨i, hl, hi, rfl⟩ hnext
    have hlt : i < 10 := by
      rcases Nat.lt_or_ge i 10 with h | h
      · exact h
      · rw [show 10 - i = 0 by omega] at hl
        cases hl
    rw [show 10 - i = (10 - (i + 1)) + 1 by omega, List.range'_succ] at hl
    obtain ⟨rfl, rfl⟩ := List.cons.inj hl
    obtain ⟨X', R'⟩ := q_Fl_ok cA comp X x
    obtain ⟨T', hT'⟩ : ∃ T', T' = q_Fl T cA comp x := ⟨_, rfl⟩
    rw [← hT'] at X' R' ⊢
    obtain ⟨q1, q2, q3, q4, q5⟩ := id R'
    have r1 := X'.roomAbove (a := 1) (b := 6) (by omega) (by omega)
    have hat : (T'.pushCell (arrV comp 6 (fun _ => .int 0))).heap[T.heap.size]? = some (arrV cA 10 (fun j => if j < x then .ref (T.heap.size + 1 + j) else .null)) := by
      rw [State.heap_pushCell_of_lt (h := (show T.heap.size < T'.heap.size by omega))]
      exact q3
    simp only [wp_bind']
    rw [multianewarray.make]
    simp only [wp_bind', W.ite, n6, if_false, wp_pure', W.theClass, Option.some.injEq, exists_eq_left']
    refine ⟨kC, by show T'.vm.classes[comp]? = some kC; rw [q1]; exact hkC, ?_⟩
    simp only [hkindC, e6]
    refine q_wpArr (S := T'.setTop f) (n := 6) (v := defaultValue .int) (k := kC) (by show T'.vm.classes[comp]? = some kC; rw [q1]; exact hkC) hkindC (by rw [p1]; decide) (by rw [p2]; decide) ⟨rfl, rfl⟩ (by show T'.heap.size + 1 ≤ _; omega) (by show T'.slotsUsed + 6 ≤ _; omega) (fun acts3 => ?_)
    simp only [wp_bind', W.writeLoc, wp_pure']
    refine ⟨arrV cA 10 (fun j => if j < x then .ref (T.heap.size + 1 + j) else .null), hat, by simp [arrV], by rw [arrV_size]; exact hlt, ?_, hnext _ _ _ ⟨x + 1, rfl, hlt, ?_⟩⟩
    · show State.fitsSlot _ cA .none x _ = true
      simp [State.fitsSlot, State.slotType?, q1, hkA, hkindA, fits]
    · have e2 : (T'.setTop f).heap.size = T.heap.size + 1 + x := q2
      rw [e2, q_outS, q_Fl, ← hT']
      rfl
  · rintro S d' acts2 ⟨i, hl, hi, rfl⟩
    have hi10 : i = 10 := by
      rcases Nat.lt_or_ge i 10 with h | h
      · rw [show 10 - i = (10 - (i + 1)) + 1 by omega, List.range'_succ] at hl
        cases hl
      · omega
    subst hi10
    exact K _ _
end QMK2
section QMULTI
variable {p : Program} {l : Launch} {e : Env} {R : Room} {s : State} {m : MethodId} {args : Array Value} {below : List Frame} {meth : Method} {c : Code} {H : Heap} {locs : List Loc} {cells slots : Nat} {Q : State → Prop} {D : va_G} {cl : List vw_C} {ws : va_W} {A : Nat → Prop} {H0 : Heap} {cc : ByteArray} {pc : Nat} {ls : Array Slot} {rest : List Value}
/-- the step of the machine -/
theorem q_mstep (hexec : p.tables.exec = Jvm.exec) (hb : c.code = cc) {own : String} {index : Nat} (hown : s.vm.findClass own = some m.cls) (hcl : (Cond.classLink own index "[[I").before args s = true) (hov : (Cond.arrayOver (.array .int)).before args s = true) (harr : (Cond.arrayClass .int).before args s = true) {T : State} (X : Stand p l e R s m args below meth c T locs cells slots) (hcells : cells + 11 ≤ R.cells) (hslots : slots + 70 ≤ R.slots) (hdg : decode cc pc = .ok (.multianewarray index 2, 4)) :
    ∃ (T' : State) (cA comp : ClassId), s.vm.findClass "[[I" = some cA ∧ s.vm.findClass "[I" = some comp ∧ Stand p l e R s m args below meth c T' locs (cells + 11) (slots + 70) ∧ (∃ T0 : State, T0.heap = T.heap ∧ q_Row T0 T' cA comp 10) ∧ ∀ t, Steps p.tables e below (T'.setTop (F0 m (pc + 4) ls (.ref T.heap.size :: rest))) t → Steps p.tables e below (T.setTop (F0 m pc ls (.int 6 :: .int 10 :: rest))) t := by
  obtain ⟨comp, cA, kA, f1, f2, f3, f4⟩ := q_overSpec hov
  obtain ⟨comp', kC, cc', g1, g2, g3⟩ := Cond.arrayClass_spec harr
  obtain rfl : comp' = comp := Option.some.inj ((show s.vm.findClass "[I" = some comp' from g1).symm.trans f1)
  obtain ⟨c0, h1, h2⟩ := Cond.classLink_spec hown hcl e.platform (by rw [X.admits.platform])
  obtain rfl : c0 = cA := Option.some.inj (h1.symm.trans f4)
  obtain ⟨w1, w2, w3⟩ := State.classEntry (e := e) X.warmed h2
  generalize T.vm.noted m.cls index (.cls c0) = vm1 at w1 w2 w3
  obtain ⟨k1, a1, a2⟩ := w2.alike.2.2 _ _ f2
  obtain ⟨k2, b1, b2⟩ := w2.alike.2.2 _ _ g2
  have X1 := X.noted w2
  obtain ⟨XF, RF⟩ := q_Fl_ok c0 comp' X1 10
  refine ⟨q_Fl (T.setVm vm1) c0 comp' 10, c0, comp', f4, f1, XF, ⟨T.setVm vm1, rfl, RF⟩, fun t hst => ?_⟩
  subst hb
  jvm_step X.here [hexec, hdg]
  simp only [multianewarray.sem, wp_bind', W.resolveClassAt_links (State.method?_setTop (F0 m pc ls (.int 6 :: .int 10 :: rest)) X.here.top) w1]
  rw [W.popN, if_neg (by decide)]
  refine ⟨F0 m pc ls (.int 6 :: .int 10 :: rest), State.topJava?_setTop' (s := T.setVm vm1) _ X.here.top, [.int 10, .int 6], rest, rfl, rfl, ?_⟩
  simp only [List.mapM_cons, List.mapM_nil, wp_bind', wp_pure']
  have hS : ((T.setTop (F0 m pc ls (.int 6 :: .int 10 :: rest))).setVm vm1).setTop (F0 m pc ls rest) = (T.setVm vm1).setTop (F0 m pc ls rest) := by
    show ((T.setVm vm1).setTop (F0 m pc ls (.int 6 :: .int 10 :: rest))).setTop _ = _
    rw [State.setTop_setTop]
  refine (show wp (multianewarray.make c0 [10, 6]) _ _ e _ _ (((T.setTop (F0 m pc ls (.int 6 :: .int 10 :: rest))).setVm vm1).setTop (F0 m pc ls rest)) from ?_)
  rw [hS]
  refine q_wpMake X1 a1 (by rw [a2]; exact f3) b1 (by rw [b2]; exact g3) hcells hslots (fun d' acts' => ?_)
  simp only [wp_bind', W.mark, W.pushRef, State.topJava?_setTop' _ XF.here.top, Option.some.injEq, exists_eq_left', State.setTop_setTop, State.heap_setTop]
  intro acts
  simp [jvm, XF.here.top]
  exact hst
def q_rows (cI : ClassId) (q : Nat) : va_W := (List.range 10).map (fun j => (q + 1 + j, .inl (cI, 6, .inl (fun _ => 0))))
theorem q_rows_at {cI : ClassId} {q k : Nat} {x : Nat × va_E} (h : (q_rows cI q)[k]? = some x) : k < 10 ∧ x = (q + 1 + k, .inl (cI, 6, .inl (fun _ => 0))) := by
  unfold q_rows at h
  rw [List.getElem?_map] at h
  by_cases hk : k < 10
  · rw [List.getElem?_range hk] at h
    exact ⟨hk, (Option.some.inj h).symm⟩
  · rw [List.getElem?_eq_none (by simp; omega)] at h
    cases h
theorem q_multi (hexec : p.tables.exec = Jvm.exec) (hb : c.code = cc) {own : String} {index : Nat} (hown : s.vm.findClass own = some m.cls) (hcl : (Cond.classLink own index "[[I").before args s = true) (hov : (Cond.arrayOver (.array .int)).before args s = true) (harr : (Cond.arrayClass .int).before args s = true) {cI cZ cQ : ClassId} (hK : va_K D cl (q_Tys cI cZ cQ) s) (hP : va_P D cl ws H) (hD : va_D A ws) (hS : va_S A H0 H locs) (hA : ∀ q, H0.size ≤ q → A q) (hcells : cells + 11 ≤ R.cells) (hslots : slots + 70 ≤ R.slots) (hdg : decode cc pc = .ok (.multianewarray index 2, 4))
    (kk : ∀ (q : Nat) (H1 : Heap), va_P D cl (ws ++ (q, .inl (cQ, 10, .inr (.inr (.inr (.inr (fun j => some (q + 1 + j))))))) :: q_rows cI q) H1 → va_D A (ws ++ (q, .inl (cQ, 10, .inr (.inr (.inr (.inr (fun j => some (q + 1 + j))))))) :: q_rows cI q) → va_S A H0 H1 locs →
      W p l e R s m args below meth c H1 locs (cells + 11) (slots + 70) Q (F0 m (pc + 4) ls (.ref q :: rest))) : W p l e R s m args below meth c H locs cells slots Q (F0 m pc ls (.int 6 :: .int 10 :: rest)) := by
  intro T hT X
  obtain ⟨T1, cA, comp, hfA, hfC, X1, ⟨T0, hT0, -, f1, f2, f5, f6⟩, step⟩ := q_mstep (ls := ls) (rest := rest) hexec hb hown hcl hov harr X hcells hslots hdg
  have q1 := (hK.2 0 (cI, .int) rfl).2
  have q2 := (hK.2 2 (cQ, .array .int) rfl).2
  have eI : comp = cI := Option.some.inj (hfC.symm.trans (show s.vm.findClass _ = some cI from q1))
  have eQ : cA = cQ := Option.some.inj (hfA.symm.trans (show s.vm.findClass _ = some cQ from q2))
  subst eI eQ
  have hTs : T.heap = H := hT
  have hT0s : T0.heap = H := hT0.trans hT
  rw [hT0s] at f1 f2 f5 f6
  rw [hTs] at step
  have old : ∀ q : Nat, q < H.size → T1.heap[q]? = H[q]? := f6
  have ho : vp_cell cA (10, .inr (.inr (.inr (.inr (fun j => some (H.size + 1 + j)))))) = arrV cA 10 (fun j => if j < 10 then .ref (H.size + 1 + j) else .null) := by
    rw [vp_cell_q]
    exact q_arrV (fun j hj => by simp [hj, va_rf])
  have hi : vp_cell comp (6, .inl (fun _ => 0)) = arrV comp 6 (fun _ => .int 0) := rfl
  have hk : ∀ (k : Nat) (x : Nat × va_E), ws[k]? = some x → T1.heap[x.1]? = H[x.1]? := fun k x hx => old x.1 ((hP k x hx).lt)
  have hD2 : va_D A ((H.size, .inl (cA, 10, .inr (.inr (.inr (.inr (fun j => some (H.size + 1 + j))))))) :: q_rows comp H.size) := by
    have at' : ∀ (k : Nat) (x : Nat × va_E), ((H.size, .inl (cA, 10, .inr (.inr (.inr (.inr (fun j => some (H.size + 1 + j))))))) :: q_rows comp H.size : va_W)[k]? = some x → x.1 = H.size + k := fun k x hx => by
      rcases k with _ | k
      · cases hx
        rfl
      · obtain ⟨_, rfl⟩ := q_rows_at (show (q_rows comp H.size)[k]? = some x from hx)
        show H.size + 1 + k = H.size + (k + 1)
        omega
    refine ⟨fun i j x y hx hy hxy => ?_, fun k x hx => ?_⟩
    · have := at' i x hx
      have := at' j y hy
      omega
    · have := at' k x hx
      have h1 := hS.1
      rw [this]
      exact hA _ (by omega)
  have hP2 : va_P D cl ((H.size, .inl (cA, 10, .inr (.inr (.inr (.inr (fun j => some (H.size + 1 + j))))))) :: q_rows comp H.size) T1.heap := fun k x hx => by
    rcases k with _ | k
    · cases hx
      show T1.heap[H.size]? = some (vp_cell _ _)
      rw [ho]
      exact f2
    · obtain ⟨hk10, rfl⟩ := q_rows_at (show (q_rows comp H.size)[k]? = some x from hx)
      show T1.heap[H.size + 1 + k]? = some (vp_cell _ _)
      rw [hi]
      exact f5 k hk10
  obtain ⟨t, a, b⟩ := kk H.size T1.heap ((hP.kept hk).app hP2) (hD.app hD2 (fun i j x y hx hy hxy => by
    have h1 := (hP i x hx).lt
    have h2 : H.size ≤ y.1 := by
      rcases j with _ | j
      · cases hy
        exact Nat.le_refl _
      · obtain ⟨_, rfl⟩ := q_rows_at (show (q_rows comp H.size)[j]? = some y from hy)
        show H.size ≤ H.size + 1 + j
        omega
    omega)) ⟨Nat.le_trans hS.1 (by omega), fun x h1 h2 => (old x (Nat.lt_of_lt_of_le h1 hS.1)).trans (hS.2.1 x h1 h2), hS.2.2⟩ T1 rfl X1
  exact ⟨t, step t a, b⟩
end QMULTI
theorem k_good {y : MethodName} {bs : ByteArray} {n : Nat} (h : Cond.code y bs n none ∈ q_WS) : GoodIn q_WS (.code y bs n none :: q_WS) := by
  intro w hw
  rcases List.mem_cons.mp hw with rfl | hw
  · exact ⟨h, Or.inl rfl⟩
  · exact ⟨hw, good_of_word (List.mem_filter.mp hw).2⟩
/-- the word on arrays of arrays looks at the classes alone -/
theorem va_ov {t : FieldType} {a a' : Array Value} {u U : State} (h : u.vm = U.vm) (hb : (Cond.arrayOver t).before a u = true) : (Cond.arrayOver t).before a' U = true := by
  simp only [Cond.before, Cond.holds, Cond.value] at hb ⊢
  rw [← h]
  exact hb
theorem va_warmO {t : FieldType} {s U : State} (hW : s.WarmedH U.vm) (hZ : va_Nw (.arrayOver t) s) : va_Nw (.arrayOver t) U := va_ov (rfl : (s.setVm U.vm).vm = U.vm) (q_warmO hW hZ)
theorem dk_Verdicts_0 : decode prog_7_method_1_code 0 = .ok (.aload_n 0, 1) := by decide +kernel
theorem dk_Verdicts_1 : decode prog_7_method_1_code 1 = .ok (.invokespecial 3, 3) := by decide +kernel
theorem dk_Verdicts_4 : decode prog_7_method_1_code 4 = .ok (.aload_n 0, 1) := by decide +kernel
theorem dk_Verdicts_5 : decode prog_7_method_1_code 5 = .ok (.bipush 40, 2) := by decide +kernel
theorem dk_Verdicts_7 : decode prog_7_method_1_code 7 = .ok (.newarray .int, 2) := by decide +kernel
theorem dk_Verdicts_9 : decode prog_7_method_1_code 9 = .ok (.putfield 9, 3) := by decide +kernel
theorem dk_Verdicts_12 : decode prog_7_method_1_code 12 = .ok (.aload_n 0, 1) := by decide +kernel
theorem dk_Verdicts_13 : decode prog_7_method_1_code 13 = .ok (.iconst 0, 1) := by decide +kernel
theorem dk_Verdicts_14 : decode prog_7_method_1_code 14 = .ok (.putfield 15, 3) := by decide +kernel
theorem dk_Verdicts_17 : decode prog_7_method_1_code 17 = .ok (.aload_n 0, 1) := by decide +kernel
theorem dk_Verdicts_18 : decode prog_7_method_1_code 18 = .ok (.iconst 0, 1) := by decide +kernel
theorem dk_Verdicts_19 : decode prog_7_method_1_code 19 = .ok (.putfield 19, 3) := by decide +kernel
theorem dk_Verdicts_22 : decode prog_7_method_1_code 22 = .ok (.return_, 1) := by decide +kernel
/-- CashRecycler$Verdicts.<init> -/
def ky_Verdicts : MethodName := ⟨"CashRecycler$Verdicts", "<init>", "()V"⟩
def kw_Verdicts : List Cond := .code ky_Verdicts prog_7_method_1_code 1 none :: q_WS
def kr_Verdicts : Room := { frames := 1, cells := 1, slots := 40, locals := 12 }
def kA_Verdicts (h0 sz : Nat) : Nat → Prop := va_A [(h0, .inr (0, [.null, .int 0, .int 0]))] sz
def kB_Verdicts (D : va_G) (cI cZ cQ : ClassId) (h0 sz : Nat) (t : State) : Prop := ∃ q7 : Nat, va_P D qCl [(h0, .inr (0, [.ref q7, .int 0, .int 0])), (q7, .inl (cI, 40, .inl (fun _ => 0)))] t.heap ∧ va_D (kA_Verdicts h0 sz) [(h0, .inr (0, [.ref q7, .int 0, .int 0])), (q7, .inl (cI, 40, .inl (fun _ => 0)))]
set_option maxHeartbeats 4000000 in
set_option maxRecDepth 100000 in
theorem k_Verdicts (l : Launch) (D : va_G) (cI cZ cQ : ClassId) (h0 sz : Nat) : Met l ky_Verdicts kw_Verdicts kr_Verdicts (va_Pc [.ref h0] (fun U => U.heap.size = sz ∧ va_P D qCl [(h0, .inr (0, [.null, .int 0, .int 0]))] U.heap ∧ va_K D qCl (q_Tys cI cZ cQ) U ∧ va_D (fun _ => True) [(h0, .inr (0, [.null, .int 0, .int 0]))])) (va_Qv (fun _ : Unit => True) (fun _ t => kB_Verdicts D cI cZ cQ h0 sz t) (kA_Verdicts h0 sz)) 1 40 (kA_Verdicts h0 sz) := by
  refine Met.ofW (cc := prog_7_method_1_code) (maxL := 1) (ret := none) (by decide) rfl ?_
  intro p e s m args below meth c s₁ B hml hv
  obtain ⟨rfl, hsz, hP, hK, hD0⟩ := hv
  have hx := B.exec
  have hb := B.bytes
  have hr := B.returns
  have hts0 := atoms_spec (ws := kw_Verdicts) B.pre
  have hts : ∀ w ∈ q_WS, w.before _ s = true := fun w hw => hts0 w (List.mem_cons_of_mem _ hw)
  have hown : s.vm.findClass qR0 = some m.cls := findClass_of_methodNamed B.named
  have hlocks := B.notSynchronized
  have hin : meth.name = "<init>" := (name_of_methodNamed B.named B.method).1
  subst hsz
  have hD : va_D (kA_Verdicts h0 s.heap.size) [(h0, .inr (0, [.null, .int 0, .int 0]))] := hD0.self (sz := s.heap.size)
  have hBe : ∀ t, kB_Verdicts D cI cZ cQ h0 s.heap.size t = kB_Verdicts D cI cZ cQ h0 s.heap.size t := fun _ => rfl
  unfold kB_Verdicts
  generalize hA0 : kA_Verdicts h0 s.heap.size = A at hD ⊢
  have hA : ∀ q : Nat, s.heap.size ≤ q → A q := fun q h => by rw [← hA0]; exact Or.inr h
  have hS : va_S A s.heap s.heap [] := va_S.rf
  have hP : va_P D qCl [(h0, .inr (0, [.null, .int 0, .int 0]))] s.heap := hP
  have hl := lv_entry ([.ref h0]) (n := 1) (Nat.le_of_ble_eq_true rfl)
  rw [lg_entry_eq]
  generalize (lg_sl ([.ref h0]) ++ List.replicate (1 - (lg_sl ([.ref h0])).length) Slot.unset).toArray = ls at hl ⊢
  have hl : lv_has ls 1 [(0, .ref h0)] := hl
  refine lv_aload_n hx hb dk_Verdicts_0 rfl (lv_at hl 0 rfl) ?_
  refine W.objInit hx hb hown (hts _ (q_inAt (i := 71) (by decide +kernel) rfl)) (hts _ (q_inAt (i := 64) (by decide +kernel) rfl)) (hts _ (q_inAt (i := 65) (by decide +kernel) rfl)) rfl (by rw [hml]; exact hl.1) rfl dk_Verdicts_1 (Nat.le_of_ble_eq_true rfl) (Nat.le_of_ble_eq_true rfl) ?_
  refine W.eq (g2 := F0 m 4 ls []) rfl ?_
  refine lv_aload_n hx hb dk_Verdicts_4 rfl (lv_at hl 0 rfl) ?_
  refine lv_bipush (v := 40) hx hb dk_Verdicts_5 (by decide) ?_
  refine q_newa (ty := .int) (a0 := (40, .inl (fun _ => 0))) hx hb (hts _ (q_inAt (i := 82) (by decide +kernel) rfl)) rfl hK hP hD hS hA (fun _ => rfl) (by decide) rfl (by decide) (show 1 ≤ 1 from by decide) (show 40 ≤ 40 from by decide) 0 rfl dk_Verdicts_7 (fun q7 H hP hD hS => ?_)
  refine W.widen (k := 1) (n := 40) (by omega) (by omega) ?_
  have hP : va_P D qCl [(h0, .inr (0, [.null, .int 0, .int 0])), (q7, .inl (cI, 40, .inl (fun _ => 0)))] H := hP
  have hD : va_D A [(h0, .inr (0, [.null, .int 0, .int 0])), (q7, .inl (cI, 40, .inl (fun _ => 0)))] := hD
  refine va_putF (D := D) (ci := 0) (v := .ref q7) (ty := .array .int) (C := qR0) (T := qF0) (N := 3) hx hb hts (q_lays (c := 0) (by decide)).1 (qTy 0) (q_lays (c := 0) (by decide)).2.1 (q_lays (c := 0) (by decide)).2.2 hown hK hP hD hS 0 rfl rfl 0 (by decide) (hts _ (q_inAt (i := 72) (by decide +kernel) rfl)) (fun _ h9 => h9) rfl hin rfl (by decide +kernel) rfl rfl (Nat.le_of_ble_eq_true rfl) dk_Verdicts_9 (fun H locs hP hD hS => ?_)
  have hP : va_P D qCl [(h0, .inr (0, [.ref q7, .int 0, .int 0])), (q7, .inl (cI, 40, .inl (fun _ => 0)))] H := hP
  have hD : va_D A [(h0, .inr (0, [.ref q7, .int 0, .int 0])), (q7, .inl (cI, 40, .inl (fun _ => 0)))] := hD
  refine lv_aload_n hx hb dk_Verdicts_12 rfl (lv_at hl 0 rfl) ?_
  refine lv_iconst (v := 0) hx hb dk_Verdicts_13 (by decide) ?_
  refine va_put (D := D) (ci := 0) (v := .int 0) (ty := .int) (C := qR0) (T := qF0) (N := 3) hx hb hts (q_lays (c := 0) (by decide)).1 (qTy 0) (q_lays (c := 0) (by decide)).2.1 (q_lays (c := 0) (by decide)).2.2 hown hK hP hD hS 0 rfl rfl 1 (by decide) (hts _ (q_inAt (i := 73) (by decide +kernel) rfl)) (fun _ h9 => h9) rfl (by decide +kernel) rfl rfl (Nat.le_of_ble_eq_true rfl) dk_Verdicts_14 (fun H locs hP hD hS => ?_)
  have hP : va_P D qCl [(h0, .inr (0, [.ref q7, .int 0, .int 0])), (q7, .inl (cI, 40, .inl (fun _ => 0)))] H := hP
  have hD : va_D A [(h0, .inr (0, [.ref q7, .int 0, .int 0])), (q7, .inl (cI, 40, .inl (fun _ => 0)))] := hD
  refine lv_aload_n hx hb dk_Verdicts_17 rfl (lv_at hl 0 rfl) ?_
  refine lv_iconst (v := 0) hx hb dk_Verdicts_18 (by decide) ?_
  refine va_put (D := D) (ci := 0) (v := .int 0) (ty := .int) (C := qR0) (T := qF0) (N := 3) hx hb hts (q_lays (c := 0) (by decide)).1 (qTy 0) (q_lays (c := 0) (by decide)).2.1 (q_lays (c := 0) (by decide)).2.2 hown hK hP hD hS 0 rfl rfl 2 (by decide) (hts _ (q_inAt (i := 74) (by decide +kernel) rfl)) (fun _ h9 => h9) rfl (by decide +kernel) rfl rfl (Nat.le_of_ble_eq_true rfl) dk_Verdicts_19 (fun H locs hP hD hS => ?_)
  have hP : va_P D qCl [(h0, .inr (0, [.ref q7, .int 0, .int 0])), (q7, .inl (cI, 40, .inl (fun _ => 0)))] H := hP
  have hD : va_D A [(h0, .inr (0, [.ref q7, .int 0, .int 0])), (q7, .inl (cI, 40, .inl (fun _ => 0)))] := hD
  have hP9 := hP.sub (ws' := [(h0, .inr (0, [.ref q7, .int 0, .int 0])), (q7, .inl (cI, 40, .inl (fun _ => 0)))]) [0, 1] rfl
  have hD9 := hD.sub (ws' := [(h0, .inr (0, [.ref q7, .int 0, .int 0])), (q7, .inl (cI, 40, .inl (fun _ => 0)))]) [0, 1] (by decide) rfl
  exact W.vret hx hb hr (fun t ht hW => ⟨⟨(), rfl, trivial, ⟨q7, by rw [ht]; exact hP9, hD9⟩⟩, hS.F ht⟩) hS.2.2 dk_Verdicts_22
theorem dk_Escrow_0 : decode prog_3_method_1_code 0 = .ok (.aload_n 0, 1) := by decide +kernel
theorem dk_Escrow_1 : decode prog_3_method_1_code 1 = .ok (.invokespecial 3, 3) := by decide +kernel
theorem dk_Escrow_4 : decode prog_3_method_1_code 4 = .ok (.aload_n 0, 1) := by decide +kernel
theorem dk_Escrow_5 : decode prog_3_method_1_code 5 = .ok (.bipush 24, 2) := by decide +kernel
theorem dk_Escrow_7 : decode prog_3_method_1_code 7 = .ok (.newarray .int, 2) := by decide +kernel
theorem dk_Escrow_9 : decode prog_3_method_1_code 9 = .ok (.putfield 9, 3) := by decide +kernel
theorem dk_Escrow_12 : decode prog_3_method_1_code 12 = .ok (.aload_n 0, 1) := by decide +kernel
theorem dk_Escrow_13 : decode prog_3_method_1_code 13 = .ok (.iconst 0, 1) := by decide +kernel
theorem dk_Escrow_14 : decode prog_3_method_1_code 14 = .ok (.putfield 15, 3) := by decide +kernel
theorem dk_Escrow_17 : decode prog_3_method_1_code 17 = .ok (.return_, 1) := by decide +kernel
/-- CashRecycler$Escrow.<init> -/
def ky_Escrow : MethodName := ⟨"CashRecycler$Escrow", "<init>", "()V"⟩
def kw_Escrow : List Cond := .code ky_Escrow prog_3_method_1_code 1 none :: q_WS
def kr_Escrow : Room := { frames := 1, cells := 1, slots := 24, locals := 12 }
def kA_Escrow (h0 sz : Nat) : Nat → Prop := va_A [(h0, .inr (2, [.null, .int 0]))] sz
def kB_Escrow (D : va_G) (cI cZ cQ : ClassId) (h0 sz : Nat) (t : State) : Prop := ∃ q7 : Nat, va_P D qCl [(h0, .inr (2, [.ref q7, .int 0])), (q7, .inl (cI, 24, .inl (fun _ => 0)))] t.heap ∧ va_D (kA_Escrow h0 sz) [(h0, .inr (2, [.ref q7, .int 0])), (q7, .inl (cI, 24, .inl (fun _ => 0)))]
set_option maxHeartbeats 4000000 in
set_option maxRecDepth 100000 in
theorem k_Escrow (l : Launch) (D : va_G) (cI cZ cQ : ClassId) (h0 sz : Nat) : Met l ky_Escrow kw_Escrow kr_Escrow (va_Pc [.ref h0] (fun U => U.heap.size = sz ∧ va_P D qCl [(h0, .inr (2, [.null, .int 0]))] U.heap ∧ va_K D qCl (q_Tys cI cZ cQ) U ∧ va_D (fun _ => True) [(h0, .inr (2, [.null, .int 0]))])) (va_Qv (fun _ : Unit => True) (fun _ t => kB_Escrow D cI cZ cQ h0 sz t) (kA_Escrow h0 sz)) 1 24 (kA_Escrow h0 sz) := by
  refine Met.ofW (cc := prog_3_method_1_code) (maxL := 1) (ret := none) (by decide) rfl ?_
  intro p e s m args below meth c s₁ B hml hv
  obtain ⟨rfl, hsz, hP, hK, hD0⟩ := hv
  have hx := B.exec
  have hb := B.bytes
  have hr := B.returns
  have hts0 := atoms_spec (ws := kw_Escrow) B.pre
  have hts : ∀ w ∈ q_WS, w.before _ s = true := fun w hw => hts0 w (List.mem_cons_of_mem _ hw)
  have hown : s.vm.findClass qR2 = some m.cls := findClass_of_methodNamed B.named
  have hlocks := B.notSynchronized
  have hin : meth.name = "<init>" := (name_of_methodNamed B.named B.method).1
  subst hsz
  have hD : va_D (kA_Escrow h0 s.heap.size) [(h0, .inr (2, [.null, .int 0]))] := hD0.self (sz := s.heap.size)
  have hBe : ∀ t, kB_Escrow D cI cZ cQ h0 s.heap.size t = kB_Escrow D cI cZ cQ h0 s.heap.size t := fun _ => rfl
  unfold kB_Escrow
  generalize hA0 : kA_Escrow h0 s.heap.size = A at hD ⊢
  have hA : ∀ q : Nat, s.heap.size ≤ q → A q := fun q h => by rw [← hA0]; exact Or.inr h
  have hS : va_S A s.heap s.heap [] := va_S.rf
  have hP : va_P D qCl [(h0, .inr (2, [.null, .int 0]))] s.heap := hP
  have hl := lv_entry ([.ref h0]) (n := 1) (Nat.le_of_ble_eq_true rfl)
  rw [lg_entry_eq]
  generalize (lg_sl ([.ref h0]) ++ List.replicate (1 - (lg_sl ([.ref h0])).length) Slot.unset).toArray = ls at hl ⊢
  have hl : lv_has ls 1 [(0, .ref h0)] := hl
  refine lv_aload_n hx hb dk_Escrow_0 rfl (lv_at hl 0 rfl) ?_
  refine W.objInit hx hb hown (hts _ (q_inAt (i := 108) (by decide +kernel) rfl)) (hts _ (q_inAt (i := 64) (by decide +kernel) rfl)) (hts _ (q_inAt (i := 65) (by decide +kernel) rfl)) rfl (by rw [hml]; exact hl.1) rfl dk_Escrow_1 (Nat.le_of_ble_eq_true rfl) (Nat.le_of_ble_eq_true rfl) ?_
  refine W.eq (g2 := F0 m 4 ls []) rfl ?_
  refine lv_aload_n hx hb dk_Escrow_4 rfl (lv_at hl 0 rfl) ?_
  refine lv_bipush (v := 24) hx hb dk_Escrow_5 (by decide) ?_
  refine q_newa (ty := .int) (a0 := (24, .inl (fun _ => 0))) hx hb (hts _ (q_inAt (i := 82) (by decide +kernel) rfl)) rfl hK hP hD hS hA (fun _ => rfl) (by decide) rfl (by decide) (show 1 ≤ 1 from by decide) (show 24 ≤ 24 from by decide) 0 rfl dk_Escrow_7 (fun q7 H hP hD hS => ?_)
  refine W.widen (k := 1) (n := 24) (by omega) (by omega) ?_
  have hP : va_P D qCl [(h0, .inr (2, [.null, .int 0])), (q7, .inl (cI, 24, .inl (fun _ => 0)))] H := hP
  have hD : va_D A [(h0, .inr (2, [.null, .int 0])), (q7, .inl (cI, 24, .inl (fun _ => 0)))] := hD
  refine va_putF (D := D) (ci := 2) (v := .ref q7) (ty := .array .int) (C := qR2) (T := qF2) (N := 2) hx hb hts (q_lays (c := 2) (by decide)).1 (qTy 2) (q_lays (c := 2) (by decide)).2.1 (q_lays (c := 2) (by decide)).2.2 hown hK hP hD hS 0 rfl rfl 0 (by decide) (hts _ (q_inAt (i := 109) (by decide +kernel) rfl)) (fun _ h9 => h9) rfl hin rfl (by decide +kernel) rfl rfl (Nat.le_of_ble_eq_true rfl) dk_Escrow_9 (fun H locs hP hD hS => ?_)
  have hP : va_P D qCl [(h0, .inr (2, [.ref q7, .int 0])), (q7, .inl (cI, 24, .inl (fun _ => 0)))] H := hP
  have hD : va_D A [(h0, .inr (2, [.ref q7, .int 0])), (q7, .inl (cI, 24, .inl (fun _ => 0)))] := hD
  refine lv_aload_n hx hb dk_Escrow_12 rfl (lv_at hl 0 rfl) ?_
  refine lv_iconst (v := 0) hx hb dk_Escrow_13 (by decide) ?_
  refine va_put (D := D) (ci := 2) (v := .int 0) (ty := .int) (C := qR2) (T := qF2) (N := 2) hx hb hts (q_lays (c := 2) (by decide)).1 (qTy 2) (q_lays (c := 2) (by decide)).2.1 (q_lays (c := 2) (by decide)).2.2 hown hK hP hD hS 0 rfl rfl 1 (by decide) (hts _ (q_inAt (i := 110) (by decide +kernel) rfl)) (fun _ h9 => h9) rfl (by decide +kernel) rfl rfl (Nat.le_of_ble_eq_true rfl) dk_Escrow_14 (fun H locs hP hD hS => ?_)
  have hP : va_P D qCl [(h0, .inr (2, [.ref q7, .int 0])), (q7, .inl (cI, 24, .inl (fun _ => 0)))] H := hP
  have hD : va_D A [(h0, .inr (2, [.ref q7, .int 0])), (q7, .inl (cI, 24, .inl (fun _ => 0)))] := hD
  have hP9 := hP.sub (ws' := [(h0, .inr (2, [.ref q7, .int 0])), (q7, .inl (cI, 24, .inl (fun _ => 0)))]) [0, 1] rfl
  have hD9 := hD.sub (ws' := [(h0, .inr (2, [.ref q7, .int 0])), (q7, .inl (cI, 24, .inl (fun _ => 0)))]) [0, 1] (by decide) rfl
  exact W.vret hx hb hr (fun t ht hW => ⟨⟨(), rfl, trivial, ⟨q7, by rw [ht]; exact hP9, hD9⟩⟩, hS.F ht⟩) hS.2.2 dk_Escrow_17
theorem dk_Magazine_0 : decode prog_4_method_1_code 0 = .ok (.aload_n 0, 1) := by decide +kernel
theorem dk_Magazine_1 : decode prog_4_method_1_code 1 = .ok (.invokespecial 3, 3) := by decide +kernel
theorem dk_Magazine_4 : decode prog_4_method_1_code 4 = .ok (.aload_n 0, 1) := by decide +kernel
theorem dk_Magazine_5 : decode prog_4_method_1_code 5 = .ok (.iconst 4, 1) := by decide +kernel
theorem dk_Magazine_6 : decode prog_4_method_1_code 6 = .ok (.newarray .int, 2) := by decide +kernel
theorem dk_Magazine_8 : decode prog_4_method_1_code 8 = .ok (.dup, 1) := by decide +kernel
theorem dk_Magazine_9 : decode prog_4_method_1_code 9 = .ok (.iconst 0, 1) := by decide +kernel
theorem dk_Magazine_10 : decode prog_4_method_1_code 10 = .ok (.iconst 1, 1) := by decide +kernel
theorem dk_Magazine_11 : decode prog_4_method_1_code 11 = .ok (.iastore, 1) := by decide +kernel
theorem dk_Magazine_12 : decode prog_4_method_1_code 12 = .ok (.dup, 1) := by decide +kernel
theorem dk_Magazine_13 : decode prog_4_method_1_code 13 = .ok (.iconst 1, 1) := by decide +kernel
theorem dk_Magazine_14 : decode prog_4_method_1_code 14 = .ok (.iconst 2, 1) := by decide +kernel
theorem dk_Magazine_15 : decode prog_4_method_1_code 15 = .ok (.iastore, 1) := by decide +kernel
theorem dk_Magazine_16 : decode prog_4_method_1_code 16 = .ok (.dup, 1) := by decide +kernel
theorem dk_Magazine_17 : decode prog_4_method_1_code 17 = .ok (.iconst 2, 1) := by decide +kernel
theorem dk_Magazine_18 : decode prog_4_method_1_code 18 = .ok (.iconst 3, 1) := by decide +kernel
theorem dk_Magazine_19 : decode prog_4_method_1_code 19 = .ok (.iastore, 1) := by decide +kernel
theorem dk_Magazine_20 : decode prog_4_method_1_code 20 = .ok (.dup, 1) := by decide +kernel
theorem dk_Magazine_21 : decode prog_4_method_1_code 21 = .ok (.iconst 3, 1) := by decide +kernel
theorem dk_Magazine_22 : decode prog_4_method_1_code 22 = .ok (.iconst 4, 1) := by decide +kernel
theorem dk_Magazine_23 : decode prog_4_method_1_code 23 = .ok (.iastore, 1) := by decide +kernel
theorem dk_Magazine_24 : decode prog_4_method_1_code 24 = .ok (.putfield 9, 3) := by decide +kernel
theorem dk_Magazine_27 : decode prog_4_method_1_code 27 = .ok (.aload_n 0, 1) := by decide +kernel
theorem dk_Magazine_28 : decode prog_4_method_1_code 28 = .ok (.iconst 4, 1) := by decide +kernel
theorem dk_Magazine_29 : decode prog_4_method_1_code 29 = .ok (.newarray .int, 2) := by decide +kernel
theorem dk_Magazine_31 : decode prog_4_method_1_code 31 = .ok (.putfield 15, 3) := by decide +kernel
theorem dk_Magazine_34 : decode prog_4_method_1_code 34 = .ok (.return_, 1) := by decide +kernel
/-- CashRecycler$Magazine.<init> -/
def ky_Magazine : MethodName := ⟨"CashRecycler$Magazine", "<init>", "()V"⟩
def kw_Magazine : List Cond := .code ky_Magazine prog_4_method_1_code 1 none :: q_WS
def kr_Magazine : Room := { frames := 1, cells := 2, slots := 8, locals := 12 }
def kA_Magazine (h0 sz : Nat) : Nat → Prop := va_A [(h0, .inr (3, [.null, .null]))] sz
def kB_Magazine (D : va_G) (cI cZ cQ : ClassId) (h0 sz : Nat) (t : State) : Prop := ∃ q6 q29 : Nat, va_P D qCl [(h0, .inr (3, [.ref q6, .ref q29])), (q6, .inl (cI, 4, .inl (upd (upd (upd (upd (fun _ => 0) 0 1) 1 2) 2 3) 3 4))), (q29, .inl (cI, 4, .inl (fun _ => 0)))] t.heap ∧ va_D (kA_Magazine h0 sz) [(h0, .inr (3, [.ref q6, .ref q29])), (q6, .inl (cI, 4, .inl (upd (upd (upd (upd (fun _ => 0) 0 1) 1 2) 2 3) 3 4))), (q29, .inl (cI, 4, .inl (fun _ => 0)))]
set_option maxHeartbeats 4000000 in
set_option maxRecDepth 100000 in
theorem k_Magazine (l : Launch) (D : va_G) (cI cZ cQ : ClassId) (h0 sz : Nat) : Met l ky_Magazine kw_Magazine kr_Magazine (va_Pc [.ref h0] (fun U => U.heap.size = sz ∧ va_P D qCl [(h0, .inr (3, [.null, .null]))] U.heap ∧ va_K D qCl (q_Tys cI cZ cQ) U ∧ va_D (fun _ => True) [(h0, .inr (3, [.null, .null]))])) (va_Qv (fun _ : Unit => True) (fun _ t => kB_Magazine D cI cZ cQ h0 sz t) (kA_Magazine h0 sz)) 2 8 (kA_Magazine h0 sz) := by
  refine Met.ofW (cc := prog_4_method_1_code) (maxL := 1) (ret := none) (by decide) rfl ?_
  intro p e s m args below meth c s₁ B hml hv
  obtain ⟨rfl, hsz, hP, hK, hD0⟩ := hv
  have hx := B.exec
  have hb := B.bytes
  have hr := B.returns
  have hts0 := atoms_spec (ws := kw_Magazine) B.pre
  have hts : ∀ w ∈ q_WS, w.before _ s = true := fun w hw => hts0 w (List.mem_cons_of_mem _ hw)
  have hown : s.vm.findClass qR3 = some m.cls := findClass_of_methodNamed B.named
  have hlocks := B.notSynchronized
  have hin : meth.name = "<init>" := (name_of_methodNamed B.named B.method).1
  subst hsz
  have hD : va_D (kA_Magazine h0 s.heap.size) [(h0, .inr (3, [.null, .null]))] := hD0.self (sz := s.heap.size)
  have hBe : ∀ t, kB_Magazine D cI cZ cQ h0 s.heap.size t = kB_Magazine D cI cZ cQ h0 s.heap.size t := fun _ => rfl
  unfold kB_Magazine
  generalize hA0 : kA_Magazine h0 s.heap.size = A at hD ⊢
  have hA : ∀ q : Nat, s.heap.size ≤ q → A q := fun q h => by rw [← hA0]; exact Or.inr h
  have hS : va_S A s.heap s.heap [] := va_S.rf
  have hP : va_P D qCl [(h0, .inr (3, [.null, .null]))] s.heap := hP
  have hl := lv_entry ([.ref h0]) (n := 1) (Nat.le_of_ble_eq_true rfl)
  rw [lg_entry_eq]
  generalize (lg_sl ([.ref h0]) ++ List.replicate (1 - (lg_sl ([.ref h0])).length) Slot.unset).toArray = ls at hl ⊢
  have hl : lv_has ls 1 [(0, .ref h0)] := hl
  refine lv_aload_n hx hb dk_Magazine_0 rfl (lv_at hl 0 rfl) ?_
  refine W.objInit hx hb hown (hts _ (q_inAt (i := 121) (by decide +kernel) rfl)) (hts _ (q_inAt (i := 64) (by decide +kernel) rfl)) (hts _ (q_inAt (i := 65) (by decide +kernel) rfl)) rfl (by rw [hml]; exact hl.1) rfl dk_Magazine_1 (Nat.le_of_ble_eq_true rfl) (Nat.le_of_ble_eq_true rfl) ?_
  refine W.eq (g2 := F0 m 4 ls []) rfl ?_
  refine lv_aload_n hx hb dk_Magazine_4 rfl (lv_at hl 0 rfl) ?_
  refine lv_iconst (v := 4) hx hb dk_Magazine_5 (by decide) ?_
  refine q_newa (ty := .int) (a0 := (4, .inl (fun _ => 0))) hx hb (hts _ (q_inAt (i := 82) (by decide +kernel) rfl)) rfl hK hP hD hS hA (fun _ => rfl) (by decide) rfl (by decide) (show 1 ≤ 2 from by decide) (show 4 ≤ 8 from by decide) 0 rfl dk_Magazine_6 (fun q6 H hP hD hS => ?_)
  refine W.widen (k := 1) (n := 4) (by omega) (by omega) ?_
  have hP : va_P D qCl [(h0, .inr (3, [.null, .null])), (q6, .inl (cI, 4, .inl (fun _ => 0)))] H := hP
  have hD : va_D A [(h0, .inr (3, [.null, .null])), (q6, .inl (cI, 4, .inl (fun _ => 0)))] := hD
  refine lv_dup hx hb dk_Magazine_8 rfl ?_
  refine lv_iconst (v := 0) hx hb dk_Magazine_9 (by decide) ?_
  refine lv_iconst (v := 1) hx hb dk_Magazine_10 (by decide) ?_
  refine va_iast hx hb hK hP hD hS 1 0 rfl rfl (i := 0) (x := 1) (nI_in (c := 0) (N := 4) (by decide) (by decide)) dk_Magazine_11 (fun H locs hP hD hS => ?_)
  have hP : va_P D qCl [(h0, .inr (3, [.null, .null])), (q6, .inl (cI, 4, .inl (upd (fun _ => 0) 0 1)))] H := hP
  have hD : va_D A [(h0, .inr (3, [.null, .null])), (q6, .inl (cI, 4, .inl (upd (fun _ => 0) 0 1)))] := hD
  refine lv_dup hx hb dk_Magazine_12 rfl ?_
  refine lv_iconst (v := 1) hx hb dk_Magazine_13 (by decide) ?_
  refine lv_iconst (v := 2) hx hb dk_Magazine_14 (by decide) ?_
  refine va_iast hx hb hK hP hD hS 1 0 rfl rfl (i := 1) (x := 2) (nI_in (c := 1) (N := 4) (by decide) (by decide)) dk_Magazine_15 (fun H locs hP hD hS => ?_)
  have hP : va_P D qCl [(h0, .inr (3, [.null, .null])), (q6, .inl (cI, 4, .inl (upd (upd (fun _ => 0) 0 1) 1 2)))] H := hP
  have hD : va_D A [(h0, .inr (3, [.null, .null])), (q6, .inl (cI, 4, .inl (upd (upd (fun _ => 0) 0 1) 1 2)))] := hD
  refine lv_dup hx hb dk_Magazine_16 rfl ?_
  refine lv_iconst (v := 2) hx hb dk_Magazine_17 (by decide) ?_
  refine lv_iconst (v := 3) hx hb dk_Magazine_18 (by decide) ?_
  refine va_iast hx hb hK hP hD hS 1 0 rfl rfl (i := 2) (x := 3) (nI_in (c := 2) (N := 4) (by decide) (by decide)) dk_Magazine_19 (fun H locs hP hD hS => ?_)
  have hP : va_P D qCl [(h0, .inr (3, [.null, .null])), (q6, .inl (cI, 4, .inl (upd (upd (upd (fun _ => 0) 0 1) 1 2) 2 3)))] H := hP
  have hD : va_D A [(h0, .inr (3, [.null, .null])), (q6, .inl (cI, 4, .inl (upd (upd (upd (fun _ => 0) 0 1) 1 2) 2 3)))] := hD
  refine lv_dup hx hb dk_Magazine_20 rfl ?_
  refine lv_iconst (v := 3) hx hb dk_Magazine_21 (by decide) ?_
  refine lv_iconst (v := 4) hx hb dk_Magazine_22 (by decide) ?_
  refine va_iast hx hb hK hP hD hS 1 0 rfl rfl (i := 3) (x := 4) (nI_in (c := 3) (N := 4) (by decide) (by decide)) dk_Magazine_23 (fun H locs hP hD hS => ?_)
  have hP : va_P D qCl [(h0, .inr (3, [.null, .null])), (q6, .inl (cI, 4, .inl (upd (upd (upd (upd (fun _ => 0) 0 1) 1 2) 2 3) 3 4)))] H := hP
  have hD : va_D A [(h0, .inr (3, [.null, .null])), (q6, .inl (cI, 4, .inl (upd (upd (upd (upd (fun _ => 0) 0 1) 1 2) 2 3) 3 4)))] := hD
  refine va_putF (D := D) (ci := 3) (v := .ref q6) (ty := .array .int) (C := qR3) (T := qF3) (N := 2) hx hb hts (q_lays (c := 3) (by decide)).1 (qTy 3) (q_lays (c := 3) (by decide)).2.1 (q_lays (c := 3) (by decide)).2.2 hown hK hP hD hS 0 rfl rfl 0 (by decide) (hts _ (q_inAt (i := 122) (by decide +kernel) rfl)) (fun _ h9 => h9) rfl hin rfl (by decide +kernel) rfl rfl (Nat.le_of_ble_eq_true rfl) dk_Magazine_24 (fun H locs hP hD hS => ?_)
  have hP : va_P D qCl [(h0, .inr (3, [.ref q6, .null])), (q6, .inl (cI, 4, .inl (upd (upd (upd (upd (fun _ => 0) 0 1) 1 2) 2 3) 3 4)))] H := hP
  have hD : va_D A [(h0, .inr (3, [.ref q6, .null])), (q6, .inl (cI, 4, .inl (upd (upd (upd (upd (fun _ => 0) 0 1) 1 2) 2 3) 3 4)))] := hD
  refine lv_aload_n hx hb dk_Magazine_27 rfl (lv_at hl 0 rfl) ?_
  refine lv_iconst (v := 4) hx hb dk_Magazine_28 (by decide) ?_
  refine q_newa (ty := .int) (a0 := (4, .inl (fun _ => 0))) hx hb (hts _ (q_inAt (i := 82) (by decide +kernel) rfl)) rfl hK hP hD hS hA (fun _ => rfl) (by decide) rfl (by decide) (show 2 ≤ 2 from by decide) (show 8 ≤ 8 from by decide) 0 rfl dk_Magazine_29 (fun q29 H hP hD hS => ?_)
  refine W.widen (k := 2) (n := 8) (by omega) (by omega) ?_
  have hP : va_P D qCl [(h0, .inr (3, [.ref q6, .null])), (q6, .inl (cI, 4, .inl (upd (upd (upd (upd (fun _ => 0) 0 1) 1 2) 2 3) 3 4))), (q29, .inl (cI, 4, .inl (fun _ => 0)))] H := hP
  have hD : va_D A [(h0, .inr (3, [.ref q6, .null])), (q6, .inl (cI, 4, .inl (upd (upd (upd (upd (fun _ => 0) 0 1) 1 2) 2 3) 3 4))), (q29, .inl (cI, 4, .inl (fun _ => 0)))] := hD
  refine va_putF (D := D) (ci := 3) (v := .ref q29) (ty := .array .int) (C := qR3) (T := qF3) (N := 2) hx hb hts (q_lays (c := 3) (by decide)).1 (qTy 3) (q_lays (c := 3) (by decide)).2.1 (q_lays (c := 3) (by decide)).2.2 hown hK hP hD hS 0 rfl rfl 1 (by decide) (hts _ (q_inAt (i := 123) (by decide +kernel) rfl)) (fun _ h9 => h9) rfl hin rfl (by decide +kernel) rfl rfl (Nat.le_of_ble_eq_true rfl) dk_Magazine_31 (fun H locs hP hD hS => ?_)
  have hP : va_P D qCl [(h0, .inr (3, [.ref q6, .ref q29])), (q6, .inl (cI, 4, .inl (upd (upd (upd (upd (fun _ => 0) 0 1) 1 2) 2 3) 3 4))), (q29, .inl (cI, 4, .inl (fun _ => 0)))] H := hP
  have hD : va_D A [(h0, .inr (3, [.ref q6, .ref q29])), (q6, .inl (cI, 4, .inl (upd (upd (upd (upd (fun _ => 0) 0 1) 1 2) 2 3) 3 4))), (q29, .inl (cI, 4, .inl (fun _ => 0)))] := hD
  have hP9 := hP.sub (ws' := [(h0, .inr (3, [.ref q6, .ref q29])), (q6, .inl (cI, 4, .inl (upd (upd (upd (upd (fun _ => 0) 0 1) 1 2) 2 3) 3 4))), (q29, .inl (cI, 4, .inl (fun _ => 0)))]) [0, 1, 2] rfl
  have hD9 := hD.sub (ws' := [(h0, .inr (3, [.ref q6, .ref q29])), (q6, .inl (cI, 4, .inl (upd (upd (upd (upd (fun _ => 0) 0 1) 1 2) 2 3) 3 4))), (q29, .inl (cI, 4, .inl (fun _ => 0)))]) [0, 1, 2] (by decide) rfl
  exact W.vret hx hb hr (fun t ht hW => ⟨⟨(), rfl, trivial, ⟨q6, q29, by rw [ht]; exact hP9, hD9⟩⟩, hS.F ht⟩) hS.2.2 dk_Magazine_34
theorem dk_Plan_0 : decode prog_5_method_1_code 0 = .ok (.aload_n 0, 1) := by decide +kernel
theorem dk_Plan_1 : decode prog_5_method_1_code 1 = .ok (.invokespecial 3, 3) := by decide +kernel
theorem dk_Plan_4 : decode prog_5_method_1_code 4 = .ok (.aload_n 0, 1) := by decide +kernel
theorem dk_Plan_5 : decode prog_5_method_1_code 5 = .ok (.bipush 6, 2) := by decide +kernel
theorem dk_Plan_7 : decode prog_5_method_1_code 7 = .ok (.newarray .int, 2) := by decide +kernel
theorem dk_Plan_9 : decode prog_5_method_1_code 9 = .ok (.putfield 9, 3) := by decide +kernel
theorem dk_Plan_12 : decode prog_5_method_1_code 12 = .ok (.aload_n 0, 1) := by decide +kernel
theorem dk_Plan_13 : decode prog_5_method_1_code 13 = .ok (.bipush 6, 2) := by decide +kernel
theorem dk_Plan_15 : decode prog_5_method_1_code 15 = .ok (.newarray .int, 2) := by decide +kernel
theorem dk_Plan_17 : decode prog_5_method_1_code 17 = .ok (.putfield 15, 3) := by decide +kernel
theorem dk_Plan_20 : decode prog_5_method_1_code 20 = .ok (.aload_n 0, 1) := by decide +kernel
theorem dk_Plan_21 : decode prog_5_method_1_code 21 = .ok (.iconst 0, 1) := by decide +kernel
theorem dk_Plan_22 : decode prog_5_method_1_code 22 = .ok (.putfield 18, 3) := by decide +kernel
theorem dk_Plan_25 : decode prog_5_method_1_code 25 = .ok (.return_, 1) := by decide +kernel
/-- CashRecycler$Plan.<init> -/
def ky_Plan : MethodName := ⟨"CashRecycler$Plan", "<init>", "()V"⟩
def kw_Plan : List Cond := .code ky_Plan prog_5_method_1_code 1 none :: q_WS
def kr_Plan : Room := { frames := 1, cells := 2, slots := 12, locals := 12 }
def kA_Plan (h0 sz : Nat) : Nat → Prop := va_A [(h0, .inr (5, [.null, .null, .int 0]))] sz
def kB_Plan (D : va_G) (cI cZ cQ : ClassId) (h0 sz : Nat) (t : State) : Prop := ∃ q7 q15 : Nat, va_P D qCl [(h0, .inr (5, [.ref q7, .ref q15, .int 0])), (q7, .inl (cI, 6, .inl (fun _ => 0))), (q15, .inl (cI, 6, .inl (fun _ => 0)))] t.heap ∧ va_D (kA_Plan h0 sz) [(h0, .inr (5, [.ref q7, .ref q15, .int 0])), (q7, .inl (cI, 6, .inl (fun _ => 0))), (q15, .inl (cI, 6, .inl (fun _ => 0)))]
set_option maxHeartbeats 4000000 in
set_option maxRecDepth 100000 in
theorem k_Plan (l : Launch) (D : va_G) (cI cZ cQ : ClassId) (h0 sz : Nat) : Met l ky_Plan kw_Plan kr_Plan (va_Pc [.ref h0] (fun U => U.heap.size = sz ∧ va_P D qCl [(h0, .inr (5, [.null, .null, .int 0]))] U.heap ∧ va_K D qCl (q_Tys cI cZ cQ) U ∧ va_D (fun _ => True) [(h0, .inr (5, [.null, .null, .int 0]))])) (va_Qv (fun _ : Unit => True) (fun _ t => kB_Plan D cI cZ cQ h0 sz t) (kA_Plan h0 sz)) 2 12 (kA_Plan h0 sz) := by
  refine Met.ofW (cc := prog_5_method_1_code) (maxL := 1) (ret := none) (by decide) rfl ?_
  intro p e s m args below meth c s₁ B hml hv
  obtain ⟨rfl, hsz, hP, hK, hD0⟩ := hv
  have hx := B.exec
  have hb := B.bytes
  have hr := B.returns
  have hts0 := atoms_spec (ws := kw_Plan) B.pre
  have hts : ∀ w ∈ q_WS, w.before _ s = true := fun w hw => hts0 w (List.mem_cons_of_mem _ hw)
  have hown : s.vm.findClass qR5 = some m.cls := findClass_of_methodNamed B.named
  have hlocks := B.notSynchronized
  have hin : meth.name = "<init>" := (name_of_methodNamed B.named B.method).1
  subst hsz
  have hD : va_D (kA_Plan h0 s.heap.size) [(h0, .inr (5, [.null, .null, .int 0]))] := hD0.self (sz := s.heap.size)
  have hBe : ∀ t, kB_Plan D cI cZ cQ h0 s.heap.size t = kB_Plan D cI cZ cQ h0 s.heap.size t := fun _ => rfl
  unfold kB_Plan
  generalize hA0 : kA_Plan h0 s.heap.size = A at hD ⊢
  have hA : ∀ q : Nat, s.heap.size ≤ q → A q := fun q h => by rw [← hA0]; exact Or.inr h
  have hS : va_S A s.heap s.heap [] := va_S.rf
  have hP : va_P D qCl [(h0, .inr (5, [.null, .null, .int 0]))] s.heap := hP
  have hl := lv_entry ([.ref h0]) (n := 1) (Nat.le_of_ble_eq_true rfl)
  rw [lg_entry_eq]
  generalize (lg_sl ([.ref h0]) ++ List.replicate (1 - (lg_sl ([.ref h0])).length) Slot.unset).toArray = ls at hl ⊢
  have hl : lv_has ls 1 [(0, .ref h0)] := hl
  refine lv_aload_n hx hb dk_Plan_0 rfl (lv_at hl 0 rfl) ?_
  refine W.objInit hx hb hown (hts _ (q_inAt (i := 146) (by decide +kernel) rfl)) (hts _ (q_inAt (i := 64) (by decide +kernel) rfl)) (hts _ (q_inAt (i := 65) (by decide +kernel) rfl)) rfl (by rw [hml]; exact hl.1) rfl dk_Plan_1 (Nat.le_of_ble_eq_true rfl) (Nat.le_of_ble_eq_true rfl) ?_
  refine W.eq (g2 := F0 m 4 ls []) rfl ?_
  refine lv_aload_n hx hb dk_Plan_4 rfl (lv_at hl 0 rfl) ?_
  refine lv_bipush (v := 6) hx hb dk_Plan_5 (by decide) ?_
  refine q_newa (ty := .int) (a0 := (6, .inl (fun _ => 0))) hx hb (hts _ (q_inAt (i := 82) (by decide +kernel) rfl)) rfl hK hP hD hS hA (fun _ => rfl) (by decide) rfl (by decide) (show 1 ≤ 2 from by decide) (show 6 ≤ 12 from by decide) 0 rfl dk_Plan_7 (fun q7 H hP hD hS => ?_)
  refine W.widen (k := 1) (n := 6) (by omega) (by omega) ?_
  have hP : va_P D qCl [(h0, .inr (5, [.null, .null, .int 0])), (q7, .inl (cI, 6, .inl (fun _ => 0)))] H := hP
  have hD : va_D A [(h0, .inr (5, [.null, .null, .int 0])), (q7, .inl (cI, 6, .inl (fun _ => 0)))] := hD
  refine va_putF (D := D) (ci := 5) (v := .ref q7) (ty := .array .int) (C := qR5) (T := qF5) (N := 3) hx hb hts (q_lays (c := 5) (by decide)).1 (qTy 5) (q_lays (c := 5) (by decide)).2.1 (q_lays (c := 5) (by decide)).2.2 hown hK hP hD hS 0 rfl rfl 0 (by decide) (hts _ (q_inAt (i := 147) (by decide +kernel) rfl)) (fun _ h9 => h9) rfl hin rfl (by decide +kernel) rfl rfl (Nat.le_of_ble_eq_true rfl) dk_Plan_9 (fun H locs hP hD hS => ?_)
  have hP : va_P D qCl [(h0, .inr (5, [.ref q7, .null, .int 0])), (q7, .inl (cI, 6, .inl (fun _ => 0)))] H := hP
  have hD : va_D A [(h0, .inr (5, [.ref q7, .null, .int 0])), (q7, .inl (cI, 6, .inl (fun _ => 0)))] := hD
  refine lv_aload_n hx hb dk_Plan_12 rfl (lv_at hl 0 rfl) ?_
  refine lv_bipush (v := 6) hx hb dk_Plan_13 (by decide) ?_
  refine q_newa (ty := .int) (a0 := (6, .inl (fun _ => 0))) hx hb (hts _ (q_inAt (i := 82) (by decide +kernel) rfl)) rfl hK hP hD hS hA (fun _ => rfl) (by decide) rfl (by decide) (show 2 ≤ 2 from by decide) (show 12 ≤ 12 from by decide) 0 rfl dk_Plan_15 (fun q15 H hP hD hS => ?_)
  refine W.widen (k := 2) (n := 12) (by omega) (by omega) ?_
  have hP : va_P D qCl [(h0, .inr (5, [.ref q7, .null, .int 0])), (q7, .inl (cI, 6, .inl (fun _ => 0))), (q15, .inl (cI, 6, .inl (fun _ => 0)))] H := hP
  have hD : va_D A [(h0, .inr (5, [.ref q7, .null, .int 0])), (q7, .inl (cI, 6, .inl (fun _ => 0))), (q15, .inl (cI, 6, .inl (fun _ => 0)))] := hD
  refine va_putF (D := D) (ci := 5) (v := .ref q15) (ty := .array .int) (C := qR5) (T := qF5) (N := 3) hx hb hts (q_lays (c := 5) (by decide)).1 (qTy 5) (q_lays (c := 5) (by decide)).2.1 (q_lays (c := 5) (by decide)).2.2 hown hK hP hD hS 0 rfl rfl 1 (by decide) (hts _ (q_inAt (i := 148) (by decide +kernel) rfl)) (fun _ h9 => h9) rfl hin rfl (by decide +kernel) rfl rfl (Nat.le_of_ble_eq_true rfl) dk_Plan_17 (fun H locs hP hD hS => ?_)
  have hP : va_P D qCl [(h0, .inr (5, [.ref q7, .ref q15, .int 0])), (q7, .inl (cI, 6, .inl (fun _ => 0))), (q15, .inl (cI, 6, .inl (fun _ => 0)))] H := hP
  have hD : va_D A [(h0, .inr (5, [.ref q7, .ref q15, .int 0])), (q7, .inl (cI, 6, .inl (fun _ => 0))), (q15, .inl (cI, 6, .inl (fun _ => 0)))] := hD
  refine lv_aload_n hx hb dk_Plan_20 rfl (lv_at hl 0 rfl) ?_
  refine lv_iconst (v := 0) hx hb dk_Plan_21 (by decide) ?_
  refine va_put (D := D) (ci := 5) (v := .int 0) (ty := .int) (C := qR5) (T := qF5) (N := 3) hx hb hts (q_lays (c := 5) (by decide)).1 (qTy 5) (q_lays (c := 5) (by decide)).2.1 (q_lays (c := 5) (by decide)).2.2 hown hK hP hD hS 0 rfl rfl 2 (by decide) (hts _ (q_inAt (i := 149) (by decide +kernel) rfl)) (fun _ h9 => h9) rfl (by decide +kernel) rfl rfl (Nat.le_of_ble_eq_true rfl) dk_Plan_22 (fun H locs hP hD hS => ?_)
  have hP : va_P D qCl [(h0, .inr (5, [.ref q7, .ref q15, .int 0])), (q7, .inl (cI, 6, .inl (fun _ => 0))), (q15, .inl (cI, 6, .inl (fun _ => 0)))] H := hP
  have hD : va_D A [(h0, .inr (5, [.ref q7, .ref q15, .int 0])), (q7, .inl (cI, 6, .inl (fun _ => 0))), (q15, .inl (cI, 6, .inl (fun _ => 0)))] := hD
  have hP9 := hP.sub (ws' := [(h0, .inr (5, [.ref q7, .ref q15, .int 0])), (q7, .inl (cI, 6, .inl (fun _ => 0))), (q15, .inl (cI, 6, .inl (fun _ => 0)))]) [0, 1, 2] rfl
  have hD9 := hD.sub (ws' := [(h0, .inr (5, [.ref q7, .ref q15, .int 0])), (q7, .inl (cI, 6, .inl (fun _ => 0))), (q15, .inl (cI, 6, .inl (fun _ => 0)))]) [0, 1, 2] (by decide) rfl
  exact W.vret hx hb hr (fun t ht hW => ⟨⟨(), rfl, trivial, ⟨q7, q15, by rw [ht]; exact hP9, hD9⟩⟩, hS.F ht⟩) hS.2.2 dk_Plan_25
theorem dk_Track_0 : decode prog_6_method_1_code 0 = .ok (.aload_n 0, 1) := by decide +kernel
theorem dk_Track_1 : decode prog_6_method_1_code 1 = .ok (.invokespecial 3, 3) := by decide +kernel
theorem dk_Track_4 : decode prog_6_method_1_code 4 = .ok (.aload_n 0, 1) := by decide +kernel
theorem dk_Track_5 : decode prog_6_method_1_code 5 = .ok (.bipush 10, 2) := by decide +kernel
theorem dk_Track_7 : decode prog_6_method_1_code 7 = .ok (.newarray .int, 2) := by decide +kernel
theorem dk_Track_9 : decode prog_6_method_1_code 9 = .ok (.putfield 9, 3) := by decide +kernel
theorem dk_Track_12 : decode prog_6_method_1_code 12 = .ok (.aload_n 0, 1) := by decide +kernel
theorem dk_Track_13 : decode prog_6_method_1_code 13 = .ok (.bipush 10, 2) := by decide +kernel
theorem dk_Track_15 : decode prog_6_method_1_code 15 = .ok (.newarray .int, 2) := by decide +kernel
theorem dk_Track_17 : decode prog_6_method_1_code 17 = .ok (.putfield 15, 3) := by decide +kernel
theorem dk_Track_20 : decode prog_6_method_1_code 20 = .ok (.aload_n 0, 1) := by decide +kernel
theorem dk_Track_21 : decode prog_6_method_1_code 21 = .ok (.bipush 10, 2) := by decide +kernel
theorem dk_Track_23 : decode prog_6_method_1_code 23 = .ok (.newarray .boolean, 2) := by decide +kernel
theorem dk_Track_25 : decode prog_6_method_1_code 25 = .ok (.putfield 18, 3) := by decide +kernel
theorem dk_Track_28 : decode prog_6_method_1_code 28 = .ok (.aload_n 0, 1) := by decide +kernel
theorem dk_Track_29 : decode prog_6_method_1_code 29 = .ok (.iconst 0, 1) := by decide +kernel
theorem dk_Track_30 : decode prog_6_method_1_code 30 = .ok (.putfield 22, 3) := by decide +kernel
theorem dk_Track_33 : decode prog_6_method_1_code 33 = .ok (.iconst 0, 1) := by decide +kernel
theorem dk_Track_34 : decode prog_6_method_1_code 34 = .ok (.istore_n 1, 1) := by decide +kernel
theorem dk_Track_35 : decode prog_6_method_1_code 35 = .ok (.iload_n 1, 1) := by decide +kernel
theorem dk_Track_36 : decode prog_6_method_1_code 36 = .ok (.bipush 10, 2) := by decide +kernel
theorem dk_Track_38 : decode prog_6_method_1_code 38 = .ok (.if_icmp .ge 16, 3) := by decide +kernel
theorem dk_Track_41 : decode prog_6_method_1_code 41 = .ok (.aload_n 0, 1) := by decide +kernel
theorem dk_Track_42 : decode prog_6_method_1_code 42 = .ok (.getfield 15, 3) := by decide +kernel
theorem dk_Track_45 : decode prog_6_method_1_code 45 = .ok (.iload_n 1, 1) := by decide +kernel
theorem dk_Track_46 : decode prog_6_method_1_code 46 = .ok (.iconst (-1), 1) := by decide +kernel
theorem dk_Track_47 : decode prog_6_method_1_code 47 = .ok (.iastore, 1) := by decide +kernel
theorem dk_Track_48 : decode prog_6_method_1_code 48 = .ok (.iinc 1 1, 3) := by decide +kernel
theorem dk_Track_51 : decode prog_6_method_1_code 51 = .ok (.goto (-16), 3) := by decide +kernel
theorem dk_Track_54 : decode prog_6_method_1_code 54 = .ok (.return_, 1) := by decide +kernel
/-- CashRecycler$Track.<init> -/
def ky_Track : MethodName := ⟨"CashRecycler$Track", "<init>", "()V"⟩
def kw_Track : List Cond := .code ky_Track prog_6_method_1_code 2 none :: q_WS
def kr_Track : Room := { frames := 1, cells := 3, slots := 30, locals := 12 }
def kA_Track (h0 sz : Nat) : Nat → Prop := va_A [(h0, .inr (1, [.null, .null, .null, .int 0]))] sz
def kB_Track (D : va_G) (cI cZ cQ : ClassId) (h0 sz : Nat) (t : State) : Prop := ∃ q7 q15 q23 : Nat, va_P D qCl [(h0, .inr (1, [.ref q7, .ref q15, .ref q23, .int 0])), (q7, .inl (cI, 10, .inl (fun _ => 0))), (q15, .inl (cI, 10, .inl (upd (upd (upd (upd (upd (upd (upd (upd (upd (upd (fun _ => 0) 0 (-1)) 1 (-1)) 2 (-1)) 3 (-1)) 4 (-1)) 5 (-1)) 6 (-1)) 7 (-1)) 8 (-1)) 9 (-1)))), (q23, .inl (cZ, 10, .inl (fun _ => 0)))] t.heap ∧ va_D (kA_Track h0 sz) [(h0, .inr (1, [.ref q7, .ref q15, .ref q23, .int 0])), (q7, .inl (cI, 10, .inl (fun _ => 0))), (q15, .inl (cI, 10, .inl (upd (upd (upd (upd (upd (upd (upd (upd (upd (upd (fun _ => 0) 0 (-1)) 1 (-1)) 2 (-1)) 3 (-1)) 4 (-1)) 5 (-1)) 6 (-1)) 7 (-1)) 8 (-1)) 9 (-1)))), (q23, .inl (cZ, 10, .inl (fun _ => 0)))]
set_option maxHeartbeats 4000000 in
set_option maxRecDepth 100000 in
theorem k_Track (l : Launch) (D : va_G) (cI cZ cQ : ClassId) (h0 sz : Nat) : Met l ky_Track kw_Track kr_Track (va_Pc [.ref h0] (fun U => U.heap.size = sz ∧ va_P D qCl [(h0, .inr (1, [.null, .null, .null, .int 0]))] U.heap ∧ va_K D qCl (q_Tys cI cZ cQ) U ∧ va_D (fun _ => True) [(h0, .inr (1, [.null, .null, .null, .int 0]))])) (va_Qv (fun _ : Unit => True) (fun _ t => kB_Track D cI cZ cQ h0 sz t) (kA_Track h0 sz)) 3 30 (kA_Track h0 sz) := by
  refine Met.ofW (cc := prog_6_method_1_code) (maxL := 2) (ret := none) (by decide) rfl ?_
  intro p e s m args below meth c s₁ B hml hv
  obtain ⟨rfl, hsz, hP, hK, hD0⟩ := hv
  have hx := B.exec
  have hb := B.bytes
  have hr := B.returns
  have hts0 := atoms_spec (ws := kw_Track) B.pre
  have hts : ∀ w ∈ q_WS, w.before _ s = true := fun w hw => hts0 w (List.mem_cons_of_mem _ hw)
  have hown : s.vm.findClass qR1 = some m.cls := findClass_of_methodNamed B.named
  have hlocks := B.notSynchronized
  have hin : meth.name = "<init>" := (name_of_methodNamed B.named B.method).1
  subst hsz
  have hD : va_D (kA_Track h0 s.heap.size) [(h0, .inr (1, [.null, .null, .null, .int 0]))] := hD0.self (sz := s.heap.size)
  have hBe : ∀ t, kB_Track D cI cZ cQ h0 s.heap.size t = kB_Track D cI cZ cQ h0 s.heap.size t := fun _ => rfl
  unfold kB_Track
  generalize hA0 : kA_Track h0 s.heap.size = A at hD ⊢
  have hA : ∀ q : Nat, s.heap.size ≤ q → A q := fun q h => by rw [← hA0]; exact Or.inr h
  have hS : va_S A s.heap s.heap [] := va_S.rf
  have hP : va_P D qCl [(h0, .inr (1, [.null, .null, .null, .int 0]))] s.heap := hP
  have hl := lv_entry ([.ref h0]) (n := 2) (Nat.le_of_ble_eq_true rfl)
  rw [lg_entry_eq]
  generalize (lg_sl ([.ref h0]) ++ List.replicate (2 - (lg_sl ([.ref h0])).length) Slot.unset).toArray = ls at hl ⊢
  have hl : lv_has ls 2 [(0, .ref h0)] := hl
  refine lv_aload_n hx hb dk_Track_0 rfl (lv_at hl 0 rfl) ?_
  refine W.objInit hx hb hown (hts _ (q_inAt (i := 88) (by decide +kernel) rfl)) (hts _ (q_inAt (i := 64) (by decide +kernel) rfl)) (hts _ (q_inAt (i := 65) (by decide +kernel) rfl)) rfl (by rw [hml]; exact hl.1) rfl dk_Track_1 (Nat.le_of_ble_eq_true rfl) (Nat.le_of_ble_eq_true rfl) ?_
  refine W.eq (g2 := F0 m 4 ls []) rfl ?_
  refine lv_aload_n hx hb dk_Track_4 rfl (lv_at hl 0 rfl) ?_
  refine lv_bipush (v := 10) hx hb dk_Track_5 (by decide) ?_
  refine q_newa (ty := .int) (a0 := (10, .inl (fun _ => 0))) hx hb (hts _ (q_inAt (i := 82) (by decide +kernel) rfl)) rfl hK hP hD hS hA (fun _ => rfl) (by decide) rfl (by decide) (show 1 ≤ 3 from by decide) (show 10 ≤ 30 from by decide) 0 rfl dk_Track_7 (fun q7 H hP hD hS => ?_)
  refine W.widen (k := 1) (n := 10) (by omega) (by omega) ?_
  have hP : va_P D qCl [(h0, .inr (1, [.null, .null, .null, .int 0])), (q7, .inl (cI, 10, .inl (fun _ => 0)))] H := hP
  have hD : va_D A [(h0, .inr (1, [.null, .null, .null, .int 0])), (q7, .inl (cI, 10, .inl (fun _ => 0)))] := hD
  refine va_putF (D := D) (ci := 1) (v := .ref q7) (ty := .array .int) (C := qR1) (T := qF1) (N := 4) hx hb hts (q_lays (c := 1) (by decide)).1 (qTy 1) (q_lays (c := 1) (by decide)).2.1 (q_lays (c := 1) (by decide)).2.2 hown hK hP hD hS 0 rfl rfl 0 (by decide) (hts _ (q_inAt (i := 89) (by decide +kernel) rfl)) (fun _ h9 => h9) rfl hin rfl (by decide +kernel) rfl rfl (Nat.le_of_ble_eq_true rfl) dk_Track_9 (fun H locs hP hD hS => ?_)
  have hP : va_P D qCl [(h0, .inr (1, [.ref q7, .null, .null, .int 0])), (q7, .inl (cI, 10, .inl (fun _ => 0)))] H := hP
  have hD : va_D A [(h0, .inr (1, [.ref q7, .null, .null, .int 0])), (q7, .inl (cI, 10, .inl (fun _ => 0)))] := hD
  refine lv_aload_n hx hb dk_Track_12 rfl (lv_at hl 0 rfl) ?_
  refine lv_bipush (v := 10) hx hb dk_Track_13 (by decide) ?_
  refine q_newa (ty := .int) (a0 := (10, .inl (fun _ => 0))) hx hb (hts _ (q_inAt (i := 82) (by decide +kernel) rfl)) rfl hK hP hD hS hA (fun _ => rfl) (by decide) rfl (by decide) (show 2 ≤ 3 from by decide) (show 20 ≤ 30 from by decide) 0 rfl dk_Track_15 (fun q15 H hP hD hS => ?_)
  refine W.widen (k := 2) (n := 20) (by omega) (by omega) ?_
  have hP : va_P D qCl [(h0, .inr (1, [.ref q7, .null, .null, .int 0])), (q7, .inl (cI, 10, .inl (fun _ => 0))), (q15, .inl (cI, 10, .inl (fun _ => 0)))] H := hP
  have hD : va_D A [(h0, .inr (1, [.ref q7, .null, .null, .int 0])), (q7, .inl (cI, 10, .inl (fun _ => 0))), (q15, .inl (cI, 10, .inl (fun _ => 0)))] := hD
  refine va_putF (D := D) (ci := 1) (v := .ref q15) (ty := .array .int) (C := qR1) (T := qF1) (N := 4) hx hb hts (q_lays (c := 1) (by decide)).1 (qTy 1) (q_lays (c := 1) (by decide)).2.1 (q_lays (c := 1) (by decide)).2.2 hown hK hP hD hS 0 rfl rfl 1 (by decide) (hts _ (q_inAt (i := 90) (by decide +kernel) rfl)) (fun _ h9 => h9) rfl hin rfl (by decide +kernel) rfl rfl (Nat.le_of_ble_eq_true rfl) dk_Track_17 (fun H locs hP hD hS => ?_)
  have hP : va_P D qCl [(h0, .inr (1, [.ref q7, .ref q15, .null, .int 0])), (q7, .inl (cI, 10, .inl (fun _ => 0))), (q15, .inl (cI, 10, .inl (fun _ => 0)))] H := hP
  have hD : va_D A [(h0, .inr (1, [.ref q7, .ref q15, .null, .int 0])), (q7, .inl (cI, 10, .inl (fun _ => 0))), (q15, .inl (cI, 10, .inl (fun _ => 0)))] := hD
  refine lv_aload_n hx hb dk_Track_20 rfl (lv_at hl 0 rfl) ?_
  refine lv_bipush (v := 10) hx hb dk_Track_21 (by decide) ?_
  refine q_newa (ty := .boolean) (a0 := (10, .inl (fun _ => 0))) hx hb (hts _ (q_inAt (i := 102) (by decide +kernel) rfl)) rfl hK hP hD hS hA (fun _ => rfl) (by decide) rfl (by decide) (show 3 ≤ 3 from by decide) (show 30 ≤ 30 from by decide) 1 rfl dk_Track_23 (fun q23 H hP hD hS => ?_)
  refine W.widen (k := 3) (n := 30) (by omega) (by omega) ?_
  have hP : va_P D qCl [(h0, .inr (1, [.ref q7, .ref q15, .null, .int 0])), (q7, .inl (cI, 10, .inl (fun _ => 0))), (q15, .inl (cI, 10, .inl (fun _ => 0))), (q23, .inl (cZ, 10, .inl (fun _ => 0)))] H := hP
  have hD : va_D A [(h0, .inr (1, [.ref q7, .ref q15, .null, .int 0])), (q7, .inl (cI, 10, .inl (fun _ => 0))), (q15, .inl (cI, 10, .inl (fun _ => 0))), (q23, .inl (cZ, 10, .inl (fun _ => 0)))] := hD
  refine va_putF (D := D) (ci := 1) (v := .ref q23) (ty := .array .boolean) (C := qR1) (T := qF1) (N := 4) hx hb hts (q_lays (c := 1) (by decide)).1 (qTy 1) (q_lays (c := 1) (by decide)).2.1 (q_lays (c := 1) (by decide)).2.2 hown hK hP hD hS 0 rfl rfl 2 (by decide) (hts _ (q_inAt (i := 91) (by decide +kernel) rfl)) (fun _ h9 => h9) rfl hin rfl (by decide +kernel) rfl rfl (Nat.le_of_ble_eq_true rfl) dk_Track_25 (fun H locs hP hD hS => ?_)
  have hP : va_P D qCl [(h0, .inr (1, [.ref q7, .ref q15, .ref q23, .int 0])), (q7, .inl (cI, 10, .inl (fun _ => 0))), (q15, .inl (cI, 10, .inl (fun _ => 0))), (q23, .inl (cZ, 10, .inl (fun _ => 0)))] H := hP
  have hD : va_D A [(h0, .inr (1, [.ref q7, .ref q15, .ref q23, .int 0])), (q7, .inl (cI, 10, .inl (fun _ => 0))), (q15, .inl (cI, 10, .inl (fun _ => 0))), (q23, .inl (cZ, 10, .inl (fun _ => 0)))] := hD
  refine lv_aload_n hx hb dk_Track_28 rfl (lv_at hl 0 rfl) ?_
  refine lv_iconst (v := 0) hx hb dk_Track_29 (by decide) ?_
  refine va_put (D := D) (ci := 1) (v := .int 0) (ty := .int) (C := qR1) (T := qF1) (N := 4) hx hb hts (q_lays (c := 1) (by decide)).1 (qTy 1) (q_lays (c := 1) (by decide)).2.1 (q_lays (c := 1) (by decide)).2.2 hown hK hP hD hS 0 rfl rfl 3 (by decide) (hts _ (q_inAt (i := 92) (by decide +kernel) rfl)) (fun _ h9 => h9) rfl (by decide +kernel) rfl rfl (Nat.le_of_ble_eq_true rfl) dk_Track_30 (fun H locs hP hD hS => ?_)
  have hP : va_P D qCl [(h0, .inr (1, [.ref q7, .ref q15, .ref q23, .int 0])), (q7, .inl (cI, 10, .inl (fun _ => 0))), (q15, .inl (cI, 10, .inl (fun _ => 0))), (q23, .inl (cZ, 10, .inl (fun _ => 0)))] H := hP
  have hD : va_D A [(h0, .inr (1, [.ref q7, .ref q15, .ref q23, .int 0])), (q7, .inl (cI, 10, .inl (fun _ => 0))), (q15, .inl (cI, 10, .inl (fun _ => 0))), (q23, .inl (cZ, 10, .inl (fun _ => 0)))] := hD
  refine lv_iconst (v := 0) hx hb dk_Track_33 (by decide) ?_
  refine lv_istore_n hx hb dk_Track_34 rfl hl (by decide) rfl (fun ls hl => ?_)
  have hl : lv_has ls 2 [(1, .int 0), (0, .ref h0)] := hl
  refine lv_iload_n hx hb dk_Track_35 rfl (lv_at hl 0 rfl) ?_
  refine lv_bipush (v := 10) hx hb dk_Track_36 (by decide) ?_
  refine lv_icmp_ge hx hb dk_Track_38 rfl (fun z => absurd z (by decide)) (fun _ => ?_)
  refine lv_aload_n hx hb dk_Track_41 rfl (lv_at hl 1 rfl) ?_
  refine va_get (D := D) (ci := 1) (C := qR1) (T := qF1) (N := 4) (v := .ref q15) hx hb hts (q_lays (c := 1) (by decide)).1 hown hK hP 0 rfl rfl 1 (by decide) (hts _ (q_inAt (i := 90) (by decide +kernel) rfl)) (fun _ h9 => h9) rfl dk_Track_42 ?_
  refine lv_iload_n hx hb dk_Track_45 rfl (lv_at hl 0 rfl) ?_
  refine lv_iconst (v := -1) hx hb dk_Track_46 (by decide) ?_
  refine va_iast hx hb hK hP hD hS 2 0 rfl rfl (i := 0) (x := -1) (nI_in (c := 0) (N := 10) (by decide) (by decide)) dk_Track_47 (fun H locs hP hD hS => ?_)
  have hP : va_P D qCl [(h0, .inr (1, [.ref q7, .ref q15, .ref q23, .int 0])), (q7, .inl (cI, 10, .inl (fun _ => 0))), (q15, .inl (cI, 10, .inl (upd (fun _ => 0) 0 (-1)))), (q23, .inl (cZ, 10, .inl (fun _ => 0)))] H := hP
  have hD : va_D A [(h0, .inr (1, [.ref q7, .ref q15, .ref q23, .int 0])), (q7, .inl (cI, 10, .inl (fun _ => 0))), (q15, .inl (cI, 10, .inl (upd (fun _ => 0) 0 (-1)))), (q23, .inl (cZ, 10, .inl (fun _ => 0)))] := hD
  refine lv_iinc (k := 0) (v := 1) hx hb dk_Track_48 hl rfl (by decide) (by decide) rfl (fun ls hl => ?_)
  have hl : lv_has ls 2 [(1, .int 1), (0, .ref h0)] := hl
  refine lv_goto hx hb dk_Track_51 rfl ?_
  refine lv_iload_n hx hb dk_Track_35 rfl (lv_at hl 0 rfl) ?_
  refine lv_bipush (v := 10) hx hb dk_Track_36 (by decide) ?_
  refine lv_icmp_ge hx hb dk_Track_38 rfl (fun z => absurd z (by decide)) (fun _ => ?_)
  refine lv_aload_n hx hb dk_Track_41 rfl (lv_at hl 1 rfl) ?_
  refine va_get (D := D) (ci := 1) (C := qR1) (T := qF1) (N := 4) (v := .ref q15) hx hb hts (q_lays (c := 1) (by decide)).1 hown hK hP 0 rfl rfl 1 (by decide) (hts _ (q_inAt (i := 90) (by decide +kernel) rfl)) (fun _ h9 => h9) rfl dk_Track_42 ?_
  refine lv_iload_n hx hb dk_Track_45 rfl (lv_at hl 0 rfl) ?_
  refine lv_iconst (v := -1) hx hb dk_Track_46 (by decide) ?_
  refine va_iast hx hb hK hP hD hS 2 0 rfl rfl (i := 1) (x := -1) (nI_in (c := 1) (N := 10) (by decide) (by decide)) dk_Track_47 (fun H locs hP hD hS => ?_)
  have hP : va_P D qCl [(h0, .inr (1, [.ref q7, .ref q15, .ref q23, .int 0])), (q7, .inl (cI, 10, .inl (fun _ => 0))), (q15, .inl (cI, 10, .inl (upd (upd (fun _ => 0) 0 (-1)) 1 (-1)))), (q23, .inl (cZ, 10, .inl (fun _ => 0)))] H := hP
  have hD : va_D A [(h0, .inr (1, [.ref q7, .ref q15, .ref q23, .int 0])), (q7, .inl (cI, 10, .inl (fun _ => 0))), (q15, .inl (cI, 10, .inl (upd (upd (fun _ => 0) 0 (-1)) 1 (-1)))), (q23, .inl (cZ, 10, .inl (fun _ => 0)))] := hD
  refine lv_iinc (k := 0) (v := 2) hx hb dk_Track_48 hl rfl (by decide) (by decide) rfl (fun ls hl => ?_)
  have hl : lv_has ls 2 [(1, .int 2), (0, .ref h0)] := hl
  refine lv_goto hx hb dk_Track_51 rfl ?_
  refine lv_iload_n hx hb dk_Track_35 rfl (lv_at hl 0 rfl) ?_
  refine lv_bipush (v := 10) hx hb dk_Track_36 (by decide) ?_
  refine lv_icmp_ge hx hb dk_Track_38 rfl (fun z => absurd z (by decide)) (fun _ => ?_)
  refine lv_aload_n hx hb dk_Track_41 rfl (lv_at hl 1 rfl) ?_
  refine va_get (D := D) (ci := 1) (C := qR1) (T := qF1) (N := 4) (v := .ref q15) hx hb hts (q_lays (c := 1) (by decide)).1 hown hK hP 0 rfl rfl 1 (by decide) (hts _ (q_inAt (i := 90) (by decide +kernel) rfl)) (fun _ h9 => h9) rfl dk_Track_42 ?_
  refine lv_iload_n hx hb dk_Track_45 rfl (lv_at hl 0 rfl) ?_
  refine lv_iconst (v := -1) hx hb dk_Track_46 (by decide) ?_
  refine va_iast hx hb hK hP hD hS 2 0 rfl rfl (i := 2) (x := -1) (nI_in (c := 2) (N := 10) (by decide) (by decide)) dk_Track_47 (fun H locs hP hD hS => ?_)
  have hP : va_P D qCl [(h0, .inr (1, [.ref q7, .ref q15, .ref q23, .int 0])), (q7, .inl (cI, 10, .inl (fun _ => 0))), (q15, .inl (cI, 10, .inl (upd (upd (upd (fun _ => 0) 0 (-1)) 1 (-1)) 2 (-1)))), (q23, .inl (cZ, 10, .inl (fun _ => 0)))] H := hP
  have hD : va_D A [(h0, .inr (1, [.ref q7, .ref q15, .ref q23, .int 0])), (q7, .inl (cI, 10, .inl (fun _ => 0))), (q15, .inl (cI, 10, .inl (upd (upd (upd (fun _ => 0) 0 (-1)) 1 (-1)) 2 (-1)))), (q23, .inl (cZ, 10, .inl (fun _ => 0)))] := hD
  refine lv_iinc (k := 0) (v := 3) hx hb dk_Track_48 hl rfl (by decide) (by decide) rfl (fun ls hl => ?_)
  have hl : lv_has ls 2 [(1, .int 3), (0, .ref h0)] := hl
  refine lv_goto hx hb dk_Track_51 rfl ?_
  refine lv_iload_n hx hb dk_Track_35 rfl (lv_at hl 0 rfl) ?_
  refine lv_bipush (v := 10) hx hb dk_Track_36 (by decide) ?_
  refine lv_icmp_ge hx hb dk_Track_38 rfl (fun z => absurd z (by decide)) (fun _ => ?_)
  refine lv_aload_n hx hb dk_Track_41 rfl (lv_at hl 1 rfl) ?_
  refine va_get (D := D) (ci := 1) (C := qR1) (T := qF1) (N := 4) (v := .ref q15) hx hb hts (q_lays (c := 1) (by decide)).1 hown hK hP 0 rfl rfl 1 (by decide) (hts _ (q_inAt (i := 90) (by decide +kernel) rfl)) (fun _ h9 => h9) rfl dk_Track_42 ?_
  refine lv_iload_n hx hb dk_Track_45 rfl (lv_at hl 0 rfl) ?_
  refine lv_iconst (v := -1) hx hb dk_Track_46 (by decide) ?_
  refine va_iast hx hb hK hP hD hS 2 0 rfl rfl (i := 3) (x := -1) (nI_in (c := 3) (N := 10) (by decide) (by decide)) dk_Track_47 (fun H locs hP hD hS => ?_)
  have hP : va_P D qCl [(h0, .inr (1, [.ref q7, .ref q15, .ref q23, .int 0])), (q7, .inl (cI, 10, .inl (fun _ => 0))), (q15, .inl (cI, 10, .inl (upd (upd (upd (upd (fun _ => 0) 0 (-1)) 1 (-1)) 2 (-1)) 3 (-1)))), (q23, .inl (cZ, 10, .inl (fun _ => 0)))] H := hP
  have hD : va_D A [(h0, .inr (1, [.ref q7, .ref q15, .ref q23, .int 0])), (q7, .inl (cI, 10, .inl (fun _ => 0))), (q15, .inl (cI, 10, .inl (upd (upd (upd (upd (fun _ => 0) 0 (-1)) 1 (-1)) 2 (-1)) 3 (-1)))), (q23, .inl (cZ, 10, .inl (fun _ => 0)))] := hD
  refine lv_iinc (k := 0) (v := 4) hx hb dk_Track_48 hl rfl (by decide) (by decide) rfl (fun ls hl => ?_)
  have hl : lv_has ls 2 [(1, .int 4), (0, .ref h0)] := hl
  refine lv_goto hx hb dk_Track_51 rfl ?_
  refine lv_iload_n hx hb dk_Track_35 rfl (lv_at hl 0 rfl) ?_
  refine lv_bipush (v := 10) hx hb dk_Track_36 (by decide) ?_
  refine lv_icmp_ge hx hb dk_Track_38 rfl (fun z => absurd z (by decide)) (fun _ => ?_)
  refine lv_aload_n hx hb dk_Track_41 rfl (lv_at hl 1 rfl) ?_
  refine va_get (D := D) (ci := 1) (C := qR1) (T := qF1) (N := 4) (v := .ref q15) hx hb hts (q_lays (c := 1) (by decide)).1 hown hK hP 0 rfl rfl 1 (by decide) (hts _ (q_inAt (i := 90) (by decide +kernel) rfl)) (fun _ h9 => h9) rfl dk_Track_42 ?_
  refine lv_iload_n hx hb dk_Track_45 rfl (lv_at hl 0 rfl) ?_
  refine lv_iconst (v := -1) hx hb dk_Track_46 (by decide) ?_
  refine va_iast hx hb hK hP hD hS 2 0 rfl rfl (i := 4) (x := -1) (nI_in (c := 4) (N := 10) (by decide) (by decide)) dk_Track_47 (fun H locs hP hD hS => ?_)
  have hP : va_P D qCl [(h0, .inr (1, [.ref q7, .ref q15, .ref q23, .int 0])), (q7, .inl (cI, 10, .inl (fun _ => 0))), (q15, .inl (cI, 10, .inl (upd (upd (upd (upd (upd (fun _ => 0) 0 (-1)) 1 (-1)) 2 (-1)) 3 (-1)) 4 (-1)))), (q23, .inl (cZ, 10, .inl (fun _ => 0)))] H := hP
  have hD : va_D A [(h0, .inr (1, [.ref q7, .ref q15, .ref q23, .int 0])), (q7, .inl (cI, 10, .inl (fun _ => 0))), (q15, .inl (cI, 10, .inl (upd (upd (upd (upd (upd (fun _ => 0) 0 (-1)) 1 (-1)) 2 (-1)) 3 (-1)) 4 (-1)))), (q23, .inl (cZ, 10, .inl (fun _ => 0)))] := hD
  refine lv_iinc (k := 0) (v := 5) hx hb dk_Track_48 hl rfl (by decide) (by decide) rfl (fun ls hl => ?_)
  have hl : lv_has ls 2 [(1, .int 5), (0, .ref h0)] := hl
  refine lv_goto hx hb dk_Track_51 rfl ?_
  refine lv_iload_n hx hb dk_Track_35 rfl (lv_at hl 0 rfl) ?_
  refine lv_bipush (v := 10) hx hb dk_Track_36 (by decide) ?_
  refine lv_icmp_ge hx hb dk_Track_38 rfl (fun z => absurd z (by decide)) (fun _ => ?_)
  refine lv_aload_n hx hb dk_Track_41 rfl (lv_at hl 1 rfl) ?_
  refine va_get (D := D) (ci := 1) (C := qR1) (T := qF1) (N := 4) (v := .ref q15) hx hb hts (q_lays (c := 1) (by decide)).1 hown hK hP 0 rfl rfl 1 (by decide) (hts _ (q_inAt (i := 90) (by decide +kernel) rfl)) (fun _ h9 => h9) rfl dk_Track_42 ?_
  refine lv_iload_n hx hb dk_Track_45 rfl (lv_at hl 0 rfl) ?_
  refine lv_iconst (v := -1) hx hb dk_Track_46 (by decide) ?_
  refine va_iast hx hb hK hP hD hS 2 0 rfl rfl (i := 5) (x := -1) (nI_in (c := 5) (N := 10) (by decide) (by decide)) dk_Track_47 (fun H locs hP hD hS => ?_)
  have hP : va_P D qCl [(h0, .inr (1, [.ref q7, .ref q15, .ref q23, .int 0])), (q7, .inl (cI, 10, .inl (fun _ => 0))), (q15, .inl (cI, 10, .inl (upd (upd (upd (upd (upd (upd (fun _ => 0) 0 (-1)) 1 (-1)) 2 (-1)) 3 (-1)) 4 (-1)) 5 (-1)))), (q23, .inl (cZ, 10, .inl (fun _ => 0)))] H := hP
  have hD : va_D A [(h0, .inr (1, [.ref q7, .ref q15, .ref q23, .int 0])), (q7, .inl (cI, 10, .inl (fun _ => 0))), (q15, .inl (cI, 10, .inl (upd (upd (upd (upd (upd (upd (fun _ => 0) 0 (-1)) 1 (-1)) 2 (-1)) 3 (-1)) 4 (-1)) 5 (-1)))), (q23, .inl (cZ, 10, .inl (fun _ => 0)))] := hD
  refine lv_iinc (k := 0) (v := 6) hx hb dk_Track_48 hl rfl (by decide) (by decide) rfl (fun ls hl => ?_)
  have hl : lv_has ls 2 [(1, .int 6), (0, .ref h0)] := hl
  refine lv_goto hx hb dk_Track_51 rfl ?_
  refine lv_iload_n hx hb dk_Track_35 rfl (lv_at hl 0 rfl) ?_
  refine lv_bipush (v := 10) hx hb dk_Track_36 (by decide) ?_
  refine lv_icmp_ge hx hb dk_Track_38 rfl (fun z => absurd z (by decide)) (fun _ => ?_)
  refine lv_aload_n hx hb dk_Track_41 rfl (lv_at hl 1 rfl) ?_
  refine va_get (D := D) (ci := 1) (C := qR1) (T := qF1) (N := 4) (v := .ref q15) hx hb hts (q_lays (c := 1) (by decide)).1 hown hK hP 0 rfl rfl 1 (by decide) (hts _ (q_inAt (i := 90) (by decide +kernel) rfl)) (fun _ h9 => h9) rfl dk_Track_42 ?_
  refine lv_iload_n hx hb dk_Track_45 rfl (lv_at hl 0 rfl) ?_
  refine lv_iconst (v := -1) hx hb dk_Track_46 (by decide) ?_
  refine va_iast hx hb hK hP hD hS 2 0 rfl rfl (i := 6) (x := -1) (nI_in (c := 6) (N := 10) (by decide) (by decide)) dk_Track_47 (fun H locs hP hD hS => ?_)
  have hP : va_P D qCl [(h0, .inr (1, [.ref q7, .ref q15, .ref q23, .int 0])), (q7, .inl (cI, 10, .inl (fun _ => 0))), (q15, .inl (cI, 10, .inl (upd (upd (upd (upd (upd (upd (upd (fun _ => 0) 0 (-1)) 1 (-1)) 2 (-1)) 3 (-1)) 4 (-1)) 5 (-1)) 6 (-1)))), (q23, .inl (cZ, 10, .inl (fun _ => 0)))] H := hP
  have hD : va_D A [(h0, .inr (1, [.ref q7, .ref q15, .ref q23, .int 0])), (q7, .inl (cI, 10, .inl (fun _ => 0))), (q15, .inl (cI, 10, .inl (upd (upd (upd (upd (upd (upd (upd (fun _ => 0) 0 (-1)) 1 (-1)) 2 (-1)) 3 (-1)) 4 (-1)) 5 (-1)) 6 (-1)))), (q23, .inl (cZ, 10, .inl (fun _ => 0)))] := hD
  refine lv_iinc (k := 0) (v := 7) hx hb dk_Track_48 hl rfl (by decide) (by decide) rfl (fun ls hl => ?_)
  have hl : lv_has ls 2 [(1, .int 7), (0, .ref h0)] := hl
  refine lv_goto hx hb dk_Track_51 rfl ?_
  refine lv_iload_n hx hb dk_Track_35 rfl (lv_at hl 0 rfl) ?_
  refine lv_bipush (v := 10) hx hb dk_Track_36 (by decide) ?_
  refine lv_icmp_ge hx hb dk_Track_38 rfl (fun z => absurd z (by decide)) (fun _ => ?_)
  refine lv_aload_n hx hb dk_Track_41 rfl (lv_at hl 1 rfl) ?_
  refine va_get (D := D) (ci := 1) (C := qR1) (T := qF1) (N := 4) (v := .ref q15) hx hb hts (q_lays (c := 1) (by decide)).1 hown hK hP 0 rfl rfl 1 (by decide) (hts _ (q_inAt (i := 90) (by decide +kernel) rfl)) (fun _ h9 => h9) rfl dk_Track_42 ?_
  refine lv_iload_n hx hb dk_Track_45 rfl (lv_at hl 0 rfl) ?_
  refine lv_iconst (v := -1) hx hb dk_Track_46 (by decide) ?_
  refine va_iast hx hb hK hP hD hS 2 0 rfl rfl (i := 7) (x := -1) (nI_in (c := 7) (N := 10) (by decide) (by decide)) dk_Track_47 (fun H locs hP hD hS => ?_)
  have hP : va_P D qCl [(h0, .inr (1, [.ref q7, .ref q15, .ref q23, .int 0])), (q7, .inl (cI, 10, .inl (fun _ => 0))), (q15, .inl (cI, 10, .inl (upd (upd (upd (upd (upd (upd (upd (upd (fun _ => 0) 0 (-1)) 1 (-1)) 2 (-1)) 3 (-1)) 4 (-1)) 5 (-1)) 6 (-1)) 7 (-1)))), (q23, .inl (cZ, 10, .inl (fun _ => 0)))] H := hP
  have hD : va_D A [(h0, .inr (1, [.ref q7, .ref q15, .ref q23, .int 0])), (q7, .inl (cI, 10, .inl (fun _ => 0))), (q15, .inl (cI, 10, .inl (upd (upd (upd (upd (upd (upd (upd (upd (fun _ => 0) 0 (-1)) 1 (-1)) 2 (-1)) 3 (-1)) 4 (-1)) 5 (-1)) 6 (-1)) 7 (-1)))), (q23, .inl (cZ, 10, .inl (fun _ => 0)))] := hD
  refine lv_iinc (k := 0) (v := 8) hx hb dk_Track_48 hl rfl (by decide) (by decide) rfl (fun ls hl => ?_)
  have hl : lv_has ls 2 [(1, .int 8), (0, .ref h0)] := hl
  refine lv_goto hx hb dk_Track_51 rfl ?_
  refine lv_iload_n hx hb dk_Track_35 rfl (lv_at hl 0 rfl) ?_
  refine lv_bipush (v := 10) hx hb dk_Track_36 (by decide) ?_
  refine lv_icmp_ge hx hb dk_Track_38 rfl (fun z => absurd z (by decide)) (fun _ => ?_)
  refine lv_aload_n hx hb dk_Track_41 rfl (lv_at hl 1 rfl) ?_
  refine va_get (D := D) (ci := 1) (C := qR1) (T := qF1) (N := 4) (v := .ref q15) hx hb hts (q_lays (c := 1) (by decide)).1 hown hK hP 0 rfl rfl 1 (by decide) (hts _ (q_inAt (i := 90) (by decide +kernel) rfl)) (fun _ h9 => h9) rfl dk_Track_42 ?_
  refine lv_iload_n hx hb dk_Track_45 rfl (lv_at hl 0 rfl) ?_
  refine lv_iconst (v := -1) hx hb dk_Track_46 (by decide) ?_
  refine va_iast hx hb hK hP hD hS 2 0 rfl rfl (i := 8) (x := -1) (nI_in (c := 8) (N := 10) (by decide) (by decide)) dk_Track_47 (fun H locs hP hD hS => ?_)
  have hP : va_P D qCl [(h0, .inr (1, [.ref q7, .ref q15, .ref q23, .int 0])), (q7, .inl (cI, 10, .inl (fun _ => 0))), (q15, .inl (cI, 10, .inl (upd (upd (upd (upd (upd (upd (upd (upd (upd (fun _ => 0) 0 (-1)) 1 (-1)) 2 (-1)) 3 (-1)) 4 (-1)) 5 (-1)) 6 (-1)) 7 (-1)) 8 (-1)))), (q23, .inl (cZ, 10, .inl (fun _ => 0)))] H := hP
  have hD : va_D A [(h0, .inr (1, [.ref q7, .ref q15, .ref q23, .int 0])), (q7, .inl (cI, 10, .inl (fun _ => 0))), (q15, .inl (cI, 10, .inl (upd (upd (upd (upd (upd (upd (upd (upd (upd (fun _ => 0) 0 (-1)) 1 (-1)) 2 (-1)) 3 (-1)) 4 (-1)) 5 (-1)) 6 (-1)) 7 (-1)) 8 (-1)))), (q23, .inl (cZ, 10, .inl (fun _ => 0)))] := hD
  refine lv_iinc (k := 0) (v := 9) hx hb dk_Track_48 hl rfl (by decide) (by decide) rfl (fun ls hl => ?_)
  have hl : lv_has ls 2 [(1, .int 9), (0, .ref h0)] := hl
  refine lv_goto hx hb dk_Track_51 rfl ?_
  refine lv_iload_n hx hb dk_Track_35 rfl (lv_at hl 0 rfl) ?_
  refine lv_bipush (v := 10) hx hb dk_Track_36 (by decide) ?_
  refine lv_icmp_ge hx hb dk_Track_38 rfl (fun z => absurd z (by decide)) (fun _ => ?_)
  refine lv_aload_n hx hb dk_Track_41 rfl (lv_at hl 1 rfl) ?_
  refine va_get (D := D) (ci := 1) (C := qR1) (T := qF1) (N := 4) (v := .ref q15) hx hb hts (q_lays (c := 1) (by decide)).1 hown hK hP 0 rfl rfl 1 (by decide) (hts _ (q_inAt (i := 90) (by decide +kernel) rfl)) (fun _ h9 => h9) rfl dk_Track_42 ?_
  refine lv_iload_n hx hb dk_Track_45 rfl (lv_at hl 0 rfl) ?_
  refine lv_iconst (v := -1) hx hb dk_Track_46 (by decide) ?_
  refine va_iast hx hb hK hP hD hS 2 0 rfl rfl (i := 9) (x := -1) (nI_in (c := 9) (N := 10) (by decide) (by decide)) dk_Track_47 (fun H locs hP hD hS => ?_)
  have hP : va_P D qCl [(h0, .inr (1, [.ref q7, .ref q15, .ref q23, .int 0])), (q7, .inl (cI, 10, .inl (fun _ => 0))), (q15, .inl (cI, 10, .inl (upd (upd (upd (upd (upd (upd (upd (upd (upd (upd (fun _ => 0) 0 (-1)) 1 (-1)) 2 (-1)) 3 (-1)) 4 (-1)) 5 (-1)) 6 (-1)) 7 (-1)) 8 (-1)) 9 (-1)))), (q23, .inl (cZ, 10, .inl (fun _ => 0)))] H := hP
  have hD : va_D A [(h0, .inr (1, [.ref q7, .ref q15, .ref q23, .int 0])), (q7, .inl (cI, 10, .inl (fun _ => 0))), (q15, .inl (cI, 10, .inl (upd (upd (upd (upd (upd (upd (upd (upd (upd (upd (fun _ => 0) 0 (-1)) 1 (-1)) 2 (-1)) 3 (-1)) 4 (-1)) 5 (-1)) 6 (-1)) 7 (-1)) 8 (-1)) 9 (-1)))), (q23, .inl (cZ, 10, .inl (fun _ => 0)))] := hD
  refine lv_iinc (k := 0) (v := 10) hx hb dk_Track_48 hl rfl (by decide) (by decide) rfl (fun ls hl => ?_)
  have hl : lv_has ls 2 [(1, .int 10), (0, .ref h0)] := hl
  refine lv_goto hx hb dk_Track_51 rfl ?_
  refine lv_iload_n hx hb dk_Track_35 rfl (lv_at hl 0 rfl) ?_
  refine lv_bipush (v := 10) hx hb dk_Track_36 (by decide) ?_
  refine lv_icmp_ge hx hb dk_Track_38 rfl (fun _ => ?_) (fun z => absurd z (by decide))
  have hP9 := hP.sub (ws' := [(h0, .inr (1, [.ref q7, .ref q15, .ref q23, .int 0])), (q7, .inl (cI, 10, .inl (fun _ => 0))), (q15, .inl (cI, 10, .inl (upd (upd (upd (upd (upd (upd (upd (upd (upd (upd (fun _ => 0) 0 (-1)) 1 (-1)) 2 (-1)) 3 (-1)) 4 (-1)) 5 (-1)) 6 (-1)) 7 (-1)) 8 (-1)) 9 (-1)))), (q23, .inl (cZ, 10, .inl (fun _ => 0)))]) [0, 1, 2, 3] rfl
  have hD9 := hD.sub (ws' := [(h0, .inr (1, [.ref q7, .ref q15, .ref q23, .int 0])), (q7, .inl (cI, 10, .inl (fun _ => 0))), (q15, .inl (cI, 10, .inl (upd (upd (upd (upd (upd (upd (upd (upd (upd (upd (fun _ => 0) 0 (-1)) 1 (-1)) 2 (-1)) 3 (-1)) 4 (-1)) 5 (-1)) 6 (-1)) 7 (-1)) 8 (-1)) 9 (-1)))), (q23, .inl (cZ, 10, .inl (fun _ => 0)))]) [0, 1, 2, 3] (by decide) rfl
  exact W.vret hx hb hr (fun t ht hW => ⟨⟨(), rfl, trivial, ⟨q7, q15, q23, by rw [ht]; exact hP9, hD9⟩⟩, hS.F ht⟩) hS.2.2 dk_Track_54
theorem dk_Books_0 : decode prog_2_method_1_code 0 = .ok (.aload_n 0, 1) := by decide +kernel
theorem dk_Books_1 : decode prog_2_method_1_code 1 = .ok (.invokespecial 3, 3) := by decide +kernel
theorem dk_Books_4 : decode prog_2_method_1_code 4 = .ok (.aload_n 0, 1) := by decide +kernel
theorem dk_Books_5 : decode prog_2_method_1_code 5 = .ok (.bipush 10, 2) := by decide +kernel
theorem dk_Books_7 : decode prog_2_method_1_code 7 = .ok (.bipush 6, 2) := by decide +kernel
theorem dk_Books_9 : decode prog_2_method_1_code 9 = .ok (.multianewarray 9 2, 4) := by decide +kernel
theorem dk_Books_13 : decode prog_2_method_1_code 13 = .ok (.putfield 11, 3) := by decide +kernel
theorem dk_Books_16 : decode prog_2_method_1_code 16 = .ok (.return_, 1) := by decide +kernel
/-- CashRecycler$Books.<init> -/
def ky_Books : MethodName := ⟨"CashRecycler$Books", "<init>", "()V"⟩
def kw_Books : List Cond := .code ky_Books prog_2_method_1_code 1 none :: q_WS
def kr_Books : Room := { frames := 1, cells := 11, slots := 70, locals := 12 }
def kA_Books (h0 sz : Nat) : Nat → Prop := va_A [(h0, .inr (4, [.null]))] sz
def kB_Books (D : va_G) (cI cZ cQ : ClassId) (h0 sz : Nat) (t : State) : Prop := ∃ q9 : Nat, va_P D qCl [(h0, .inr (4, [.ref q9])), (q9, .inl (cQ, 10, .inr (.inr (.inr (.inr (fun j => some (q9 + 1 + j))))))), (q9 + 1 + 0, .inl (cI, 6, .inl (fun _ => 0))), (q9 + 1 + 1, .inl (cI, 6, .inl (fun _ => 0))), (q9 + 1 + 2, .inl (cI, 6, .inl (fun _ => 0))), (q9 + 1 + 3, .inl (cI, 6, .inl (fun _ => 0))), (q9 + 1 + 4, .inl (cI, 6, .inl (fun _ => 0))), (q9 + 1 + 5, .inl (cI, 6, .inl (fun _ => 0))), (q9 + 1 + 6, .inl (cI, 6, .inl (fun _ => 0))), (q9 + 1 + 7, .inl (cI, 6, .inl (fun _ => 0))), (q9 + 1 + 8, .inl (cI, 6, .inl (fun _ => 0))), (q9 + 1 + 9, .inl (cI, 6, .inl (fun _ => 0)))] t.heap ∧ va_D (kA_Books h0 sz) [(h0, .inr (4, [.ref q9])), (q9, .inl (cQ, 10, .inr (.inr (.inr (.inr (fun j => some (q9 + 1 + j))))))), (q9 + 1 + 0, .inl (cI, 6, .inl (fun _ => 0))), (q9 + 1 + 1, .inl (cI, 6, .inl (fun _ => 0))), (q9 + 1 + 2, .inl (cI, 6, .inl (fun _ => 0))), (q9 + 1 + 3, .inl (cI, 6, .inl (fun _ => 0))), (q9 + 1 + 4, .inl (cI, 6, .inl (fun _ => 0))), (q9 + 1 + 5, .inl (cI, 6, .inl (fun _ => 0))), (q9 + 1 + 6, .inl (cI, 6, .inl (fun _ => 0))), (q9 + 1 + 7, .inl (cI, 6, .inl (fun _ => 0))), (q9 + 1 + 8, .inl (cI, 6, .inl (fun _ => 0))), (q9 + 1 + 9, .inl (cI, 6, .inl (fun _ => 0)))]
set_option maxHeartbeats 4000000 in
set_option maxRecDepth 100000 in
theorem k_Books (l : Launch) (D : va_G) (cI cZ cQ : ClassId) (h0 sz : Nat) : Met l ky_Books kw_Books kr_Books (va_Pc [.ref h0] (fun U => U.heap.size = sz ∧ va_P D qCl [(h0, .inr (4, [.null]))] U.heap ∧ va_K D qCl (q_Tys cI cZ cQ) U ∧ va_D (fun _ => True) [(h0, .inr (4, [.null]))] ∧ va_Nw (.arrayOver (.array .int)) U)) (va_Qv (fun _ : Unit => True) (fun _ t => kB_Books D cI cZ cQ h0 sz t) (kA_Books h0 sz)) 11 70 (kA_Books h0 sz) := by
  refine Met.ofW (cc := prog_2_method_1_code) (maxL := 1) (ret := none) (by decide) rfl ?_
  intro p e s m args below meth c s₁ B hml hv
  obtain ⟨rfl, hsz, hP, hK, hD0, hX⟩ := hv
  have hx := B.exec
  have hb := B.bytes
  have hr := B.returns
  have hts0 := atoms_spec (ws := kw_Books) B.pre
  have hts : ∀ w ∈ q_WS, w.before _ s = true := fun w hw => hts0 w (List.mem_cons_of_mem _ hw)
  have hown : s.vm.findClass qR4 = some m.cls := findClass_of_methodNamed B.named
  have hlocks := B.notSynchronized
  have hin : meth.name = "<init>" := (name_of_methodNamed B.named B.method).1
  subst hsz
  have hD : va_D (kA_Books h0 s.heap.size) [(h0, .inr (4, [.null]))] := hD0.self (sz := s.heap.size)
  have hBe : ∀ t, kB_Books D cI cZ cQ h0 s.heap.size t = kB_Books D cI cZ cQ h0 s.heap.size t := fun _ => rfl
  unfold kB_Books
  generalize hA0 : kA_Books h0 s.heap.size = A at hD ⊢
  have hA : ∀ q : Nat, s.heap.size ≤ q → A q := fun q h => by rw [← hA0]; exact Or.inr h
  have hS : va_S A s.heap s.heap [] := va_S.rf
  have hP : va_P D qCl [(h0, .inr (4, [.null]))] s.heap := hP
  have hl := lv_entry ([.ref h0]) (n := 1) (Nat.le_of_ble_eq_true rfl)
  rw [lg_entry_eq]
  generalize (lg_sl ([.ref h0]) ++ List.replicate (1 - (lg_sl ([.ref h0])).length) Slot.unset).toArray = ls at hl ⊢
  have hl : lv_has ls 1 [(0, .ref h0)] := hl
  refine lv_aload_n hx hb dk_Books_0 rfl (lv_at hl 0 rfl) ?_
  refine W.objInit hx hb hown (hts _ (q_inAt (i := 134) (by decide +kernel) rfl)) (hts _ (q_inAt (i := 64) (by decide +kernel) rfl)) (hts _ (q_inAt (i := 65) (by decide +kernel) rfl)) rfl (by rw [hml]; exact hl.1) rfl dk_Books_1 (Nat.le_of_ble_eq_true rfl) (Nat.le_of_ble_eq_true rfl) ?_
  refine W.eq (g2 := F0 m 4 ls []) rfl ?_
  refine lv_aload_n hx hb dk_Books_4 rfl (lv_at hl 0 rfl) ?_
  refine lv_bipush (v := 10) hx hb dk_Books_5 (by decide) ?_
  refine lv_bipush (v := 6) hx hb dk_Books_7 (by decide) ?_
  refine q_multi hx hb hown (hts _ (q_inAt (i := 135) (by decide +kernel) rfl)) (va_ov rfl hX) (hts _ (q_inAt (i := 82) (by decide +kernel) rfl)) hK hP hD hS hA (show 11 ≤ 11 from by decide) (show 70 ≤ 70 from by decide) dk_Books_9 (fun q9 H hP hD hS => ?_)
  refine W.widen (k := 11) (n := 70) (by omega) (by omega) ?_
  have hP : va_P D qCl [(h0, .inr (4, [.null])), (q9, .inl (cQ, 10, .inr (.inr (.inr (.inr (fun j => some (q9 + 1 + j))))))), (q9 + 1 + 0, .inl (cI, 6, .inl (fun _ => 0))), (q9 + 1 + 1, .inl (cI, 6, .inl (fun _ => 0))), (q9 + 1 + 2, .inl (cI, 6, .inl (fun _ => 0))), (q9 + 1 + 3, .inl (cI, 6, .inl (fun _ => 0))), (q9 + 1 + 4, .inl (cI, 6, .inl (fun _ => 0))), (q9 + 1 + 5, .inl (cI, 6, .inl (fun _ => 0))), (q9 + 1 + 6, .inl (cI, 6, .inl (fun _ => 0))), (q9 + 1 + 7, .inl (cI, 6, .inl (fun _ => 0))), (q9 + 1 + 8, .inl (cI, 6, .inl (fun _ => 0))), (q9 + 1 + 9, .inl (cI, 6, .inl (fun _ => 0)))] H := hP
  have hD : va_D A [(h0, .inr (4, [.null])), (q9, .inl (cQ, 10, .inr (.inr (.inr (.inr (fun j => some (q9 + 1 + j))))))), (q9 + 1 + 0, .inl (cI, 6, .inl (fun _ => 0))), (q9 + 1 + 1, .inl (cI, 6, .inl (fun _ => 0))), (q9 + 1 + 2, .inl (cI, 6, .inl (fun _ => 0))), (q9 + 1 + 3, .inl (cI, 6, .inl (fun _ => 0))), (q9 + 1 + 4, .inl (cI, 6, .inl (fun _ => 0))), (q9 + 1 + 5, .inl (cI, 6, .inl (fun _ => 0))), (q9 + 1 + 6, .inl (cI, 6, .inl (fun _ => 0))), (q9 + 1 + 7, .inl (cI, 6, .inl (fun _ => 0))), (q9 + 1 + 8, .inl (cI, 6, .inl (fun _ => 0))), (q9 + 1 + 9, .inl (cI, 6, .inl (fun _ => 0)))] := hD
  refine va_putF (D := D) (ci := 4) (v := .ref q9) (ty := .array (.array .int)) (C := qR4) (T := qF4) (N := 1) hx hb hts (q_lays (c := 4) (by decide)).1 (qTy 4) (q_lays (c := 4) (by decide)).2.1 (q_lays (c := 4) (by decide)).2.2 hown hK hP hD hS 0 rfl rfl 0 (by decide) (hts _ (q_inAt (i := 137) (by decide +kernel) rfl)) (fun _ h9 => h9) rfl hin rfl (by decide +kernel) rfl rfl (Nat.le_of_ble_eq_true rfl) dk_Books_13 (fun H locs hP hD hS => ?_)
  have hP : va_P D qCl [(h0, .inr (4, [.ref q9])), (q9, .inl (cQ, 10, .inr (.inr (.inr (.inr (fun j => some (q9 + 1 + j))))))), (q9 + 1 + 0, .inl (cI, 6, .inl (fun _ => 0))), (q9 + 1 + 1, .inl (cI, 6, .inl (fun _ => 0))), (q9 + 1 + 2, .inl (cI, 6, .inl (fun _ => 0))), (q9 + 1 + 3, .inl (cI, 6, .inl (fun _ => 0))), (q9 + 1 + 4, .inl (cI, 6, .inl (fun _ => 0))), (q9 + 1 + 5, .inl (cI, 6, .inl (fun _ => 0))), (q9 + 1 + 6, .inl (cI, 6, .inl (fun _ => 0))), (q9 + 1 + 7, .inl (cI, 6, .inl (fun _ => 0))), (q9 + 1 + 8, .inl (cI, 6, .inl (fun _ => 0))), (q9 + 1 + 9, .inl (cI, 6, .inl (fun _ => 0)))] H := hP
  have hD : va_D A [(h0, .inr (4, [.ref q9])), (q9, .inl (cQ, 10, .inr (.inr (.inr (.inr (fun j => some (q9 + 1 + j))))))), (q9 + 1 + 0, .inl (cI, 6, .inl (fun _ => 0))), (q9 + 1 + 1, .inl (cI, 6, .inl (fun _ => 0))), (q9 + 1 + 2, .inl (cI, 6, .inl (fun _ => 0))), (q9 + 1 + 3, .inl (cI, 6, .inl (fun _ => 0))), (q9 + 1 + 4, .inl (cI, 6, .inl (fun _ => 0))), (q9 + 1 + 5, .inl (cI, 6, .inl (fun _ => 0))), (q9 + 1 + 6, .inl (cI, 6, .inl (fun _ => 0))), (q9 + 1 + 7, .inl (cI, 6, .inl (fun _ => 0))), (q9 + 1 + 8, .inl (cI, 6, .inl (fun _ => 0))), (q9 + 1 + 9, .inl (cI, 6, .inl (fun _ => 0)))] := hD
  have hP9 := hP.sub (ws' := [(h0, .inr (4, [.ref q9])), (q9, .inl (cQ, 10, .inr (.inr (.inr (.inr (fun j => some (q9 + 1 + j))))))), (q9 + 1 + 0, .inl (cI, 6, .inl (fun _ => 0))), (q9 + 1 + 1, .inl (cI, 6, .inl (fun _ => 0))), (q9 + 1 + 2, .inl (cI, 6, .inl (fun _ => 0))), (q9 + 1 + 3, .inl (cI, 6, .inl (fun _ => 0))), (q9 + 1 + 4, .inl (cI, 6, .inl (fun _ => 0))), (q9 + 1 + 5, .inl (cI, 6, .inl (fun _ => 0))), (q9 + 1 + 6, .inl (cI, 6, .inl (fun _ => 0))), (q9 + 1 + 7, .inl (cI, 6, .inl (fun _ => 0))), (q9 + 1 + 8, .inl (cI, 6, .inl (fun _ => 0))), (q9 + 1 + 9, .inl (cI, 6, .inl (fun _ => 0)))]) [0, 1, 2, 3, 4, 5, 6, 7, 8, 9, 10, 11] rfl
  have hD9 := hD.sub (ws' := [(h0, .inr (4, [.ref q9])), (q9, .inl (cQ, 10, .inr (.inr (.inr (.inr (fun j => some (q9 + 1 + j))))))), (q9 + 1 + 0, .inl (cI, 6, .inl (fun _ => 0))), (q9 + 1 + 1, .inl (cI, 6, .inl (fun _ => 0))), (q9 + 1 + 2, .inl (cI, 6, .inl (fun _ => 0))), (q9 + 1 + 3, .inl (cI, 6, .inl (fun _ => 0))), (q9 + 1 + 4, .inl (cI, 6, .inl (fun _ => 0))), (q9 + 1 + 5, .inl (cI, 6, .inl (fun _ => 0))), (q9 + 1 + 6, .inl (cI, 6, .inl (fun _ => 0))), (q9 + 1 + 7, .inl (cI, 6, .inl (fun _ => 0))), (q9 + 1 + 8, .inl (cI, 6, .inl (fun _ => 0))), (q9 + 1 + 9, .inl (cI, 6, .inl (fun _ => 0)))]) [0, 1, 2, 3, 4, 5, 6, 7, 8, 9, 10, 11] (by decide) rfl
  exact W.vret hx hb hr (fun t ht hW => ⟨⟨(), rfl, trivial, ⟨q9, by rw [ht]; exact hP9, hD9⟩⟩, hS.F ht⟩) hS.2.2 dk_Books_16
