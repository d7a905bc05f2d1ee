/-! CAUGHT: an exception that a callee threw, in a method with handlers whose classes may still have to be resolved. -/
section QGO
variable {E : CtlPost} {e : Env} {d : Bool} {acts : List Action} {s : State} {f : JFrame} {a : Addr} {Q : Handler → Pre}
theorem q_goX {x : ExceptionTableEntry} {t : List ExceptionTableEntry} {c : ClassId} {vm' : Vm} {cell : Cell} (hx : covers x f.pc = true) (h0 : x.catchType ≠ 0) (hg : (Jvm.resolveClass f.method.cls x.catchType).Gives e.toSetting s.vm (.ok c) vm') (hsz : vm'.classes.size ≤ s.vm.classes.size)
    (hcell : s.heap[a]? = some cell) (hobj : ∀ k, cell.vm ≠ .statics k) (hk : ∃ k, vm'.classes[cell.cls]? = some k) (hc : ∃ k, vm'.classes[c]? = some k) :
    wp (findHandler.go f a (x :: t)) Q E e d acts s ↔ if vm'.assignable cell.cls c = true then Q (.found x.handlerPc) d acts (s.setVm vm') else wp (findHandler.go f a t) Q E e d acts (s.setVm vm') := by
  obtain ⟨ha, ht⟩ := hg.op (op := VmOp.resolveClass f.method.cls x.catchType) rfl
  simp only [covers] at hx
  cases hfit : vm'.assignable cell.cls c <;>
    simp [findHandler.go, hx, h0, ha, ht, hsz, hcell, hobj, hk, hc, hfit, VmOp.dirties, VmOp.acts]
/-- the search ends at that handler, and leaves those tables -/
def q_Finds (e : Env) (s : State) (f : JFrame) (a : Addr) (h : Handler) (vm' : Vm) : Prop :=
  ∀ (Q : Handler → Pre) (E : CtlPost) (d : Bool) (acts : List Action), wp (findHandler f a) Q E e d acts s ↔ Q h d acts (s.setVm vm')
theorem q_stepCatch {r : List Frame} {pc : Nat} {vm' : Vm} (hfind : q_Finds e s f a (.found pc) vm') : (stepThrowing e s a (.java f :: r)).Is ((s.setVm vm').setFrames (.java { f with pc := pc, stack := [.ref a] } :: r)) [] := by
  simp only [stepThrowing, searchFrame, vmDo]
  generalize hr : Sem.go _ e false [] s = res
  obtain ⟨as, rfl, ha⟩ := Sem.eq_ok_of hr (a := Handler.found pc) (s' := s.setVm vm') (acts' := []) (by simp [hfind _ _ _ _])
  exact ⟨rfl, ha⟩
end QGO
/-- the same of the search through a list of rows -/
def q_FG (e : Env) (s : State) (f : JFrame) (a : Addr) (es : List ExceptionTableEntry) (h : Handler) (vm' : Vm) : Prop :=
  ∀ (Q : Handler → Pre) (E : CtlPost) (d : Bool) (acts : List Action), wp (findHandler.go f a es) Q E e d acts s ↔ Q h d acts (s.setVm vm')
section QFG
variable {e : Env} {s U : State} {f : JFrame} {a : Addr} {x : ExceptionTableEntry} {t : List ExceptionTableEntry} {cell : Cell} {args : Array Value} {own X Y : String}
theorem q_fgX (hpl : e.platform.magicAccessors = ({} : Platform).magicAccessors) (hW : s.WarmedH U.vm) (hown : s.vm.findClass own = some f.method.cls) (hx : covers x f.pc = true) (h0 : x.catchType ≠ 0) (hlink : (Cond.classLink own x.catchType Y).before args s = true)
    (hcell : U.heap[a]? = some cell) (hvm : cell.vm = .none) (hX : s.vm.findClass X = some cell.cls) : ∃ (vm' : Vm) (cY : ClassId), s.WarmedH vm' ∧ s.vm.findClass Y = some cY ∧ ∀ (Q : Handler → Pre) (E : CtlPost) (d : Bool) (acts : List Action),
      wp (findHandler.go f a (x :: t)) Q E e d acts U ↔ if s.vm.assignable cell.cls cY = true then Q (.found x.handlerPc) d acts (U.setVm vm') else wp (findHandler.go f a t) Q E e d acts (U.setVm vm') := by
  obtain ⟨cY, hY, hcl⟩ := Cond.classLink_spec hown hlink e.platform hpl
  obtain ⟨hg, hw, -⟩ := State.classEntry (e := e) hW hcl
  refine ⟨_, cY, hw, hY, fun Q E d acts => ?_⟩
  have hal : U.vm.Alike (U.vm.noted f.method.cls x.catchType (.cls cY)) := hW.alike.symm.trans hw.alike
  obtain ⟨k1, hk1⟩ := Vm.classAt_of_findClass hX
  obtain ⟨k2, hk2⟩ := Vm.classAt_of_findClass hY
  obtain ⟨k1', hk1', -⟩ := hw.alike.2.2 _ _ hk1
  obtain ⟨k2', hk2', -⟩ := hw.alike.2.2 _ _ hk2
  rw [q_goX hx h0 hg (Vm.Alike.size_le hal) hcell (fun k z => by rw [hvm] at z; cases z) ⟨k1', hk1'⟩ ⟨k2', hk2'⟩, hw.alike.assignable]
theorem q_fg_hit (hpl : e.platform.magicAccessors = ({} : Platform).magicAccessors) (hW : s.WarmedH U.vm) (hown : s.vm.findClass own = some f.method.cls) (hx : covers x f.pc = true) (h0 : x.catchType ≠ 0) (hlink : (Cond.classLink own x.catchType X).before args s = true)
    (hcell : U.heap[a]? = some cell) (hvm : cell.vm = .none) (hX : s.vm.findClass X = some cell.cls) (hc : va_Nw (.castable X X) s) : ∃ vm', s.WarmedH vm' ∧ q_FG e U f a (x :: t) (.found x.handlerPc) vm' := by
  obtain ⟨vm', cY, hw, hY, key⟩ := q_fgX (t := t) hpl hW hown hx h0 hlink hcell hvm hX
  obtain ⟨c1, c2, g1, g2, g3⟩ := Cond.castable_spec hc
  cases hX.symm.trans g1
  cases hY.symm.trans g2
  exact ⟨vm', hw, fun Q E d acts => by rw [key, if_pos g3]⟩
theorem q_fg_pass (hpl : e.platform.magicAccessors = ({} : Platform).magicAccessors) (hW : s.WarmedH U.vm) (hown : s.vm.findClass own = some f.method.cls) (hx : covers x f.pc = true) (h0 : x.catchType ≠ 0) (hlink : (Cond.classLink own x.catchType Y).before args s = true)
    (hcell : U.heap[a]? = some cell) (hvm : cell.vm = .none) (hX : s.vm.findClass X = some cell.cls) (hc : va_Nc X Y s) {h : Handler} (hrest : ∀ vm1, s.WarmedH vm1 → ∃ vm', s.WarmedH vm' ∧ q_FG e (U.setVm vm1) f a t h vm') : ∃ vm', s.WarmedH vm' ∧ q_FG e U f a (x :: t) h vm' := by
  obtain ⟨vm1, cY, hw, hY, key⟩ := q_fgX (t := t) hpl hW hown hx h0 hlink hcell hvm hX
  obtain ⟨c1, c2, g1, g2, g3⟩ := hc
  cases hX.symm.trans g1
  cases hY.symm.trans g2
  obtain ⟨vm', hw', hg⟩ := hrest vm1 hw
  exact ⟨vm', hw', fun Q E d acts => by rw [key, if_neg (by rw [g3]; decide), hg]; rfl⟩
end QFG
theorem q_caught {tb : Tables} {e : Env} {s target : State} {g : JFrame} {c : Code} {below : List Frame} {a : Addr} (h : At s g.method c below) {pc : Nat} {vm' : Vm} (hfind : q_Finds e ((s.setTop g).pushFrame (.throwing a)) g a (.found pc) vm')
    (hrest : Steps tb e below ((s.setVm vm').setTop { g with pc := pc, stack := [.ref a] }) target) : Steps tb e below ((s.setTop g).pushFrame (.throwing a)) target := by
  obtain ⟨hgo, hw⟩ := h.throwing a
  refine Steps.head hgo hw ?_
  rw [stepThread_throwing (frames_entered h.top _), (q_stepCatch (s := (s.setTop g).pushFrame (.throwing a)) hfind).1]
  obtain ⟨g₀, hg⟩ := Option.isSome_iff_exists.mp h.top
  obtain ⟨r, hr⟩ := State.topJava?_eq_some.mp hg
  have hr' : (s.setVm vm').frames = .java g₀ :: r := hr
  rw [State.setTop_of_frames _ hr'] at hrest
  have e1 : (((s.setTop g).pushFrame (.throwing a)).setVm vm').setFrames (.java { g with pc := pc, stack := [.ref a] } :: s.frames.tail) = (s.setVm vm').setFrames (.java { g with pc := pc, stack := [.ref a] } :: r) := by
    rw [State.pushFrame, State.setTop_of_frames _ hr, hr]
    generalize (s.setFrames (.java g :: r)).frames = fr
    have e2 : ∀ (u : State) (fs : List Frame), (u.setVm vm').setFrames fs = (u.setFrames fs).setVm vm' := fun _ _ => rfl
    rw [e2, e2, State.setFrames_setFrames, State.setFrames_setFrames]
    rfl
  rw [e1]
  exact hrest
/-- a free contract whose end is a throw -/
abbrev q_FreeT (l : Launch) (y : MethodName) (ws : List Cond) (rm : Room) (Pc : Array Value → State → Prop) (Qt : State → Addr → State → Prop) : Prop :=
  MetFree l y (headSpec ws rm) Pc (fun _ _ _ _ _ => True) (fun _ st o t => ∃ ex : Addr, o = .threw ex ∧ Qt st ex t)
section QCT
variable {p : Program} {l : Launch} {e : Env} {R : Room} {s : State} {m : MethodId} {args : Array Value} {below : List Frame} {meth : Method} {c : Code} {H : Heap} {locs : List Loc} {cells slots : Nat} {Q : State → Prop}
variable {y : MethodName} {bytes cc : ByteArray} {maxL nL n index : Nat} {ret : Option FieldType} {ws : List Cond} {rm : Room} {Pc : Array Value → State → Prop} {Ts : List Cond} {own C : String} {b : Addr} {As rest : List Value} {g : JFrame}
variable {D : va_G} {ad : Nat → Nat} {cI cZ cQ : ClassId} {x : Nat} {h' : HP}
theorem q_callT (S : CallFix p m c cc nL s args Ts own) (hM : q_FreeT l y ws rm Pc (q_QT D ad cI cZ cQ x h')) (cw : CallW R s args own C index y bytes maxL ret ws rm 1 6 n) (hp : PreV s H C b Pc As)
    (hg : g.method = m) (hn : As.length = n) (hsize : g.locals.size = nL) (hstack : g.stack = As.reverse ++ .ref b :: rest) (hW : 2 * g.monitorRoom + (rest.map fun v => v.category).sum ≤ 8) (hdg : decode cc g.pc = .ok (.invokevirtual index, 3)) (hf : cells + 1 ≤ R.cells ∧ slots + 6 ≤ R.slots)
    {T : State} (hT : T.heap = H) (X : Stand p l e R s m args below meth c T locs cells slots) :
    ∃ (ex : Addr) (st₀ t T' : State) (L : List Loc), st₀.heap = H ∧ s.vm.Alike st₀.vm ∧ Stand p l e R s m args below meth c T' (locs ++ L) (cells + 1) (slots + 6) ∧ (∀ q ∈ L, q_A ad q.base) ∧ T'.heap = t.heap ∧ T'.vm = t.vm ∧ q_QT D ad cI cZ cQ x h' st₀ ex t ∧
      ∀ target, Steps p.tables e below ((T'.setTop { g with stack := rest }).pushFrame (.throwing ex)) target → Steps p.tables e below (T.setTop g) target := by
  obtain ⟨⟨hrc, hrs, hfr, hlo, hws, hcw, hcode, hini, hy, hlen, hl⟩, hin, hse⟩ := cw
  obtain ⟨hx, hb, hml, ho, -⟩ := S
  obtain ⟨hbl, ⟨cellB, hcB, hoB, hclB⟩, hPc⟩ := hp
  subst hb
  obtain ⟨mk, methM, hnamed, hmethM, hstM, habM⟩ := Cond.instanceMethod_spec hin
  obtain ⟨methM', cM, hmethM', hcM, -, hlM, -, -, -, hsigM⟩ := Cond.code_spec hnamed hcode
  cases hmethM.symm.trans hmethM'
  obtain ⟨c2, r2, m2, q1, q2, q3, q4, kP, hkP, hkPi⟩ := Cond.selects_spec hse
  cases hclB.symm.trans q1
  cases (State.methodFound?_of_named hnamed hy).symm.trans q2
  cases hnamed.symm.trans q3
  have hselP : selectMethod e.platform s.vm cellB.cls mk = .method mk := by rw [Launch.admits_selectMethod X.admits]; exact q4
  obtain ⟨vm₁, X₁, hstep₁⟩ := X.invokevirtual hx ho hl hnamed hmethM hstM hkP hkPi hy (a := b) (cell := cellB) (by rw [hT]; exact hcB)
    (fun z h => by rw [h] at hoB; cases hoB) hselP hmethM habM hkP hkPi (g := g) hg (argsL := As) (rest := rest) (hn.trans (hlen _ hsigM)) hstack hdg
  have hn1 : (T.setVm vm₁).methodNamed? y = some mk := X₁.named hnamed
  obtain ⟨kY, hkY, -⟩ := className_of_methodNamed hn1
  have hini1 : (Cond.initialized y.cls).before #[] (T.setVm vm₁) = true := word_at X₁.warmed (Or.inl rfl) hini
  have hinitY : kY.init = .initialized := Cond.initialized_spec (findClass_of_methodNamed hn1) hkY hini1
  have hm1 : (T.setVm vm₁).vm.method? mk = some methM := by rw [X₁.warmed.alike.method?]; exact hmethM
  have hA : At (T.setVm vm₁) ({ g with stack := rest } : JFrame).method c below := by show At (T.setVm vm₁) g.method c below; rw [hg]; exact X₁.here
  have happ : (headSpec ws rm).appliesLoose y e.platform ((T.setVm vm₁).calling { g with stack := rest } mk (Value.ref b :: As).toArray) = true :=
    Spec.appliesLoose_calling (g := { g with stack := rest }) hA hdg hn1 hkY hinitY
      (X₁.room_calling (g := { g with stack := rest }) (R' := (headSpec ws rm).room) (hsize.trans hml.symm) hm1 hcM hfr (by show 2 * g.monitorRoom + (rest.map fun v => v.category).sum + (cM.maxLocals + 11) + rm.locals ≤ R.locals; rw [hlM]; omega) (by show cells + rm.cells ≤ R.cells; rw [hrc]; exact hf.1) (by show slots + rm.slots ≤ R.slots; rw [hrs]; exact hf.2))
      (atoms_intro fun w hw => hws w hw _ _ X₁.warmed)
  obtain ⟨mid, hmid⟩ := hA.above
  have hfrm : ((T.setVm vm₁).setTop { g with stack := rest }).frames = (.java { g with stack := rest } :: mid) ++ below := by rw [State.frames_setTop' _ hA.top, hmid]; rfl
  have hPc1 := hbl _ _ { g with stack := rest } mk (hPc (T.setVm vm₁) hT X₁.warmed)
  obtain ⟨o, s₂, hsteps, -, hend, ex, rfl, hq⟩ := Steps.callFree hM p X₁.admits X₁.cas X₁.clock (acts := []) hfrm happ hPc1 trivial
  have hq' : q_QT D ad cI cZ cQ x h' ((T.setVm vm₁).calling { g with stack := rest } mk (Value.ref b :: As).toArray) ex s₂ := hq
  obtain ⟨-, -, -, -, L, ⟨w1, w2⟩, w3⟩ := id hq'
  have hend' : Ended s₂ (.java { g with stack := rest } :: below) (.threw ex) := by
    rw [State.frames_setTop' _ hA.top, X₁.tail] at hend
    exact hend
  obtain ⟨T', X', -, -, e1⟩ := X₁.outOfThrown (g := { g with stack := rest }) hg hend' w1 w2
  have eh : T'.heap = s₂.heap := by rw [e1]; simp [State.pushFrame, State.setFrames, State.setTop, State.modifyTopJava]
  have ev : T'.vm = s₂.vm := by rw [e1]; simp [State.pushFrame, State.setFrames, State.setTop, State.modifyTopJava]
  refine ⟨ex, (T.setVm vm₁).calling { g with stack := rest } mk (Value.ref b :: As).toArray, s₂, T', L, by show T.heap = H; exact hT, X₁.warmed.alike, X', w3, eh, ev, hq', fun target ht => hstep₁ _ fun acts => ?_⟩
  rw [doInvoke_state]
  rw [← e1] at ht
  exact hsteps.trans ht
end QCT
