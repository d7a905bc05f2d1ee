/-! WHAT THE LAW'S OWN WALK KNOWS, and its calls of the small methods. -/
def q_A0 (s : State) : Nat → Prop := fun q => s.heap.size ≤ q
/-- what holds at the law's start, and is used at every call -/
def q_Law (D : va_G) (ad : Nat → Nat) (cI cZ cQ : ClassId) (aO : Nat) (cL : ClassId) (s : State) : Prop :=
  (va_K D qCl (q_Tys cI cZ cQ) s ∧ va_Z "CashRecycler" "GOAL_SEGMENT" "[I" (.ref (ad qGS)) (q_A0 s) s s.heap ∧ va_T .int (ad qGS) 9 (fun k => .int (qGf k)) (q_A0 s) s s.heap ∧ q_Nest s ∧ ∀ i j, i < qNW → j < qNW → ad i = ad j → i = j) ∧
  (((∀ x ∈ qEx, va_Nw (.castable x x) s) ∧ ∀ y ∈ q_dcl, va_Nw (.declares y) s) ∧ (va_Zq "java/lang/Throwable" "UNASSIGNED_STACK" q_steD (q_A0 s) s s.heap ∧ va_Zq "java/lang/Throwable" "SUPPRESSED_SENTINEL" q_lisD (q_A0 s) s s.heap) ∧
    va_Nw (.laysStatic "java/lang/Throwable" "UNASSIGNED_STACK" q_steD) s ∧ va_Nw (.laysStatic "java/lang/Throwable" "SUPPRESSED_SENTINEL" q_lisD) s) ∧
  va_K D qCl [(cL, .long)] s ∧ (∀ X ∈ qEx, ∀ Y ∈ qEx, X ≠ Y → va_Nc X Y s) ∧ ¬ q_A ad aO ∧ (∀ q, q_AL ad aO q → q_A0 s q)
theorem q_ls0 {s U : State} {H : Heap} {locs : List Loc} {C n d : String} (hS : va_S (q_A0 s) s.heap H locs) (hU : U.heap = H) (hW : s.WarmedH U.vm) (hl : va_Nw (.laysStatic C n d) s) : va_Nw (.laysStatic C n d) U := by
  have h1 : (Cond.laysStatic C n d).before #[] (s.setVm U.vm) = true := Cond.before_shiftedFace (State.Shifted.of_warmed hW) _ rfl hl
  obtain ⟨c, k, i, f, a, cell, g1, g2, g3, g4, g5, g6, g7, g8, g9⟩ := Cond.laysStatic_spec (args := #[]) (first := s.setVm U.vm) (o := none) (s := s.setVm U.vm) (idx := []) h1
  have g5' : s.heap[a]? = some cell := g5
  have hlt := (Array.getElem?_eq_some_iff.mp g5').1
  have e5 : U.heap[a]? = some cell := by rw [hU, hS.2.1 a hlt (fun z => by have : s.heap.size ≤ a := z; omega)]; exact g5'
  have e1 : U.vm.findClass C = some c := g1
  have e2 : U.fieldFound? C n d = some (c, k, i, f) := g2
  show (Cond.laysStatic C n d).before #[] U = true
  simp [Cond.before, Cond.holds, Cond.value, e1, e2, g3, g4, e5, g6, g7, g8, g9]
section QLAW
variable {D : va_G} {ad : Nat → Nat} {cI cZ cQ cL : ClassId} {aO : Nat} {s U : State} {H : Heap} {locs : List Loc} {h : HP} {o : Int64}
theorem q_Law_sta (hL : q_Law D ad cI cZ cQ aO cL s) (hS : va_S (q_A0 s) s.heap H locs) (hU : U.heap = H) (hW : s.WarmedH U.vm) : q_Sta D ad cI cZ cQ U := by
  obtain ⟨⟨hK, hZ, hT, hN, hap⟩, -, -, -, -, hA⟩ := hL
  subst hU
  exact ⟨va_K.moved hW.alike hK, ((hZ.kept hS.2.1).moved hW.alike).narrow (fun q z => hA q (Or.inl z)), ((hT.kept hS.2.1).moved hW.alike).narrow (fun q z => hA q (Or.inl z)), ⟨hN.1.warmM hW, hN.2.warmF hW⟩, hap⟩
theorem q_Law_thr (hL : q_Law D ad cI cZ cQ aO cL s) (hS : va_S (q_A0 s) s.heap H locs) (hU : U.heap = H) (hW : s.WarmedH U.vm) : q_Thr ad U := by
  obtain ⟨-, ⟨⟨t1, t2⟩, ⟨t3, t4⟩, t5, t6⟩, -, -, -, hA⟩ := hL
  have e1 := q_ls0 hS hU hW t5
  have e2 := q_ls0 hS hU hW t6
  subst hU
  exact ⟨⟨fun x hx => (t1 x hx).warmC hW, fun y hy => (t2 y hy).warmD hW⟩, ⟨((t3.kept hS.2.1).moved hW.alike).narrow (fun q z => hA q (Or.inl z)), ((t4.kept hS.2.1).moved hW.alike).narrow (fun q z => hA q (Or.inl z))⟩, e1, e2⟩
theorem q_Law_pre (hL : q_Law D ad cI cZ cQ aO cL s) (hS : va_S (q_A0 s) s.heap H locs) (hJ : va_P D qCl (q_J ad cI cZ cQ aO cL h o) H) (hU : U.heap = H) (hW : s.WarmedH U.vm) : q_PreL D ad cI cZ cQ aO cL h o U := by
  have h1 := q_Law_sta hL hS hU hW
  have h2 := q_Law_thr hL hS hU hW
  obtain ⟨-, -, hKL, hNc, hO, -⟩ := hL
  subst hU
  exact ⟨hJ, h1, h2, va_K.moved hW.alike hKL, fun X hX Y hY hne => (hNc X hX Y hY hne).moved hW.alike, hO⟩
end QLAW
theorem q_blindL {D : va_G} {ad : Nat → Nat} {cI cZ cQ cL : ClassId} {aO : Nat} {as : List Value} {h : HP} {o : Int64} : FrameBlind (va_Pc as (q_PreL D ad cI cZ cQ aO cL h o)) := by
  intro a U g mk hv
  obtain ⟨h0, hJ, ⟨hK, hZ, hT, hN, hap⟩, ⟨⟨t1, t2⟩, ⟨t3, t4⟩, t5, t6⟩, hKL, hNc, hO⟩ := hv
  exact ⟨h0, hJ, ⟨va_K.moved (u := U) (U := U.calling g mk a) (Vm.Alike.refl U.vm) hK, va_Z.moved (u := U) (U := U.calling g mk a) (Vm.Alike.refl U.vm) hZ, va_T.moved (u := U) (U := U.calling g mk a) (Vm.Alike.refl U.vm) hT, ⟨hN.1.same rfl rfl, hN.2.same rfl rfl⟩, hap⟩,
    ⟨⟨fun x hx => (t1 x hx).same rfl rfl, fun y hy => (t2 y hy).same rfl rfl⟩, ⟨va_Zq.moved (u := U) (U := U.calling g mk a) (Vm.Alike.refl U.vm) t3, va_Zq.moved (u := U) (U := U.calling g mk a) (Vm.Alike.refl U.vm) t4⟩, t5, t6⟩,
    va_K.moved (u := U) (U := U.calling g mk a) (Vm.Alike.refl U.vm) hKL, fun X hX Y hY hne => (hNc X hX Y hY hne).moved (u := U) (U := U.calling g mk a) (Vm.Alike.refl U.vm), hO⟩
section QSW
variable {p : Program} {l : Launch} {e : Env} {R : Room} {s : State} {m : MethodId} {args : Array Value} {below : List Frame} {meth : Method} {c : Code} {H : Heap} {locs : List Loc} {cells slots : Nat} {Q : State → Prop}
variable {y : MethodName} {bytes cc : ByteArray} {maxL nL mc ms n index : Nat} {ret : Option FieldType} {hh : List (Nat × Nat × Nat × Nat)} {ws : List Cond} {rm : Room} {Pc : Array Value → State → Prop} {Qc : Array Value → State → Outcome → State → Prop} {free : Addr → Prop} {Ts : List Cond} {own : String} {As rest : List Value} {g : JFrame}
/-- a call of a static method that has handlers -/
theorem q_runSW (S : CallFix p m c cc nL s args Ts own) (hM : Met l y ws rm Pc Qc mc ms free) (hrc : rm.cells = mc) (hrs : rm.slots = ms) (hfr : rm.frames + 1 ≤ R.frames) (hlo : 8 + (maxL + 11) + rm.locals ≤ R.locals)
    (hws : ∀ w ∈ ws, ∀ (a' : Array Value) (U : State), s.WarmedH U.vm → w.before a' U = true) (hcw : Cond.codeWith y bytes maxL ret hh ∈ ws) (hcode : (Cond.codeWith y bytes maxL ret hh).before args s = true) (hini : (Cond.initialized y.cls).before args s = true) (hstat : (Cond.static y).before args s = true)
    (hl : (Cond.methodLink own index y).before args s = true) (hy : y.cls ≠ "java/lang/invoke/MethodHandle" ∧ y.cls ≠ "java/lang/invoke/VarHandle") (hlen : ∀ sig, parseMethodDescriptor y.desc = some sig → As.length = sig.parameters.length) (hp : PreS s H Pc As)
    (hg : g.method = m) (hsize : g.locals.size = nL) (hstack : g.stack = As.reverse ++ rest) (hW : 2 * g.monitorRoom + (rest.map fun v => v.category).sum ≤ 8) (hdg : decode cc g.pc = .ok (.invokestatic index, 3)) (hf : cells + mc ≤ R.cells ∧ slots + ms ≤ R.slots) :
    va_Run p l e R s m args below meth c H locs cells slots mc ms g rest (Qc As.toArray) (free) := by
  obtain ⟨hx, hb, hml, ho, -⟩ := S
  subst hb
  have hK : Back l R p e below s args y 3 8 (PreOf R mc ms Pc) (PostOf Qc mc ms free) := va_backW (hh := hh) (bytes := bytes) (maxL := maxL) (ret := ret) hM hp.1 hrc hrs hfr hlo hws hcw (fun a' U hW => word_at hW (Or.inl rfl) hini)
  obtain ⟨mk, methM, cM, hnamed, hmethM, -, -, -, -, -, -, hsig⟩ := Cond.codeWith_spec hcode
  have hstatic : methM.isStatic = true := Cond.static_spec hnamed hmethM hstat
  obtain ⟨kP, hkP, -⟩ := className_of_methodNamed hnamed
  have hinitP : kP.init = .initialized := Cond.initialized_spec (findClass_of_methodNamed hnamed) hkP hini
  intro T hT X
  obtain ⟨vm₁, X₁, hstep₁⟩ := X.invokestatic hx ho hl hnamed hmethM hstatic hkP hinitP hy (g := g) hg (argsL := As) (rest := rest) (hlen _ hsig) hstack hdg
  obtain ⟨v, ⟨U', l2, c2, s2⟩, X', ⟨g', mk', t, L, e1, e2, hq, h1, hL, h2, h3⟩, hsteps⟩ := hK m meth c ⟨T.setVm vm₁, locs, cells, slots⟩ { g with stack := rest } (.invokestatic index) mk As.toArray X₁ hg (hsize.trans hml.symm) hdg hW (X₁.named hnamed) ⟨hf.1, hf.2, hp.2 (T.setVm vm₁) hT X₁.warmed⟩
  dsimp only [Pt.U, Pt.locs, Pt.cells, Pt.slots] at X' e1 e2 h1 h2 h3 hsteps
  subst h1; subst h2; subst h3
  exact ⟨v, (T.setVm vm₁).calling g' mk' As.toArray, t, U', L, hT, X', hL, e1, e2, hq, fun target h => hstep₁ _ fun acts => by rw [doInvoke_state]; exact hsteps.trans h⟩
end QSW
