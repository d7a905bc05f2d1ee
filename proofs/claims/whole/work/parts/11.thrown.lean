/-! THE THROW ITSELF. A walk may be looked at as one that begins where it stands: so the constructor's law gives that the heap stays as it is there. -/
section QROOT
variable {p : Program} {l : Launch} {e : Env} {R : Room} {s : State} {m : MethodId} {args : Array Value} {below : List Frame} {meth : Method} {c : Code} {T : State} {locs : List Loc} {cells slots : Nat}
theorem q_reroot (X : Stand p l e R s m args below meth c T locs cells slots) {R' : Room} (hf : R'.frames ≤ R.frames) (hl : R'.locals ≤ R.locals) (hc : cells + R'.cells ≤ R.cells) (hs : slots + R'.slots ≤ R.slots) : Stand p l e R' (T.setFrames (.invoking m args :: below)) m args below meth c T [] 0 0 := by
  obtain ⟨g₀, hfr⟩ := X.frames_eq
  have hcur : T.cur < T.threads.size := State.cur_lt_of_frames hfr
  have hF : (T.setFrames (.invoking m args :: below)).frames = .invoking m args :: below := State.frames_setFrames _ hcur
  have hm' : (T.setFrames (.invoking m args :: below)).vm.method? m = some meth := X.method'
  obtain ⟨t, ht, -⟩ := State.frames_cons hF
  obtain ⟨t2, ht2, -⟩ := State.frames_cons hfr
  refine ⟨X.admits, X.cas, X.clock, hF, ?_, ?_, hm', X.code, X.here, X.tail, State.WarmedH.refl (T.setFrames (.invoking m args :: below)), (State.stackLimits_setFrames e.platform T _).symm, (State.stackBytes_setFrames T _).symm, ?_⟩
  · have hr := X.room
    have h1 := X.heapSize
    have h2 := X.used
    have h3 := X.book
    have e1 := State.localsInUse_invoking X.frames X.method X.code
    have e2 := State.localsInUse_invoking hF hm' X.code
    have e3 := State.stackLimits_setFrames e.platform T (.invoking m args :: below)
    have e4 := State.stackBytes_setFrames T (.invoking m args :: below)
    simp only [State.hasRoom, Bool.and_eq_true, decide_eq_true_eq] at hr ⊢
    rw [e3, e4, X.limits, X.bytes, hF, e2]
    rw [X.frames, e1] at hr
    obtain ⟨⟨⟨⟨r1, r2, r3, r4, r5, r6⟩, r7⟩, r8⟩, r9⟩ := hr
    refine ⟨⟨⟨⟨by omega, by omega, by omega, by omega, by omega, r6⟩, ?_⟩, ?_⟩, h3⟩
    · show T.heap.size + R'.cells ≤ _
      omega
    · show T.slotsUsed + R'.slots ≤ _
      omega
  · have hh := X.hears
    cases below with
    | nil => simp only [State.hears] at hh ⊢; rw [hm']; rw [X.method] at hh; exact hh
    | cons b r =>
      cases b <;> simp only [State.hears] at hh ⊢ <;> first
        | exact hh
        | (rw [hm']; rw [X.method] at hh; exact hh)
        | (rename_i g
           have e1 : (T.setFrames (.invoking m args :: .java g :: r)).code? g.method = s.code? g.method := by
             rw [State.code?_eq, State.code?_eq]
             show (T.vm.method? g.method).bind _ = _
             rw [X.warmed.alike.method?]
           rw [e1]; exact hh)
  · have h := (State.sameButNew.refl (T.setFrames (.invoking m args :: below)) ht).setFrames T.frames (State.cur_lt_of_frames hF)
    have e : (T.setFrames (.invoking m args :: below)).setFrames T.frames = T := by rw [State.setFrames_setFrames, State.setFrames_self ht2]
    rw [e] at h
    exact h
end QROOT
def q_exN (x : Nat) : String := qEx.getD x ""
/-- how a throw leaves things: the exception is a new cell of its class, the world is that of h', nothing else has changed -/
def q_QT (D : va_G) (ad : Nat → Nat) (cI cZ cQ : ClassId) (x : Nat) (h' : HP) (st : State) (ex : Addr) (t : State) : Prop :=
  (∃ ce : Cell, t.heap[ex]? = some ce ∧ ce.vm = .none ∧ st.vm.findClass (q_exN x) = some ce.cls) ∧ st.heap.size ≤ ex ∧ va_P D qCl (q_W ad cI cZ cQ h') t.heap ∧ va_F (q_A ad) st t ∧
  ∃ L : List Loc, (st.WarmedH t.vm ∧ st.sameButNew ({ t with vm := st.vm } : State) L 1 6) ∧ ∀ q ∈ L, q_A ad q.base
def q_MQT (below : List Frame) (D : va_G) (ad : Nat → Nat) (cI cZ cQ : ClassId) (x : Nat) (h' : HP) (s : State) : State → Prop := fun t => ∃ ex : Addr, t.status = .running ∧ Ended t below (.threw ex) ∧ q_QT D ad cI cZ cQ x h' s ex t
def q_xw (e : String × Nat × Nat × Nat) : Bool := decide (e.1 = "CashRecycler") && decide (e.2.2.2 < 4) && q_atOk e.2.2.1 (q_exN e.2.2.2) && decide (q_exN e.2.2.2 ∈ qEx) && decide (Cond.classLink "CashRecycler" e.2.1 (q_exN e.2.2.2) ∈ lw_tbl) && decide (Cond.instantiable (q_exN e.2.2.2) 6 ∈ lw_tbl) && decide (Cond.initialized (q_exN e.2.2.2) ∈ lw_tbl) && Bundle.fit (q_exN e.2.2.2)
theorem q_xok : qXtL.all q_xw = true := by decide +kernel
theorem q_fits : ∀ n ∈ q_chn, Bundle.fit n = true := by decide +kernel
section QTHROW
variable {p : Program} {l : Launch} {e : Env} {R : Room} {s : State} {m : MethodId} {args : Array Value} {below : List Frame} {meth : Method} {c : Code} {H : Heap} {locs : List Loc}
variable {D : va_G} {ad : Nat → Nat} {cI cZ cQ : ClassId} {j : Nat} {ls : Array Slot}
/-- the end of the making: invokespecial, athrow -/
theorem q_made (hx : p.tables.exec = Jvm.exec) (htr : e.platform.stackTraces = false) (hlk : meth.locks = false) (hnh : c.exceptionTable.isEmpty = true) {own cls : String} {ic : Nat} (hown : s.vm.findClass own = some m.cls) (hcls : Bundle.fit cls = true)
    (hat : ∀ w ∈ Bundle.ownAtoms0 own ic cls q_chn, w.before args s = true) {cX : ClassId} {kX : Class} (hfX : s.vm.findClass cls = some cX) (hkX : s.vm.classes[cX]? = some kX) (hH : H[s.heap.size]? = some (freshCell cX kX)) (hml : ls.size = c.maxLocals) {pc : Nat} (hd6 : decode c.code pc = .ok (.invokespecial ic, 3)) (hd9 : decode c.code (pc + 3) = .ok (.athrow, 1)) (hRf : 6 ≤ R.frames) (hRl : 90 ≤ R.locals) {Q : State → Prop}
    (hQ : ∀ (U : State) (ce : Cell), U.status = .running → Ended U below (.threw s.heap.size) → s.WarmedH U.vm → s.sameButNew ({ U with vm := s.vm } : State) [] 1 6 → U.heap[s.heap.size]? = some ce → Bundle.OwnCell args s cls s.heap.size .null ce → Q U) :
    W p l e R s m args below meth c H [] 1 6 Q (F0 m pc ls [.ref s.heap.size, .ref s.heap.size]) := by
  intro T hT X
  obtain ⟨U, u1, u2, u3, u4, u5, ce, u6, u7⟩ := X.ctorThrow0 (W := T) hx htr (own := own) (cls := cls) (names := q_chn) (ic := ic) hown hcls q_fits hat (fun x hx => by cases hx) (a := s.heap.size) hfX hkX (by rw [hT]; exact hH) (Nat.le_refl _) (g := F0 m pc ls [.ref s.heap.size, .ref s.heap.size]) rfl hml rfl rfl (rest := []) rfl hd6 hd9
    (fun x hx => by rw [Array.isEmpty_iff.mp hnh] at hx; cases hx) (by show 2 + 3 < R.frames; omega) (by show 2 * 0 + 1 + (13 * 3 + 41) ≤ R.locals; omega) hlk
  exact ⟨U, u1, hQ U ce u2 u3 u4 u5 u6 u7⟩
end QTHROW
