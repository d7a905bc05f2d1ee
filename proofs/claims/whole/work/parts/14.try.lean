/-! THE CONTRACT of a method that throws, and the row of a call inside a try. -/
def q_rmT (j : Nat) : Room := { frames := qmF j, cells := 1, slots := 6, locals := qmW j }
def q_PreT (D : va_G) (ad : Nat → Nat) (cI cZ cQ : ClassId) (h : HP) (U : State) : Prop := q_Pre D ad cI cZ cQ h U ∧ q_Thr ad U
def q_MetT (l : Launch) (D : va_G) (ad : Nat → Nat) (cI cZ cQ : ClassId) (j : Nat) (as : List PV) (h : HP) (x : Nat) (h' : HP) : Prop :=
  q_FreeT l (qmY j) (q_ws j) (q_rmT j) (va_Pc (as.map (q_tr ad)) (q_PreT D ad cI cZ cQ h)) (q_QT D ad cI cZ cQ x h')
theorem q_blindT {D : va_G} {ad : Nat → Nat} {cI cZ cQ : ClassId} {as : List Value} {h : HP} : FrameBlind (va_Pc as (q_PreT D ad cI cZ cQ h)) := by
  intro a U g mk hv
  obtain ⟨h0, hP, ⟨t1, t2⟩, ⟨t3, t4⟩, t5, t6⟩ := hv
  refine ⟨h0, (q_blind a U g mk ⟨h0, hP⟩).2, ⟨fun x hx => (t1 x hx).same rfl rfl, fun y hy => (t2 y hy).same rfl rfl⟩, ⟨va_Zq.moved (u := U) (U := U.calling g mk a) (Vm.Alike.refl U.vm) t3, va_Zq.moved (u := U) (U := U.calling g mk a) (Vm.Alike.refl U.vm) t4⟩, t5, t6⟩
theorem q_soundT (l : Launch) (hfl : ∀ e : Env, l.admits e → e.platform.stackTraces = false) {D : va_G} {ad : Nat → Nat} {cI cZ cQ : ClassId} {j : Nat} {as : List PV} {h h' : HP} {x : Nat} (hq : Ec j as h (.inr x, h')) (h2 : 2 ≤ j) (hj : j < 137) (hlen : as.length = qmN j) : q_MetT l D ad cI cZ cQ j as h x h' := by
  obtain ⟨n, hp⟩ := hq
  obtain ⟨u1, u2, u3, u4, u5, u6⟩ := q_wp h2 hj
  unfold q_MetT
  refine MetFree.of_bodyS (code := qmB j) (maxLocals := qmL j) (ret := qmR j) u4 ?_ ?_
  · intro args s m hpre hn
    obtain ⟨meth, c, h1, h2, h3, h4, h5, h6, -, -⟩ := Cond.code_spec hn (atoms_spec (ws := q_ws j) hpre _ List.mem_cons_self)
    exact ⟨meth, c, h1, h2, h3, h4, h5, h6⟩
  · intro p e s m args below meth c s₁ B hml hv _
    obtain ⟨rfl, ⟨hP, hSt⟩, hT⟩ := hv
    have hts0 := atoms_spec (ws := q_ws j) B.pre
    have hE : q_Env p s m (as.map (q_tr ad)).toArray meth c j := ⟨B.exec, B.bytes, hml, findClass_of_methodNamed B.named, fun w hw => hts0 w (List.mem_cons_of_mem _ hw), B.returns, B.notSynchronized⟩
    have hnh : c.exceptionTable.isEmpty = true := B.noHandlers (hts0 _ List.mem_cons_self)
    have hl := lv_entry (as.map (q_tr ad)) (n := qmL j) (by rw [q_sl]; omega)
    rw [q_args] at hl
    have key := q_walk (p := p) (l := l) (e := e) (R := (headSpec (q_ws j) (q_rmT j)).room) (below := below) (cells := 0) (slots := 0) (Q := q_MQT below D ad cI cZ cQ x h' s) h2 hj hE hSt (show qmF j ≤ qmF j from Nat.le_refl _) (show qmW j ≤ qmW j from Nat.le_refl _) (Nat.zero_le _) (Nat.zero_le _) (r := (.inr x, h')) (n := n) (fun k _ j as h v h' hh a b d => q_sound l D ad cI cZ cQ k j as h v h' hh a b d)
      (fun pc L st h H locs ls h1 hl' hP' hS' => q_endT hj hE hT hP (hfl e B.admits) hnh (show qmF j ≤ qmF j from Nat.le_refl _) (show qmW j ≤ qmW j from Nat.le_refl _) (Nat.le_refl 1) (Nat.le_refl 6) h1 hl' hP' hS') n (Nat.le_refl _) 0 (pl_in 0 as) [] h s.heap [] _ hp hl hP va_S.rf
    have hh0 : s₁.heap = s.heap := by rw [B.state]; rfl
    rw [lg_entry_eq]
    obtain ⟨t, a1, ex, b1, b2, b3⟩ := key s₁ hh0 (Stand.of_body B)
    exact ⟨t, .threw ex, a1, b1, b2, ex, rfl, b3⟩
section QTRY
variable {p : Program} {l : Launch} {e : Env} {R : Room} {s : State} {m : MethodId} {args : Array Value} {below : List Frame} {meth : Method} {c : Code} {H : Heap} {locs : List Loc} {cells slots : Nat} {Q : State → Prop}
variable {y : MethodName} {bytes cc : ByteArray} {maxL nL n index : Nat} {ret : Option FieldType} {ws : List Cond} {rm : Room} {Pc : Array Value → State → Prop} {Ts : List Cond} {own C : String} {b : Addr} {As rest : List Value}
variable {D : va_G} {ad : Nat → Nat} {cI cZ cQ : ClassId} {x : Nat} {h' : HP} {A0 : Nat → Prop}
theorem q_tryW {pc : Nat} {ls : Array Slot} {st0 : List Value} (S : CallFix p m c cc nL s args Ts own) (hM : q_FreeT l y ws rm Pc (q_QT D ad cI cZ cQ x h')) (cw : CallW R s args own C index y bytes maxL ret ws rm 1 6 n) (hp : PreV s H C b Pc As)
    (hn : As.length = n) (hsize : ls.size = nL) (hstack : st0 = As.reverse ++ .ref b :: rest) (hW : (rest.map fun v => v.category).sum ≤ 8) (hdg : decode cc pc = .ok (.invokevirtual index, 3)) (hf : cells + 1 ≤ R.cells ∧ slots + 6 ≤ R.slots)
    (hS : va_S A0 s.heap H locs) (hA : ∀ q, q_A ad q → A0 q) {es : List ExceptionTableEntry} {hpc : Nat} (hes : c.exceptionTable.toList = es)
    (F : ∀ (U : State) (g : JFrame) (ex : Addr) (ce : Cell), U.heap[ex]? = some ce → ce.vm = .none → s.vm.findClass (q_exN x) = some ce.cls → s.WarmedH U.vm → g.method = m → g.pc = pc → e.platform.magicAccessors = ({} : Platform).magicAccessors → ∃ vm', s.WarmedH vm' ∧ q_FG e U g ex es (.found hpc) vm')
    (kk : ∀ (ex : Addr) (H1 : Heap) (locs1 : List Loc), va_P D qCl (q_W ad cI cZ cQ h') H1 → H.size ≤ H1.size → (∀ q : Nat, q < H.size → ¬ q_A ad q → H1[q]? = H[q]?) → va_S A0 s.heap H1 locs1 → W p l e R s m args below meth c H1 locs1 (cells + 1) (slots + 6) Q (F0 m hpc ls [.ref ex])) : W p l e R s m args below meth c H locs cells slots Q (F0 m pc ls st0) := by
  intro T hT X
  obtain ⟨ex, st₀, t, T', L, h0, hal, X', hL, e1, e2, hq, hst⟩ := q_callT (g := F0 m pc ls st0) S hM cw hp rfl hn hsize hstack (by show 2 * 0 + _ ≤ 8; omega) hdg hf hT X
  obtain ⟨⟨ce, c1, c2, c3⟩, hnew, hP1, ⟨hz, hk⟩, -⟩ := hq
  rw [h0] at hz hk
  rw [← e1] at c1 hP1 hz hk
  rw [hal.findClass] at c3
  have hpl : e.platform.magicAccessors = ({} : Platform).magicAccessors := by rw [X.admits.platform]
  obtain ⟨vm', hw, hfg⟩ := F ((T'.setTop (F0 m pc ls rest)).pushFrame (.throwing ex)) (F0 m pc ls rest) ex ce (by rw [throwing_heap]; exact c1) c2 c3 (by rw [throwing_vm]; exact X'.warmed) rfl rfl hpl
  have hS1 : va_S A0 s.heap T'.heap (locs ++ L) := ⟨Nat.le_trans hS.1 hz, fun q h1 h2 => by rw [hk q (Nat.lt_of_lt_of_le h1 hS.1) (fun z => h2 (hA q z))]; exact hS.2.1 q h1 h2, fun q hq => by
      rcases List.mem_append.mp hq with h | h
      · exact hS.2.2 q h
      · exact hA _ (hL q h)⟩
  obtain ⟨t2, a1, b1⟩ := kk ex T'.heap (locs ++ L) hP1 hz hk hS1 (T'.setVm vm') rfl (X'.noted hw)
  refine ⟨t2, hst t2 (q_caught (g := F0 m pc ls rest) X'.here (pc := hpc) (vm' := vm') ?_ a1), b1⟩
  intro Q E d acts
  rw [W.findHandler_eq (meth := meth) (code := c) (by rw [throwing_vm]; exact X'.method') X'.code, hes]
  exact hfg Q E d acts
end QTRY
