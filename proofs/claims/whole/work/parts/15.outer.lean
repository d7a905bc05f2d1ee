/-! CALLS FROM THE LAW'S CLASS to the class and the reference: by what the pure machine answers. -/
theorem q_Wat {ad : Nat → Nat} {cI cZ cQ : ClassId} {h : HP} {q : Nat × va_E} {i : Nat} (hq : (q_W ad cI cZ cQ h)[i]? = some q) : i < qNW ∧ q = (ad i, q_cell ad cI cZ cQ h i) := by
  by_cases hi : i < qNW
  · rw [q_W_at hi] at hq; exact ⟨hi, (Option.some.inj hq).symm⟩
  · simp [q_W, hi] at hq
theorem q_own44 : (List.range 137).all (fun j => decide (j < 2) || qmS j || (decide (qmC j < 8) && decide ((qC (qmC j)).1 = q_own j))) = true := by decide +kernel
section QOUT
variable {p : Program} {l : Launch} {e : Env} {R : Room} {s : State} {m : MethodId} {args : Array Value} {below : List Frame} {meth : Method} {c : Code} {H : Heap} {locs : List Loc} {cells slots : Nat} {Q : State → Prop}
variable {cc : ByteArray} {nL : Nat} {D : va_G} {ad : Nat → Nat} {cI cZ cQ : ClassId} {A0 : Nat → Prop} {own : String}
theorem q_ucall {pc j ro idx : Nat} {as : List PV} {ls : Array Slot} {st0 rest : List Value} {h h' : HP} {v : Option Int32} (S : CallFix p m c cc nL s args q_WS own) (hK : va_K D qCl (q_Tys cI cZ cQ) s) (h2 : 2 ≤ j) (hj : j < 137) (hst : qmS j = false) (hq : Ec j (.inr ro :: as) h (.inl v, h')) (hsh : qSh ro = some (.inl (qmC j))) (hlen : as.length + 1 = qmN j)
    (hw : Cond.methodLink own idx (qmY j) ∈ q_WS) (hRf : qmF j + 1 ≤ R.frames) (hRl : 8 + (qmL j + 11) + qmW j ≤ R.locals) (hc0 : cells ≤ R.cells) (hs0 : slots ≤ R.slots) (hP : va_P D qCl (q_W ad cI cZ cQ h) H) (hS : va_S A0 s.heap H locs) (hA : ∀ q, q_A ad q → A0 q)
    (hSta : ∀ U : State, U.heap = H → s.WarmedH U.vm → q_Sta D ad cI cZ cQ U) (hsize : ls.size = nL) (hstack : st0 = (as.map (q_tr ad)).reverse ++ .ref (ad ro) :: rest) (hW : (rest.map fun v => v.category).sum ≤ 8) (hdg : decode cc pc = .ok (.invokevirtual idx, 3))
    (kk : ∀ (H1 : Heap) (locs1 : List Loc), va_P D qCl (q_W ad cI cZ cQ h') H1 → H.size ≤ H1.size → (∀ q : Nat, q < H.size → ¬ q_A ad q → H1[q]? = H[q]?) → va_S A0 s.heap H1 locs1 → W p l e R s m args below meth c H1 locs1 cells slots Q (F0 m (pc + 3) ls ((v.map Value.int).toList ++ rest))) : W p l e R s m args below meth c H locs cells slots Q (F0 m pc ls st0) := by
  have hM : Met l (qmY j) (q_ws j) (q_rm j) (va_Pc ((.inr ro :: as).map (q_tr ad)) (q_Pre D ad cI cZ cQ h)) (q_Q D ad cI cZ cQ v h') 0 0 (q_A ad) := q_met hq h2 hj (by simpa using hlen)
  obtain ⟨w1, w2, w8, wc⟩ := q_wpI h2 hj hst
  obtain ⟨u1, u2, u3, -, -, -⟩ := q_wp h2 hj
  rw [hst] at u3
  obtain ⟨cellB, b1, b2, b3⟩ := q_recv (s := s) hK hP hsh w8
  rw [wc] at b3
  have hts := S.2.2.2.2
  have hrun := va_runV (p := p) (l := l) (e := e) (R := R) (s := s) (m := m) (args := args) (below := below) (meth := meth) (c := c) (H := H) (locs := locs) (cells := cells) (slots := slots) (Ts := q_WS) (own := own) (C := q_own j) (b := ad ro) (As := as.map (q_tr ad)) (rest := rest) (g := F0 m pc ls st0) S hM
    (cw := ⟨callB_of (qmN j - 1) hts (q_goodIn h2 hj (fun _ z => z)) rfl rfl rfl (hts _ u1) (hts _ hw) ⟨u2.1, u2.2, u3⟩ ⟨hRf, hRl⟩, hts _ w1, hts _ w2⟩)
    ⟨q_blind, ⟨cellB, b1, b2, b3⟩, fun U hU hWU => ⟨rfl, by rw [hU]; exact hP, hSta U hU hWU⟩⟩ rfl (by simp; omega) hsize hstack (by show 2 * 0 + _ ≤ 8; omega) hdg ⟨hc0, hs0⟩
  cases v with
  | some r =>
    refine va_calli (S := Unit) (a := (Value.ref (ad ro) :: as.map (q_tr ad)).toArray) hrun hS (fun q _ z => hA q z) (fun q z => hA q z) (fun r' u t1 H1 locs1 ht hvm hpost hB hz hk hS1 => ?_)
    have hpost : r' = r := hpost
    subst hpost
    have hB : va_P D qCl (q_W ad cI cZ cQ h') t1.heap := hB
    rw [ht] at hB
    exact kk H1 locs1 hB hz hk hS1
  | none =>
    refine va_callv (S := Unit) (a := (Value.ref (ad ro) :: as.map (q_tr ad)).toArray) hrun hS (fun q _ z => hA q z) (fun q z => hA q z) (fun u t1 H1 locs1 ht hvm hpost hB hz hk hS1 => ?_)
    have hB : va_P D qCl (q_W ad cI cZ cQ h') t1.heap := hB
    rw [ht] at hB
    exact kk H1 locs1 hB hz hk hS1
theorem q_utry (hfl : ∀ e : Env, l.admits e → e.platform.stackTraces = false) {pc j ro idx x hpc : Nat} {as : List PV} {ls : Array Slot} {st0 rest : List Value} {h h' : HP} {es : List ExceptionTableEntry} (S : CallFix p m c cc nL s args q_WS own) (hK : va_K D qCl (q_Tys cI cZ cQ) s) (h2 : 2 ≤ j) (hj : j < 137) (hst : qmS j = false) (hq : Ec j (.inr ro :: as) h (.inr x, h')) (hsh : qSh ro = some (.inl (qmC j))) (hlen : as.length + 1 = qmN j)
    (hw : Cond.methodLink own idx (qmY j) ∈ q_WS) (hRf : qmF j + 1 ≤ R.frames) (hRl : 8 + (qmL j + 11) + qmW j ≤ R.locals) (hc0 : cells + 1 ≤ R.cells) (hs0 : slots + 6 ≤ R.slots) (hP : va_P D qCl (q_W ad cI cZ cQ h) H) (hS : va_S A0 s.heap H locs) (hA : ∀ q, q_A ad q → A0 q)
    (hSta : ∀ U : State, U.heap = H → s.WarmedH U.vm → q_Sta D ad cI cZ cQ U ∧ q_Thr ad U) (hsize : ls.size = nL) (hstack : st0 = (as.map (q_tr ad)).reverse ++ .ref (ad ro) :: rest) (hW : (rest.map fun v => v.category).sum ≤ 8) (hdg : decode cc pc = .ok (.invokevirtual idx, 3)) (hes : c.exceptionTable.toList = es)
    (F : ∀ (U : State) (g : JFrame) (ex : Addr) (ce : Cell), U.heap[ex]? = some ce → ce.vm = .none → s.vm.findClass (q_exN x) = some ce.cls → s.WarmedH U.vm → g.method = m → g.pc = pc → e.platform.magicAccessors = ({} : Platform).magicAccessors → ∃ vm', s.WarmedH vm' ∧ q_FG e U g ex es (.found hpc) vm')
    (kk : ∀ (ex : Addr) (H1 : Heap) (locs1 : List Loc), va_P D qCl (q_W ad cI cZ cQ h') H1 → H.size ≤ H1.size → (∀ q : Nat, q < H.size → ¬ q_A ad q → H1[q]? = H[q]?) → va_S A0 s.heap H1 locs1 → W p l e R s m args below meth c H1 locs1 (cells + 1) (slots + 6) Q (F0 m hpc ls [.ref ex])) : W p l e R s m args below meth c H locs cells slots Q (F0 m pc ls st0) := by
  have hM := q_soundT l hfl (D := D) (ad := ad) (cI := cI) (cZ := cZ) (cQ := cQ) hq h2 hj (by simpa using hlen)
  obtain ⟨w1, w2, w8, wc⟩ := q_wpI h2 hj hst
  obtain ⟨u1, u2, u3, -, -, -⟩ := q_wp h2 hj
  rw [hst] at u3
  obtain ⟨cellB, b1, b2, b3⟩ := q_recv (s := s) hK hP hsh w8
  rw [wc] at b3
  have hts := S.2.2.2.2
  exact q_tryW (b := ad ro) (As := as.map (q_tr ad)) (rest := rest) (C := q_own j) S hM
    (cw := ⟨callB_of (qmN j - 1) hts (q_goodIn h2 hj (fun _ z => z)) rfl rfl rfl (hts _ u1) (hts _ hw) ⟨u2.1, u2.2, u3⟩ ⟨hRf, hRl⟩, hts _ w1, hts _ w2⟩)
    ⟨q_blindT, ⟨cellB, b1, b2, b3⟩, fun U hU hWU => ⟨rfl, ⟨by rw [hU]; exact hP, (hSta U hU hWU).1⟩, (hSta U hU hWU).2⟩⟩ (by simp; omega) hsize hstack hW hdg ⟨hc0, hs0⟩ hS hA hes F kk
end QOUT
