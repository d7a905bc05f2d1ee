/-! THE LAW CALLS one of its small methods. -/
theorem l_init : lw_tbl[41]? = some (.initialized "CashRecyclerLaw") := by decide +kernel
section QLC
variable {p : Program} {l : Launch} {e : Env} {R : Room} {s : State} {m : MethodId} {args : Array Value} {below : List Frame} {meth : Method} {c : Code} {H : Heap} {locs : List Loc} {cells slots : Nat} {Q : State → Prop}
variable {D : va_G} {ad : Nat → Nat} {cI cZ cQ cL : ClassId} {aO : Nat} {h h1 : HP} {o o1 : Int64} {k : Int32} {cc : ByteArray} {nL : Nat}
theorem q_lcall {y : MethodName} {bytes : ByteArray} {maxL idx pc : Nat} {hh : List (Nat × Nat × Nat × Nat)} {av st0 : List Value} {rm : Room} {ls : Array Slot} (S : CallFix p m c cc nL s args q_WS "CashRecyclerLaw") (hL : q_Law D ad cI cZ cQ aO cL s) (hM : q_MetL l D ad cI cZ cQ aO cL y (.codeWith y bytes maxL (some .int) hh :: q_WS) rm av h o k h1 o1)
    (hrc : rm.cells = 1) (hrs : rm.slots = 6) (hfr : rm.frames + 1 ≤ R.frames) (hlo : 8 + (maxL + 11) + rm.locals ≤ R.locals) (hcw : Cond.codeWith y bytes maxL (some .int) hh ∈ q_WS) (hst : Cond.static y ∈ q_WS) (hlk : Cond.methodLink "CashRecyclerLaw" idx y ∈ q_WS) (hy : y.cls = "CashRecyclerLaw") (hd : (parseMethodDescriptor y.desc).map (fun d => d.parameters.length) = some av.length)
    (hJ : va_P D qCl (q_J ad cI cZ cQ aO cL h o) H) (hS : va_S (q_A0 s) s.heap H locs) (hc : cells + 1 ≤ R.cells) (hs : slots + 6 ≤ R.slots) (hsize : ls.size = nL) (hstk : st0 = av.reverse) (hdg : decode cc pc = .ok (.invokestatic idx, 3))
    (kk : ∀ (H1 : Heap) (locs1 : List Loc), va_P D qCl (q_J ad cI cZ cQ aO cL h1 o1) H1 → va_S (q_A0 s) s.heap H1 locs1 → W p l e R s m args below meth c H1 locs1 (cells + 1) (slots + 6) Q (F0 m (pc + 3) ls [.int k])) : W p l e R s m args below meth c H locs cells slots Q (F0 m pc ls st0) := by
  have hts := S.2.2.2.2
  have hrun := q_runSW (p := p) (l := l) (e := e) (R := R) (s := s) (m := m) (args := args) (below := below) (meth := meth) (c := c) (H := H) (locs := locs) (cells := cells) (slots := slots) (g := F0 m pc ls st0) (As := av) (rest := []) S hM hrc hrs hfr hlo
    (pay_in hts (fun w hw => by
      rcases List.mem_cons.mp hw with rfl | hw
      · exact ⟨hcw, Or.inl rfl⟩
      · exact ⟨hw, good_of_word (List.mem_filter.mp hw).2⟩)) List.mem_cons_self (hts _ hcw) (by rw [hy]; exact hts _ (q_inAt l_init rfl)) (hts _ hst) (hts _ hlk) (by rw [hy]; decide)
    (fun sig hsig => by rw [hsig] at hd; exact (Option.some.inj hd).symm) ⟨q_blindL, fun U hU hWU => ⟨rfl, q_Law_pre hL hS hJ hU hWU⟩⟩ rfl hsize (by rw [hstk, List.append_nil]) (by show 2 * 0 + 0 ≤ 8; omega) hdg ⟨hc, hs⟩
  refine va_calli (S := Unit) (a := av.toArray) (H0 := s.heap) (A0 := q_A0 s) hrun hS (fun q _ z => hL.2.2.2.2.2 q z) (fun q z => hL.2.2.2.2.2 q z) (fun k9 u9 t9 H1 locs1 ht9 hvm9 hk9 hB9 hz9 hkk9 hS1 => ?_)
  have hk9 : k9 = k := hk9
  subst hk9
  have hJ1 : va_P D qCl (q_J ad cI cZ cQ aO cL h1 o1) t9.heap := hB9
  rw [ht9] at hJ1
  exact kk H1 locs1 hJ1 hS1
end QLC
