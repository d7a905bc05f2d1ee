/-! CONTRACTS OF METHODS THAT END IN A THROW. -/
section QENDT
variable {p : Program} {l : Launch} {e : Env} {R : Room} {s : State} {m : MethodId} {args : Array Value} {below : List Frame} {meth : Method} {c : Code} {H : Heap} {locs : List Loc}
variable {D : va_G} {ad : Nat → Nat} {cI cZ cQ : ClassId} {j : Nat} {ls : Array Slot}
set_option maxHeartbeats 4000000 in
theorem q_endT (hj : j < 137) (hE : q_Env p s m args meth c j) (hT : q_Thr ad s) {h0 : HP} (hP0 : va_P D qCl (q_W ad cI cZ cQ h0) s.heap) (htr : e.platform.stackTraces = false) (hnh : c.exceptionTable.isEmpty = true) (hRf : qmF j ≤ R.frames) (hRl : qmW j ≤ R.locals) (hRc : 1 ≤ R.cells) (hRs : 6 ≤ R.slots)
    {x : Nat} {h' : HP} {pc : Nat} {L : PL} {st : List PV} {h : HP} (h1 : p1 j (pc, L, st, h) = some (.inr (.inl (.inr x, h')))) (hl : lv_has ls (qmL j) (q_tl ad L)) (hP : va_P D qCl (q_W ad cI cZ cQ h) H) (hS : va_S (q_A ad) s.heap H locs) :
    W p l e R s m args below meth c H locs 0 0 (q_MQT below D ad cI cZ cQ x h' s) (F0 m pc ls (st.map (q_tr ad))) := by
  obtain ⟨hx, hb, hml, hown, hts, hret, hlk⟩ := hE
  simp only [p1] at h1
  cases hq : pe_at (qCod j) pc with
  | none => rw [hq] at h1; cases h1
  | some w =>
    obtain ⟨i, n, ax⟩ := w
    rw [hq] at h1
    obtain ⟨hd, hok⟩ := q_row hj hq
    dsimp only at h1
    cases i with
    | new idx =>
      simp only [q_okc, Bool.and_eq_true, beq_iff_eq] at hok
      obtain ⟨rfl, ht⟩ := hok
      rcases ax with _ | ⟨x', _ | ⟨k, _ | ⟨a3, ax'⟩⟩⟩ <;> first | (cases ht; done) | skip
      rcases st with _ | ⟨v, t⟩ <;> first | (cases h1; done) | skip
      simp only [p1i, Option.some.injEq, Sum.inr.injEq, Sum.inl.injEq, Prod.mk.injEq] at h1
      obtain ⟨rfl, rfl⟩ := h1
      simp only [Bool.and_eq_true, decide_eq_true_eq] at ht
      obtain ⟨⟨⟨⟨hany, hd3⟩, hd4⟩, hd7⟩, hF, hW⟩ := ht
      obtain ⟨q, hqm, hqe⟩ := List.any_eq_true.mp hany
      simp only [Bool.and_eq_true, beq_iff_eq] at hqe
      obtain ⟨⟨⟨q1, rfl⟩, rfl⟩, rfl⟩ := hqe
      have hxw := List.all_eq_true.mp q_xok q hqm
      simp only [q_xw, Bool.and_eq_true, decide_eq_true_eq] at hxw
      obtain ⟨⟨⟨⟨⟨⟨⟨w1, w2⟩, w3⟩, w4⟩, w5⟩, w6⟩, w7⟩, w8⟩ := hxw
      have hown2 : s.vm.findClass "CashRecycler" = some m.cls := by rw [← w1, q1]; exact hown
      intro T hTH X
      subst hTH
      have X' := q_reroot X (R' := { frames := R.frames, cells := 1, slots := 6, locals := R.locals }) (Nat.le_refl _) (Nat.le_refl _) (by show 0 + 1 ≤ _; omega) (by show 0 + 6 ≤ _; omega)
      have hW' : s.WarmedH (T.setFrames (.invoking m args :: below)).vm := X.warmed
      have hts' : ∀ w ∈ q_WS, w.before args (T.setFrames (.invoking m args :: below)) = true := fun w hw => word_at hW' (good_of_word (List.mem_filter.mp hw).2) (hts w hw)
      have hown' : (T.setFrames (.invoking m args :: below)).vm.findClass "CashRecycler" = some m.cls := by rw [hW'.alike.findClass]; exact hown2
      have hT' : q_Thr ad (T.setFrames (.invoking m args :: below)) := q_Thr_at hT hP0 hS rfl hW'
      have hat := q_atoms w3 w4 hts' hT'
      have hgoal : W p l e { frames := R.frames, cells := 1, slots := 6, locals := R.locals } (T.setFrames (.invoking m args :: below)) m args below meth c T.heap [] 0 0 (q_MQT below D ad cI cZ cQ q.2.2.2 h s) (F0 m pc ls []) := by
        refine W.newc hx hb hown' (hts' _ (q_inW w5 rfl)) (hts' _ (q_inW w6 rfl)) (hts' _ (q_inW w7 rfl)) rfl hd (Nat.le_refl _) (Nat.le_refl _) (fun cC kC f1 f2 f3 f4 => ?_)
        refine lv_dup hx hb hd3 rfl ?_
        have hsz : (T.setFrames (.invoking m args :: below)).heap.size = T.heap.size := rfl
        refine q_made (s := T.setFrames (.invoking m args :: below)) hx htr hlk hnh hown' w8 hat f1 f2 (by show (T.heap.push _)[T.heap.size]? = _; simp) (hl.1.trans hml.symm) (by rw [hb]; exact hd4) (by rw [hb]; exact hd7) (by show 6 ≤ R.frames; omega) (by show 90 ≤ R.locals; omega) (fun U ce u2 u3 u4 u5 u6 u7 => ?_)
        have keep : ∀ (a : Nat) (cell : Cell), T.heap[a]? = some cell → U.heap[a]? = some cell := fun a cell ha => State.sameButNew.old_cell (s := T.setFrames (.invoking m args :: below)) u5 ha
        have keep2 : ∀ a : Nat, a < T.heap.size → U.heap[a]? = T.heap[a]? := fun a ha => by
          rw [Array.getElem?_eq_getElem ha]
          exact keep a _ (Array.getElem?_eq_getElem ha)
        have hsz2 : T.heap.size ≤ U.heap.size := u5.2.1
        have hB : T.sameButNew (U.setVm T.vm) [] 1 6 := by
          refine ⟨?_, u5.2⟩
          have z := u5.1
          rw [State.setFrames_setFrames] at z
          exact z
        refine ⟨T.heap.size, u2, u3, ⟨ce, u6, u7.vm, ?_⟩, hS.1, hP.kept (fun k q hk => keep2 _ (hP k q hk).lt), ⟨Nat.le_trans hS.1 hsz2, fun a ha hA => by rw [keep2 a (Nat.lt_of_lt_of_le ha hS.1)]; exact hS.2.1 a ha hA⟩, locs, ⟨State.WarmedH.trans X.warmed u4, ?_⟩, hS.2.2⟩
        · have z := u7.cls
          rw [hW'.alike.findClass] at z
          exact z
        · have z := X.same.trans (hB.setVm s.vm)
          rw [List.append_nil] at z
          exact z
      obtain ⟨t, a1, b1⟩ := hgoal T rfl X'
      exact ⟨t, a1, b1⟩
    | _ => exfalso; revert h1; simp only [p1i, p_int, p_br]; (repeat' split) <;> (intro z; cases z)
end QENDT
