/-! THE LAW'S SMALL METHODS, written by our own program (wip/whole/gen_wrap.py): each calls one method of the class and says 0, or which exception came. -/
theorem q_in01 : vp_in 0 1 := by unfold vp_in; decide +kernel
theorem q_pl : plainName "CashRecyclerLaw" = true := by decide +kernel
theorem cl_13 : lw_tbl[297]? = some (.classLink "CashRecyclerLaw" 13 "java/lang/IllegalArgumentException") := by decide +kernel
theorem cl_15 : lw_tbl[298]? = some (.classLink "CashRecyclerLaw" 15 "java/lang/IllegalStateException") := by decide +kernel
theorem cl_32 : lw_tbl[426]? = some (.classLink "CashRecyclerLaw" 32 "java/lang/UnsupportedOperationException") := by decide +kernel
theorem cl_45 : lw_tbl[624]? = some (.classLink "CashRecyclerLaw" 45 "java/util/NoSuchElementException") := by decide +kernel
theorem dw_insert_0 : decode method_3_code 0 = .ok (.aload_n 2, 1) := by decide +kernel
theorem dw_insert_1 : decode method_3_code 1 = .ok (.iconst 0, 1) := by decide +kernel
theorem dw_insert_2 : decode method_3_code 2 = .ok (.aload_n 0, 1) := by decide +kernel
theorem dw_insert_3 : decode method_3_code 3 = .ok (.iload_n 1, 1) := by decide +kernel
theorem dw_insert_4 : decode method_3_code 4 = .ok (.invokevirtual 7, 3) := by decide +kernel
theorem dw_insert_7 : decode method_3_code 7 = .ok (.i2l, 1) := by decide +kernel
theorem dw_insert_8 : decode method_3_code 8 = .ok (.lastore, 1) := by decide +kernel
theorem dw_insert_9 : decode method_3_code 9 = .ok (.goto 9, 3) := by decide +kernel
theorem dw_insert_12 : decode method_3_code 12 = .ok (.astore_n 3, 1) := by decide +kernel
theorem dw_insert_13 : decode method_3_code 13 = .ok (.iconst 1, 1) := by decide +kernel
theorem dw_insert_14 : decode method_3_code 14 = .ok (.ireturn, 1) := by decide +kernel
theorem dw_insert_15 : decode method_3_code 15 = .ok (.astore_n 3, 1) := by decide +kernel
theorem dw_insert_16 : decode method_3_code 16 = .ok (.iconst 2, 1) := by decide +kernel
theorem dw_insert_17 : decode method_3_code 17 = .ok (.ireturn, 1) := by decide +kernel
theorem dw_insert_18 : decode method_3_code 18 = .ok (.iconst 0, 1) := by decide +kernel
theorem dw_insert_19 : decode method_3_code 19 = .ok (.ireturn, 1) := by decide +kernel
theorem lw_insert : lw_tbl[299]? = some (.methodLink "CashRecyclerLaw" 7 (qmY 44)) := by decide +kernel
abbrev yw_insert : MethodName := ⟨"CashRecyclerLaw", "insert", "(LCashRecycler;I[J)I"⟩
def ws_insert : List Cond := .codeWith yw_insert method_3_code 4 (some .int) [(0, 9, 12, 13), (0, 9, 15, 15)] :: q_WS
def rw_insert : Room := { frames := qmF 44 + 1, cells := 1, slots := 6, locals := 8 + (qmL 44 + 11) + qmW 44 }
set_option maxHeartbeats 4000000 in
theorem w_insert_r {l : Launch} {D : va_G} {ad : Nat → Nat} {cI cZ cQ : ClassId} {aO : Nat} {cL : ClassId} {h h' : HP} {o : Int64} {a : Int32} {v : Int32} (hq : Ec 44 [.inr 0, .inl a] h (.inl (some v), h')) : q_MetL l D ad cI cZ cQ aO cL yw_insert ws_insert rw_insert [.ref (ad 0), .int a, .ref aO] h o 0 h' v.toInt64 := by
  refine va_MetW (cc := method_3_code) (maxL := 4) (ret := some .int) q_pl rfl ?_
  intro p e s m args below meth c s₁ B hml hv
  obtain ⟨rfl, hJ, hSt, hThr, hKL, hNc, hO⟩ := hv
  have hx := B.exec
  have hb := B.bytes
  have hr := B.returns
  have hts0 := atoms_spec (ws := ws_insert) B.pre
  have hts : ∀ w ∈ q_WS, w.before _ s = true := fun w hw => hts0 w (List.mem_cons_of_mem _ hw)
  have hown : s.vm.findClass "CashRecyclerLaw" = some m.cls := findClass_of_methodNamed B.named
  have hlk := B.notSynchronized
  have hl := lv_entry ([.ref (ad 0), .int a, .ref aO]) (n := 4) (Nat.le_of_ble_eq_true rfl)
  rw [lg_entry_eq]
  generalize (lg_sl ([.ref (ad 0), .int a, .ref aO]) ++ List.replicate (4 - (lg_sl ([.ref (ad 0), .int a, .ref aO])).length) Slot.unset).toArray = ls at hl ⊢
  have hl : lv_has ls 4 [(0, .ref (ad 0)), (1, .int a), (2, .ref aO)] := hl
  have hP := q_J_W hJ
  have hS : va_S (q_AL ad aO) s.heap s.heap [] := va_S.rf
  refine lv_aload_n hx hb dw_insert_0 rfl (lv_at hl 2 rfl) ?_
  refine lv_iconst (v := 0) hx hb dw_insert_1 (by decide) ?_
  refine lv_aload_n hx hb dw_insert_2 rfl (lv_at hl 0 rfl) ?_
  refine lv_iload_n hx hb dw_insert_3 rfl (lv_at hl 1 rfl) ?_
  refine q_ucall (j := 44) (ro := 0) (idx := 7) (as := [.inl a]) (rest := [.int 0, .ref aO]) (A0 := q_AL ad aO) ⟨hx, hb, hml, hown, hts⟩ hSt.1 (by decide) (by decide) rfl hq rfl rfl (q_inAt lw_insert rfl) (Nat.le_refl _) (Nat.le_refl _) (Nat.zero_le _) (Nat.zero_le _) hP hS (fun q z => Or.inl z) (fun U hU hW => q_Sta_at hSt va_S.rf hU hW) hl.1 rfl (Nat.le_of_ble_eq_true rfl) dw_insert_4 (fun H1 locs1 hP1 hz hk hS1 => ?_)
  have hJ1 : va_P D qCl (q_J ad cI cZ cQ aO cL h' o) H1 := q_J_mk hP1 (by rw [hk aO (Array.getElem?_eq_some_iff.mp (q_J_O hJ)).1 hO]; exact q_J_O hJ)
  refine lv_i2l (v := v.toInt64) hx hb dw_insert_7 rfl ?_
  refine va_last (D := D) (cl := qCl) (H0 := s.heap) (A := q_AL ad aO) hx hb hKL hJ1 (q_J_D hSt.2.2.2.2 hO (fun _ z => z)) hS1 47 0 q_J_47 rfl q_in01 dw_insert_8 (fun H2 locs2 hP2 hD2 hS2 => ?_)
  have hJ2 : va_P D qCl (q_J ad cI cZ cQ aO cL h' v.toInt64) H2 := q_J_set (by rfl) hP2
  refine lv_goto hx hb dw_insert_9 rfl ?_
  refine lv_iconst (v := 0) hx hb dw_insert_18 (by decide) ?_
  refine W.widen (k := 1) (n := 6) (by omega) (by omega) ?_
  exact W.iret hx hb hr (fun t ht _ => ⟨⟨0, (), rfl, rfl, by show va_P _ _ _ t.heap; rw [ht]; exact hJ2⟩, hS2.F ht⟩) hS2.2.2 dw_insert_19
set_option maxHeartbeats 4000000 in
theorem w_insert_t0 {l : Launch} {D : va_G} {ad : Nat → Nat} {cI cZ cQ : ClassId} {aO : Nat} {cL : ClassId} {h h' : HP} {o : Int64} {a : Int32} (hfl : ∀ e : Env, l.admits e → e.platform.stackTraces = false) (hq : Ec 44 [.inr 0, .inl a] h (.inr 0, h')) : q_MetL l D ad cI cZ cQ aO cL yw_insert ws_insert rw_insert [.ref (ad 0), .int a, .ref aO] h o 1 h' o := by
  refine va_MetW (cc := method_3_code) (maxL := 4) (ret := some .int) q_pl rfl ?_
  intro p e s m args below meth c s₁ B hml hv
  obtain ⟨rfl, hJ, hSt, hThr, hKL, hNc, hO⟩ := hv
  have hx := B.exec
  have hb := B.bytes
  have hr := B.returns
  have hts0 := atoms_spec (ws := ws_insert) B.pre
  have hts : ∀ w ∈ q_WS, w.before _ s = true := fun w hw => hts0 w (List.mem_cons_of_mem _ hw)
  have hown : s.vm.findClass "CashRecyclerLaw" = some m.cls := findClass_of_methodNamed B.named
  have hlk := B.notSynchronized
  have hl := lv_entry ([.ref (ad 0), .int a, .ref aO]) (n := 4) (Nat.le_of_ble_eq_true rfl)
  rw [lg_entry_eq]
  generalize (lg_sl ([.ref (ad 0), .int a, .ref aO]) ++ List.replicate (4 - (lg_sl ([.ref (ad 0), .int a, .ref aO])).length) Slot.unset).toArray = ls at hl ⊢
  have hl : lv_has ls 4 [(0, .ref (ad 0)), (1, .int a), (2, .ref aO)] := hl
  have hP := q_J_W hJ
  have hS : va_S (q_AL ad aO) s.heap s.heap [] := va_S.rf
  obtain ⟨m9, meth9, c9, g1, g2, g3, -, -, g4, -⟩ := Cond.codeWith_spec (hts0 _ List.mem_cons_self)
  cases B.named.symm.trans g1
  cases B.method.symm.trans g2
  cases (Stand.of_body B).code.symm.trans g3
  obtain ⟨e1, e2, hes, f1, f2⟩ := q_es2 g4
  simp only [Prod.mk.injEq] at f1
  simp only [Prod.mk.injEq] at f2
  refine lv_aload_n hx hb dw_insert_0 rfl (lv_at hl 2 rfl) ?_
  refine lv_iconst (v := 0) hx hb dw_insert_1 (by decide) ?_
  refine lv_aload_n hx hb dw_insert_2 rfl (lv_at hl 0 rfl) ?_
  refine lv_iload_n hx hb dw_insert_3 rfl (lv_at hl 1 rfl) ?_
  refine q_utry hfl (j := 44) (ro := 0) (idx := 7) (x := 0) (hpc := 12) (as := [.inl a]) (rest := [.int 0, .ref aO]) (A0 := q_AL ad aO) ⟨hx, hb, hml, hown, hts⟩ hSt.1 (by decide) (by decide) rfl hq rfl rfl (q_inAt lw_insert rfl) (Nat.le_refl _) (Nat.le_refl _) (Nat.le_refl _) (Nat.le_refl _) hP hS (fun q z => Or.inl z) (fun U hU hW => ⟨q_Sta_at hSt va_S.rf hU hW, q_Thr_at hThr hP va_S.rf hU hW⟩) hl.1 rfl (Nat.le_of_ble_eq_true rfl) dw_insert_4 hes ?_ (fun ex H1 locs1 hP1 hz hk hS1 => ?_)
  · intro U g ex ce z1 z2 z3 z4 z5 z6 hpl
    have key := q_fg_hit (e := e) (U := U) (f := g) (a := ex) (x := e1) (t := [e2]) (own := "CashRecyclerLaw") (X := q_exN 0) (args := _) hpl z4 (by rw [z5]; exact hown) (by simp [covers, f1, z6]) (by rw [f1.2.2.2]; decide) (by rw [f1.2.2.2]; exact hts _ (q_inAt cl_13 rfl)) z1 z2 z3 (hThr.1.1 _ (by decide +kernel))
    rw [f1.2.2.1] at key
    exact key
  · have hJ1 : va_P D qCl (q_J ad cI cZ cQ aO cL h' o) H1 := q_J_mk hP1 (by rw [hk aO (Array.getElem?_eq_some_iff.mp (q_J_O hJ)).1 hO]; exact q_J_O hJ)
    refine lv_astore_n hx hb dw_insert_12 rfl hl (by decide) rfl (fun ls9 hl9 => ?_)
    refine lv_iconst (v := 1) hx hb dw_insert_13 (by decide) ?_
    exact W.iret hx hb hr (fun t ht _ => ⟨⟨1, (), rfl, rfl, by show va_P _ _ _ t.heap; rw [ht]; exact hJ1⟩, hS1.F ht⟩) hS1.2.2 dw_insert_14
set_option maxHeartbeats 4000000 in
theorem w_insert_t1 {l : Launch} {D : va_G} {ad : Nat → Nat} {cI cZ cQ : ClassId} {aO : Nat} {cL : ClassId} {h h' : HP} {o : Int64} {a : Int32} (hfl : ∀ e : Env, l.admits e → e.platform.stackTraces = false) (hq : Ec 44 [.inr 0, .inl a] h (.inr 1, h')) : q_MetL l D ad cI cZ cQ aO cL yw_insert ws_insert rw_insert [.ref (ad 0), .int a, .ref aO] h o 2 h' o := by
  refine va_MetW (cc := method_3_code) (maxL := 4) (ret := some .int) q_pl rfl ?_
  intro p e s m args below meth c s₁ B hml hv
  obtain ⟨rfl, hJ, hSt, hThr, hKL, hNc, hO⟩ := hv
  have hx := B.exec
  have hb := B.bytes
  have hr := B.returns
  have hts0 := atoms_spec (ws := ws_insert) B.pre
  have hts : ∀ w ∈ q_WS, w.before _ s = true := fun w hw => hts0 w (List.mem_cons_of_mem _ hw)
  have hown : s.vm.findClass "CashRecyclerLaw" = some m.cls := findClass_of_methodNamed B.named
  have hlk := B.notSynchronized
  have hl := lv_entry ([.ref (ad 0), .int a, .ref aO]) (n := 4) (Nat.le_of_ble_eq_true rfl)
  rw [lg_entry_eq]
  generalize (lg_sl ([.ref (ad 0), .int a, .ref aO]) ++ List.replicate (4 - (lg_sl ([.ref (ad 0), .int a, .ref aO])).length) Slot.unset).toArray = ls at hl ⊢
  have hl : lv_has ls 4 [(0, .ref (ad 0)), (1, .int a), (2, .ref aO)] := hl
  have hP := q_J_W hJ
  have hS : va_S (q_AL ad aO) s.heap s.heap [] := va_S.rf
  obtain ⟨m9, meth9, c9, g1, g2, g3, -, -, g4, -⟩ := Cond.codeWith_spec (hts0 _ List.mem_cons_self)
  cases B.named.symm.trans g1
  cases B.method.symm.trans g2
  cases (Stand.of_body B).code.symm.trans g3
  obtain ⟨e1, e2, hes, f1, f2⟩ := q_es2 g4
  simp only [Prod.mk.injEq] at f1
  simp only [Prod.mk.injEq] at f2
  refine lv_aload_n hx hb dw_insert_0 rfl (lv_at hl 2 rfl) ?_
  refine lv_iconst (v := 0) hx hb dw_insert_1 (by decide) ?_
  refine lv_aload_n hx hb dw_insert_2 rfl (lv_at hl 0 rfl) ?_
  refine lv_iload_n hx hb dw_insert_3 rfl (lv_at hl 1 rfl) ?_
  refine q_utry hfl (j := 44) (ro := 0) (idx := 7) (x := 1) (hpc := 15) (as := [.inl a]) (rest := [.int 0, .ref aO]) (A0 := q_AL ad aO) ⟨hx, hb, hml, hown, hts⟩ hSt.1 (by decide) (by decide) rfl hq rfl rfl (q_inAt lw_insert rfl) (Nat.le_refl _) (Nat.le_refl _) (Nat.le_refl _) (Nat.le_refl _) hP hS (fun q z => Or.inl z) (fun U hU hW => ⟨q_Sta_at hSt va_S.rf hU hW, q_Thr_at hThr hP va_S.rf hU hW⟩) hl.1 rfl (Nat.le_of_ble_eq_true rfl) dw_insert_4 hes ?_ (fun ex H1 locs1 hP1 hz hk hS1 => ?_)
  · intro U g ex ce z1 z2 z3 z4 z5 z6 hpl
    refine q_fg_pass (x := e1) (own := "CashRecyclerLaw") (X := q_exN 1) (Y := "java/lang/IllegalArgumentException") hpl z4 (by rw [z5]; exact hown) (by simp [covers, f1, z6]) (by rw [f1.2.2.2]; decide) (by rw [f1.2.2.2]; exact hts _ (q_inAt cl_13 rfl)) (by first | exact z1 | exact z1) z2 z3 (hNc _ (by decide +kernel) _ (by decide +kernel) (by decide +kernel)) (fun vm1 z4 => ?_)
    have key := q_fg_hit (e := e) (U := (U.setVm vm1)) (f := g) (a := ex) (x := e2) (t := []) (own := "CashRecyclerLaw") (X := q_exN 1) (args := _) hpl z4 (by rw [z5]; exact hown) (by simp [covers, f2, z6]) (by rw [f2.2.2.2]; decide) (by rw [f2.2.2.2]; exact hts _ (q_inAt cl_15 rfl)) z1 z2 z3 (hThr.1.1 _ (by decide +kernel))
    rw [f2.2.2.1] at key
    exact key
  · have hJ1 : va_P D qCl (q_J ad cI cZ cQ aO cL h' o) H1 := q_J_mk hP1 (by rw [hk aO (Array.getElem?_eq_some_iff.mp (q_J_O hJ)).1 hO]; exact q_J_O hJ)
    refine lv_astore_n hx hb dw_insert_15 rfl hl (by decide) rfl (fun ls9 hl9 => ?_)
    refine lv_iconst (v := 2) hx hb dw_insert_16 (by decide) ?_
    exact W.iret hx hb hr (fun t ht _ => ⟨⟨2, (), rfl, rfl, by show va_P _ _ _ t.heap; rw [ht]; exact hJ1⟩, hS1.F ht⟩) hS1.2.2 dw_insert_17
theorem dw_verdict_0 : decode method_4_code 0 = .ok (.aload_n 2, 1) := by decide +kernel
theorem dw_verdict_1 : decode method_4_code 1 = .ok (.iconst 0, 1) := by decide +kernel
theorem dw_verdict_2 : decode method_4_code 2 = .ok (.aload_n 0, 1) := by decide +kernel
theorem dw_verdict_3 : decode method_4_code 3 = .ok (.iload_n 1, 1) := by decide +kernel
theorem dw_verdict_4 : decode method_4_code 4 = .ok (.invokevirtual 17, 3) := by decide +kernel
theorem dw_verdict_7 : decode method_4_code 7 = .ok (.i2l, 1) := by decide +kernel
theorem dw_verdict_8 : decode method_4_code 8 = .ok (.lastore, 1) := by decide +kernel
theorem dw_verdict_9 : decode method_4_code 9 = .ok (.goto 9, 3) := by decide +kernel
theorem dw_verdict_12 : decode method_4_code 12 = .ok (.astore_n 3, 1) := by decide +kernel
theorem dw_verdict_13 : decode method_4_code 13 = .ok (.iconst 1, 1) := by decide +kernel
theorem dw_verdict_14 : decode method_4_code 14 = .ok (.ireturn, 1) := by decide +kernel
theorem dw_verdict_15 : decode method_4_code 15 = .ok (.astore_n 3, 1) := by decide +kernel
theorem dw_verdict_16 : decode method_4_code 16 = .ok (.iconst 2, 1) := by decide +kernel
theorem dw_verdict_17 : decode method_4_code 17 = .ok (.ireturn, 1) := by decide +kernel
theorem dw_verdict_18 : decode method_4_code 18 = .ok (.iconst 0, 1) := by decide +kernel
theorem dw_verdict_19 : decode method_4_code 19 = .ok (.ireturn, 1) := by decide +kernel
theorem lw_verdict : lw_tbl[385]? = some (.methodLink "CashRecyclerLaw" 17 (qmY 45)) := by decide +kernel
abbrev yw_verdict : MethodName := ⟨"CashRecyclerLaw", "verdict", "(LCashRecycler;I[J)I"⟩
def ws_verdict : List Cond := .codeWith yw_verdict method_4_code 4 (some .int) [(0, 9, 12, 13), (0, 9, 15, 15)] :: q_WS
def rw_verdict : Room := { frames := qmF 45 + 1, cells := 1, slots := 6, locals := 8 + (qmL 45 + 11) + qmW 45 }
set_option maxHeartbeats 4000000 in
theorem w_verdict_r {l : Launch} {D : va_G} {ad : Nat → Nat} {cI cZ cQ : ClassId} {aO : Nat} {cL : ClassId} {h h' : HP} {o : Int64} {a : Int32} {v : Int32} (hq : Ec 45 [.inr 0, .inl a] h (.inl (some v), h')) : q_MetL l D ad cI cZ cQ aO cL yw_verdict ws_verdict rw_verdict [.ref (ad 0), .int a, .ref aO] h o 0 h' v.toInt64 := by
  refine va_MetW (cc := method_4_code) (maxL := 4) (ret := some .int) q_pl rfl ?_
  intro p e s m args below meth c s₁ B hml hv
  obtain ⟨rfl, hJ, hSt, hThr, hKL, hNc, hO⟩ := hv
  have hx := B.exec
  have hb := B.bytes
  have hr := B.returns
  have hts0 := atoms_spec (ws := ws_verdict) B.pre
  have hts : ∀ w ∈ q_WS, w.before _ s = true := fun w hw => hts0 w (List.mem_cons_of_mem _ hw)
  have hown : s.vm.findClass "CashRecyclerLaw" = some m.cls := findClass_of_methodNamed B.named
  have hlk := B.notSynchronized
  have hl := lv_entry ([.ref (ad 0), .int a, .ref aO]) (n := 4) (Nat.le_of_ble_eq_true rfl)
  rw [lg_entry_eq]
  generalize (lg_sl ([.ref (ad 0), .int a, .ref aO]) ++ List.replicate (4 - (lg_sl ([.ref (ad 0), .int a, .ref aO])).length) Slot.unset).toArray = ls at hl ⊢
  have hl : lv_has ls 4 [(0, .ref (ad 0)), (1, .int a), (2, .ref aO)] := hl
  have hP := q_J_W hJ
  have hS : va_S (q_AL ad aO) s.heap s.heap [] := va_S.rf
  refine lv_aload_n hx hb dw_verdict_0 rfl (lv_at hl 2 rfl) ?_
  refine lv_iconst (v := 0) hx hb dw_verdict_1 (by decide) ?_
  refine lv_aload_n hx hb dw_verdict_2 rfl (lv_at hl 0 rfl) ?_
  refine lv_iload_n hx hb dw_verdict_3 rfl (lv_at hl 1 rfl) ?_
  refine q_ucall (j := 45) (ro := 0) (idx := 17) (as := [.inl a]) (rest := [.int 0, .ref aO]) (A0 := q_AL ad aO) ⟨hx, hb, hml, hown, hts⟩ hSt.1 (by decide) (by decide) rfl hq rfl rfl (q_inAt lw_verdict rfl) (Nat.le_refl _) (Nat.le_refl _) (Nat.zero_le _) (Nat.zero_le _) hP hS (fun q z => Or.inl z) (fun U hU hW => q_Sta_at hSt va_S.rf hU hW) hl.1 rfl (Nat.le_of_ble_eq_true rfl) dw_verdict_4 (fun H1 locs1 hP1 hz hk hS1 => ?_)
  have hJ1 : va_P D qCl (q_J ad cI cZ cQ aO cL h' o) H1 := q_J_mk hP1 (by rw [hk aO (Array.getElem?_eq_some_iff.mp (q_J_O hJ)).1 hO]; exact q_J_O hJ)
  refine lv_i2l (v := v.toInt64) hx hb dw_verdict_7 rfl ?_
  refine va_last (D := D) (cl := qCl) (H0 := s.heap) (A := q_AL ad aO) hx hb hKL hJ1 (q_J_D hSt.2.2.2.2 hO (fun _ z => z)) hS1 47 0 q_J_47 rfl q_in01 dw_verdict_8 (fun H2 locs2 hP2 hD2 hS2 => ?_)
  have hJ2 : va_P D qCl (q_J ad cI cZ cQ aO cL h' v.toInt64) H2 := q_J_set (by rfl) hP2
  refine lv_goto hx hb dw_verdict_9 rfl ?_
  refine lv_iconst (v := 0) hx hb dw_verdict_18 (by decide) ?_
  refine W.widen (k := 1) (n := 6) (by omega) (by omega) ?_
  exact W.iret hx hb hr (fun t ht _ => ⟨⟨0, (), rfl, rfl, by show va_P _ _ _ t.heap; rw [ht]; exact hJ2⟩, hS2.F ht⟩) hS2.2.2 dw_verdict_19
set_option maxHeartbeats 4000000 in
theorem w_verdict_t0 {l : Launch} {D : va_G} {ad : Nat → Nat} {cI cZ cQ : ClassId} {aO : Nat} {cL : ClassId} {h h' : HP} {o : Int64} {a : Int32} (hfl : ∀ e : Env, l.admits e → e.platform.stackTraces = false) (hq : Ec 45 [.inr 0, .inl a] h (.inr 0, h')) : q_MetL l D ad cI cZ cQ aO cL yw_verdict ws_verdict rw_verdict [.ref (ad 0), .int a, .ref aO] h o 1 h' o := by
  refine va_MetW (cc := method_4_code) (maxL := 4) (ret := some .int) q_pl rfl ?_
  intro p e s m args below meth c s₁ B hml hv
  obtain ⟨rfl, hJ, hSt, hThr, hKL, hNc, hO⟩ := hv
  have hx := B.exec
  have hb := B.bytes
  have hr := B.returns
  have hts0 := atoms_spec (ws := ws_verdict) B.pre
  have hts : ∀ w ∈ q_WS, w.before _ s = true := fun w hw => hts0 w (List.mem_cons_of_mem _ hw)
  have hown : s.vm.findClass "CashRecyclerLaw" = some m.cls := findClass_of_methodNamed B.named
  have hlk := B.notSynchronized
  have hl := lv_entry ([.ref (ad 0), .int a, .ref aO]) (n := 4) (Nat.le_of_ble_eq_true rfl)
  rw [lg_entry_eq]
  generalize (lg_sl ([.ref (ad 0), .int a, .ref aO]) ++ List.replicate (4 - (lg_sl ([.ref (ad 0), .int a, .ref aO])).length) Slot.unset).toArray = ls at hl ⊢
  have hl : lv_has ls 4 [(0, .ref (ad 0)), (1, .int a), (2, .ref aO)] := hl
  have hP := q_J_W hJ
  have hS : va_S (q_AL ad aO) s.heap s.heap [] := va_S.rf
  obtain ⟨m9, meth9, c9, g1, g2, g3, -, -, g4, -⟩ := Cond.codeWith_spec (hts0 _ List.mem_cons_self)
  cases B.named.symm.trans g1
  cases B.method.symm.trans g2
  cases (Stand.of_body B).code.symm.trans g3
  obtain ⟨e1, e2, hes, f1, f2⟩ := q_es2 g4
  simp only [Prod.mk.injEq] at f1
  simp only [Prod.mk.injEq] at f2
  refine lv_aload_n hx hb dw_verdict_0 rfl (lv_at hl 2 rfl) ?_
  refine lv_iconst (v := 0) hx hb dw_verdict_1 (by decide) ?_
  refine lv_aload_n hx hb dw_verdict_2 rfl (lv_at hl 0 rfl) ?_
  refine lv_iload_n hx hb dw_verdict_3 rfl (lv_at hl 1 rfl) ?_
  refine q_utry hfl (j := 45) (ro := 0) (idx := 17) (x := 0) (hpc := 12) (as := [.inl a]) (rest := [.int 0, .ref aO]) (A0 := q_AL ad aO) ⟨hx, hb, hml, hown, hts⟩ hSt.1 (by decide) (by decide) rfl hq rfl rfl (q_inAt lw_verdict rfl) (Nat.le_refl _) (Nat.le_refl _) (Nat.le_refl _) (Nat.le_refl _) hP hS (fun q z => Or.inl z) (fun U hU hW => ⟨q_Sta_at hSt va_S.rf hU hW, q_Thr_at hThr hP va_S.rf hU hW⟩) hl.1 rfl (Nat.le_of_ble_eq_true rfl) dw_verdict_4 hes ?_ (fun ex H1 locs1 hP1 hz hk hS1 => ?_)
  · intro U g ex ce z1 z2 z3 z4 z5 z6 hpl
    have key := q_fg_hit (e := e) (U := U) (f := g) (a := ex) (x := e1) (t := [e2]) (own := "CashRecyclerLaw") (X := q_exN 0) (args := _) hpl z4 (by rw [z5]; exact hown) (by simp [covers, f1, z6]) (by rw [f1.2.2.2]; decide) (by rw [f1.2.2.2]; exact hts _ (q_inAt cl_13 rfl)) z1 z2 z3 (hThr.1.1 _ (by decide +kernel))
    rw [f1.2.2.1] at key
    exact key
  · have hJ1 : va_P D qCl (q_J ad cI cZ cQ aO cL h' o) H1 := q_J_mk hP1 (by rw [hk aO (Array.getElem?_eq_some_iff.mp (q_J_O hJ)).1 hO]; exact q_J_O hJ)
    refine lv_astore_n hx hb dw_verdict_12 rfl hl (by decide) rfl (fun ls9 hl9 => ?_)
    refine lv_iconst (v := 1) hx hb dw_verdict_13 (by decide) ?_
    exact W.iret hx hb hr (fun t ht _ => ⟨⟨1, (), rfl, rfl, by show va_P _ _ _ t.heap; rw [ht]; exact hJ1⟩, hS1.F ht⟩) hS1.2.2 dw_verdict_14
set_option maxHeartbeats 4000000 in
theorem w_verdict_t1 {l : Launch} {D : va_G} {ad : Nat → Nat} {cI cZ cQ : ClassId} {aO : Nat} {cL : ClassId} {h h' : HP} {o : Int64} {a : Int32} (hfl : ∀ e : Env, l.admits e → e.platform.stackTraces = false) (hq : Ec 45 [.inr 0, .inl a] h (.inr 1, h')) : q_MetL l D ad cI cZ cQ aO cL yw_verdict ws_verdict rw_verdict [.ref (ad 0), .int a, .ref aO] h o 2 h' o := by
  refine va_MetW (cc := method_4_code) (maxL := 4) (ret := some .int) q_pl rfl ?_
  intro p e s m args below meth c s₁ B hml hv
  obtain ⟨rfl, hJ, hSt, hThr, hKL, hNc, hO⟩ := hv
  have hx := B.exec
  have hb := B.bytes
  have hr := B.returns
  have hts0 := atoms_spec (ws := ws_verdict) B.pre
  have hts : ∀ w ∈ q_WS, w.before _ s = true := fun w hw => hts0 w (List.mem_cons_of_mem _ hw)
  have hown : s.vm.findClass "CashRecyclerLaw" = some m.cls := findClass_of_methodNamed B.named
  have hlk := B.notSynchronized
  have hl := lv_entry ([.ref (ad 0), .int a, .ref aO]) (n := 4) (Nat.le_of_ble_eq_true rfl)
  rw [lg_entry_eq]
  generalize (lg_sl ([.ref (ad 0), .int a, .ref aO]) ++ List.replicate (4 - (lg_sl ([.ref (ad 0), .int a, .ref aO])).length) Slot.unset).toArray = ls at hl ⊢
  have hl : lv_has ls 4 [(0, .ref (ad 0)), (1, .int a), (2, .ref aO)] := hl
  have hP := q_J_W hJ
  have hS : va_S (q_AL ad aO) s.heap s.heap [] := va_S.rf
  obtain ⟨m9, meth9, c9, g1, g2, g3, -, -, g4, -⟩ := Cond.codeWith_spec (hts0 _ List.mem_cons_self)
  cases B.named.symm.trans g1
  cases B.method.symm.trans g2
  cases (Stand.of_body B).code.symm.trans g3
  obtain ⟨e1, e2, hes, f1, f2⟩ := q_es2 g4
  simp only [Prod.mk.injEq] at f1
  simp only [Prod.mk.injEq] at f2
  refine lv_aload_n hx hb dw_verdict_0 rfl (lv_at hl 2 rfl) ?_
  refine lv_iconst (v := 0) hx hb dw_verdict_1 (by decide) ?_
  refine lv_aload_n hx hb dw_verdict_2 rfl (lv_at hl 0 rfl) ?_
  refine lv_iload_n hx hb dw_verdict_3 rfl (lv_at hl 1 rfl) ?_
  refine q_utry hfl (j := 45) (ro := 0) (idx := 17) (x := 1) (hpc := 15) (as := [.inl a]) (rest := [.int 0, .ref aO]) (A0 := q_AL ad aO) ⟨hx, hb, hml, hown, hts⟩ hSt.1 (by decide) (by decide) rfl hq rfl rfl (q_inAt lw_verdict rfl) (Nat.le_refl _) (Nat.le_refl _) (Nat.le_refl _) (Nat.le_refl _) hP hS (fun q z => Or.inl z) (fun U hU hW => ⟨q_Sta_at hSt va_S.rf hU hW, q_Thr_at hThr hP va_S.rf hU hW⟩) hl.1 rfl (Nat.le_of_ble_eq_true rfl) dw_verdict_4 hes ?_ (fun ex H1 locs1 hP1 hz hk hS1 => ?_)
  · intro U g ex ce z1 z2 z3 z4 z5 z6 hpl
    refine q_fg_pass (x := e1) (own := "CashRecyclerLaw") (X := q_exN 1) (Y := "java/lang/IllegalArgumentException") hpl z4 (by rw [z5]; exact hown) (by simp [covers, f1, z6]) (by rw [f1.2.2.2]; decide) (by rw [f1.2.2.2]; exact hts _ (q_inAt cl_13 rfl)) (by first | exact z1 | exact z1) z2 z3 (hNc _ (by decide +kernel) _ (by decide +kernel) (by decide +kernel)) (fun vm1 z4 => ?_)
    have key := q_fg_hit (e := e) (U := (U.setVm vm1)) (f := g) (a := ex) (x := e2) (t := []) (own := "CashRecyclerLaw") (X := q_exN 1) (args := _) hpl z4 (by rw [z5]; exact hown) (by simp [covers, f2, z6]) (by rw [f2.2.2.2]; decide) (by rw [f2.2.2.2]; exact hts _ (q_inAt cl_15 rfl)) z1 z2 z3 (hThr.1.1 _ (by decide +kernel))
    rw [f2.2.2.1] at key
    exact key
  · have hJ1 : va_P D qCl (q_J ad cI cZ cQ aO cL h' o) H1 := q_J_mk hP1 (by rw [hk aO (Array.getElem?_eq_some_iff.mp (q_J_O hJ)).1 hO]; exact q_J_O hJ)
    refine lv_astore_n hx hb dw_verdict_15 rfl hl (by decide) rfl (fun ls9 hl9 => ?_)
    refine lv_iconst (v := 2) hx hb dw_verdict_16 (by decide) ?_
    exact W.iret hx hb hr (fun t ht _ => ⟨⟨2, (), rfl, rfl, by show va_P _ _ _ t.heap; rw [ht]; exact hJ1⟩, hS1.F ht⟩) hS1.2.2 dw_verdict_17
theorem dw_deposit_0 : decode method_5_code 0 = .ok (.aload_n 0, 1) := by decide +kernel
theorem dw_deposit_1 : decode method_5_code 1 = .ok (.invokevirtual 20, 3) := by decide +kernel
theorem dw_deposit_4 : decode method_5_code 4 = .ok (.goto 6, 3) := by decide +kernel
theorem dw_deposit_7 : decode method_5_code 7 = .ok (.astore_n 1, 1) := by decide +kernel
theorem dw_deposit_8 : decode method_5_code 8 = .ok (.iconst 1, 1) := by decide +kernel
theorem dw_deposit_9 : decode method_5_code 9 = .ok (.ireturn, 1) := by decide +kernel
theorem dw_deposit_10 : decode method_5_code 10 = .ok (.iconst 0, 1) := by decide +kernel
theorem dw_deposit_11 : decode method_5_code 11 = .ok (.ireturn, 1) := by decide +kernel
theorem lw_deposit : lw_tbl[400]? = some (.methodLink "CashRecyclerLaw" 20 (qmY 47)) := by decide +kernel
abbrev yw_deposit : MethodName := ⟨"CashRecyclerLaw", "deposit", "(LCashRecycler;)I"⟩
def ws_deposit : List Cond := .codeWith yw_deposit method_5_code 2 (some .int) [(0, 4, 7, 15)] :: q_WS
def rw_deposit : Room := { frames := qmF 47 + 1, cells := 1, slots := 6, locals := 8 + (qmL 47 + 11) + qmW 47 }
set_option maxHeartbeats 4000000 in
theorem w_deposit_r {l : Launch} {D : va_G} {ad : Nat → Nat} {cI cZ cQ : ClassId} {aO : Nat} {cL : ClassId} {h h' : HP} {o : Int64} (hq : Ec 47 [.inr 0] h (.inl none, h')) : q_MetL l D ad cI cZ cQ aO cL yw_deposit ws_deposit rw_deposit [.ref (ad 0)] h o 0 h' o := by
  refine va_MetW (cc := method_5_code) (maxL := 2) (ret := some .int) q_pl rfl ?_
  intro p e s m args below meth c s₁ B hml hv
  obtain ⟨rfl, hJ, hSt, hThr, hKL, hNc, hO⟩ := hv
  have hx := B.exec
  have hb := B.bytes
  have hr := B.returns
  have hts0 := atoms_spec (ws := ws_deposit) B.pre
  have hts : ∀ w ∈ q_WS, w.before _ s = true := fun w hw => hts0 w (List.mem_cons_of_mem _ hw)
  have hown : s.vm.findClass "CashRecyclerLaw" = some m.cls := findClass_of_methodNamed B.named
  have hlk := B.notSynchronized
  have hl := lv_entry ([.ref (ad 0)]) (n := 2) (Nat.le_of_ble_eq_true rfl)
  rw [lg_entry_eq]
  generalize (lg_sl ([.ref (ad 0)]) ++ List.replicate (2 - (lg_sl ([.ref (ad 0)])).length) Slot.unset).toArray = ls at hl ⊢
  have hl : lv_has ls 2 [(0, .ref (ad 0))] := hl
  have hP := q_J_W hJ
  have hS : va_S (q_AL ad aO) s.heap s.heap [] := va_S.rf
  refine lv_aload_n hx hb dw_deposit_0 rfl (lv_at hl 0 rfl) ?_
  refine q_ucall (j := 47) (ro := 0) (idx := 20) (as := []) (rest := []) (A0 := q_AL ad aO) ⟨hx, hb, hml, hown, hts⟩ hSt.1 (by decide) (by decide) rfl hq rfl rfl (q_inAt lw_deposit rfl) (Nat.le_refl _) (Nat.le_refl _) (Nat.zero_le _) (Nat.zero_le _) hP hS (fun q z => Or.inl z) (fun U hU hW => q_Sta_at hSt va_S.rf hU hW) hl.1 rfl (Nat.le_of_ble_eq_true rfl) dw_deposit_1 (fun H1 locs1 hP1 hz hk hS1 => ?_)
  have hJ1 : va_P D qCl (q_J ad cI cZ cQ aO cL h' o) H1 := q_J_mk hP1 (by rw [hk aO (Array.getElem?_eq_some_iff.mp (q_J_O hJ)).1 hO]; exact q_J_O hJ)
  refine lv_goto hx hb dw_deposit_4 rfl ?_
  refine lv_iconst (v := 0) hx hb dw_deposit_10 (by decide) ?_
  refine W.widen (k := 1) (n := 6) (by omega) (by omega) ?_
  exact W.iret hx hb hr (fun t ht _ => ⟨⟨0, (), rfl, rfl, by show va_P _ _ _ t.heap; rw [ht]; exact hJ1⟩, hS1.F ht⟩) hS1.2.2 dw_deposit_11
set_option maxHeartbeats 4000000 in
theorem w_deposit_t1 {l : Launch} {D : va_G} {ad : Nat → Nat} {cI cZ cQ : ClassId} {aO : Nat} {cL : ClassId} {h h' : HP} {o : Int64} (hfl : ∀ e : Env, l.admits e → e.platform.stackTraces = false) (hq : Ec 47 [.inr 0] h (.inr 1, h')) : q_MetL l D ad cI cZ cQ aO cL yw_deposit ws_deposit rw_deposit [.ref (ad 0)] h o 1 h' o := by
  refine va_MetW (cc := method_5_code) (maxL := 2) (ret := some .int) q_pl rfl ?_
  intro p e s m args below meth c s₁ B hml hv
  obtain ⟨rfl, hJ, hSt, hThr, hKL, hNc, hO⟩ := hv
  have hx := B.exec
  have hb := B.bytes
  have hr := B.returns
  have hts0 := atoms_spec (ws := ws_deposit) B.pre
  have hts : ∀ w ∈ q_WS, w.before _ s = true := fun w hw => hts0 w (List.mem_cons_of_mem _ hw)
  have hown : s.vm.findClass "CashRecyclerLaw" = some m.cls := findClass_of_methodNamed B.named
  have hlk := B.notSynchronized
  have hl := lv_entry ([.ref (ad 0)]) (n := 2) (Nat.le_of_ble_eq_true rfl)
  rw [lg_entry_eq]
  generalize (lg_sl ([.ref (ad 0)]) ++ List.replicate (2 - (lg_sl ([.ref (ad 0)])).length) Slot.unset).toArray = ls at hl ⊢
  have hl : lv_has ls 2 [(0, .ref (ad 0))] := hl
  have hP := q_J_W hJ
  have hS : va_S (q_AL ad aO) s.heap s.heap [] := va_S.rf
  obtain ⟨m9, meth9, c9, g1, g2, g3, -, -, g4, -⟩ := Cond.codeWith_spec (hts0 _ List.mem_cons_self)
  cases B.named.symm.trans g1
  cases B.method.symm.trans g2
  cases (Stand.of_body B).code.symm.trans g3
  obtain ⟨e1, hes, f1⟩ := q_es1 g4
  simp only [Prod.mk.injEq] at f1
  refine lv_aload_n hx hb dw_deposit_0 rfl (lv_at hl 0 rfl) ?_
  refine q_utry hfl (j := 47) (ro := 0) (idx := 20) (x := 1) (hpc := 7) (as := []) (rest := []) (A0 := q_AL ad aO) ⟨hx, hb, hml, hown, hts⟩ hSt.1 (by decide) (by decide) rfl hq rfl rfl (q_inAt lw_deposit rfl) (Nat.le_refl _) (Nat.le_refl _) (Nat.le_refl _) (Nat.le_refl _) hP hS (fun q z => Or.inl z) (fun U hU hW => ⟨q_Sta_at hSt va_S.rf hU hW, q_Thr_at hThr hP va_S.rf hU hW⟩) hl.1 rfl (Nat.le_of_ble_eq_true rfl) dw_deposit_1 hes ?_ (fun ex H1 locs1 hP1 hz hk hS1 => ?_)
  · intro U g ex ce z1 z2 z3 z4 z5 z6 hpl
    have key := q_fg_hit (e := e) (U := U) (f := g) (a := ex) (x := e1) (t := []) (own := "CashRecyclerLaw") (X := q_exN 1) (args := _) hpl z4 (by rw [z5]; exact hown) (by simp [covers, f1, z6]) (by rw [f1.2.2.2]; decide) (by rw [f1.2.2.2]; exact hts _ (q_inAt cl_15 rfl)) z1 z2 z3 (hThr.1.1 _ (by decide +kernel))
    rw [f1.2.2.1] at key
    exact key
  · have hJ1 : va_P D qCl (q_J ad cI cZ cQ aO cL h' o) H1 := q_J_mk hP1 (by rw [hk aO (Array.getElem?_eq_some_iff.mp (q_J_O hJ)).1 hO]; exact q_J_O hJ)
    refine lv_astore_n hx hb dw_deposit_7 rfl hl (by decide) rfl (fun ls9 hl9 => ?_)
    refine lv_iconst (v := 1) hx hb dw_deposit_8 (by decide) ?_
    exact W.iret hx hb hr (fun t ht _ => ⟨⟨1, (), rfl, rfl, by show va_P _ _ _ t.heap; rw [ht]; exact hJ1⟩, hS1.F ht⟩) hS1.2.2 dw_deposit_9
theorem dw_confirm_0 : decode method_6_code 0 = .ok (.aload_n 0, 1) := by decide +kernel
theorem dw_confirm_1 : decode method_6_code 1 = .ok (.invokevirtual 23, 3) := by decide +kernel
theorem dw_confirm_4 : decode method_6_code 4 = .ok (.goto 6, 3) := by decide +kernel
theorem dw_confirm_7 : decode method_6_code 7 = .ok (.astore_n 1, 1) := by decide +kernel
theorem dw_confirm_8 : decode method_6_code 8 = .ok (.iconst 1, 1) := by decide +kernel
theorem dw_confirm_9 : decode method_6_code 9 = .ok (.ireturn, 1) := by decide +kernel
theorem dw_confirm_10 : decode method_6_code 10 = .ok (.iconst 0, 1) := by decide +kernel
theorem dw_confirm_11 : decode method_6_code 11 = .ok (.ireturn, 1) := by decide +kernel
theorem lw_confirm : lw_tbl[412]? = some (.methodLink "CashRecyclerLaw" 23 (qmY 48)) := by decide +kernel
abbrev yw_confirm : MethodName := ⟨"CashRecyclerLaw", "confirm", "(LCashRecycler;)I"⟩
def ws_confirm : List Cond := .codeWith yw_confirm method_6_code 2 (some .int) [(0, 4, 7, 15)] :: q_WS
def rw_confirm : Room := { frames := qmF 48 + 1, cells := 1, slots := 6, locals := 8 + (qmL 48 + 11) + qmW 48 }
set_option maxHeartbeats 4000000 in
theorem w_confirm_r {l : Launch} {D : va_G} {ad : Nat → Nat} {cI cZ cQ : ClassId} {aO : Nat} {cL : ClassId} {h h' : HP} {o : Int64} (hq : Ec 48 [.inr 0] h (.inl none, h')) : q_MetL l D ad cI cZ cQ aO cL yw_confirm ws_confirm rw_confirm [.ref (ad 0)] h o 0 h' o := by
  refine va_MetW (cc := method_6_code) (maxL := 2) (ret := some .int) q_pl rfl ?_
  intro p e s m args below meth c s₁ B hml hv
  obtain ⟨rfl, hJ, hSt, hThr, hKL, hNc, hO⟩ := hv
  have hx := B.exec
  have hb := B.bytes
  have hr := B.returns
  have hts0 := atoms_spec (ws := ws_confirm) B.pre
  have hts : ∀ w ∈ q_WS, w.before _ s = true := fun w hw => hts0 w (List.mem_cons_of_mem _ hw)
  have hown : s.vm.findClass "CashRecyclerLaw" = some m.cls := findClass_of_methodNamed B.named
  have hlk := B.notSynchronized
  have hl := lv_entry ([.ref (ad 0)]) (n := 2) (Nat.le_of_ble_eq_true rfl)
  rw [lg_entry_eq]
  generalize (lg_sl ([.ref (ad 0)]) ++ List.replicate (2 - (lg_sl ([.ref (ad 0)])).length) Slot.unset).toArray = ls at hl ⊢
  have hl : lv_has ls 2 [(0, .ref (ad 0))] := hl
  have hP := q_J_W hJ
  have hS : va_S (q_AL ad aO) s.heap s.heap [] := va_S.rf
  refine lv_aload_n hx hb dw_confirm_0 rfl (lv_at hl 0 rfl) ?_
  refine q_ucall (j := 48) (ro := 0) (idx := 23) (as := []) (rest := []) (A0 := q_AL ad aO) ⟨hx, hb, hml, hown, hts⟩ hSt.1 (by decide) (by decide) rfl hq rfl rfl (q_inAt lw_confirm rfl) (Nat.le_refl _) (Nat.le_refl _) (Nat.zero_le _) (Nat.zero_le _) hP hS (fun q z => Or.inl z) (fun U hU hW => q_Sta_at hSt va_S.rf hU hW) hl.1 rfl (Nat.le_of_ble_eq_true rfl) dw_confirm_1 (fun H1 locs1 hP1 hz hk hS1 => ?_)
  have hJ1 : va_P D qCl (q_J ad cI cZ cQ aO cL h' o) H1 := q_J_mk hP1 (by rw [hk aO (Array.getElem?_eq_some_iff.mp (q_J_O hJ)).1 hO]; exact q_J_O hJ)
  refine lv_goto hx hb dw_confirm_4 rfl ?_
  refine lv_iconst (v := 0) hx hb dw_confirm_10 (by decide) ?_
  refine W.widen (k := 1) (n := 6) (by omega) (by omega) ?_
  exact W.iret hx hb hr (fun t ht _ => ⟨⟨0, (), rfl, rfl, by show va_P _ _ _ t.heap; rw [ht]; exact hJ1⟩, hS1.F ht⟩) hS1.2.2 dw_confirm_11
set_option maxHeartbeats 4000000 in
theorem w_confirm_t1 {l : Launch} {D : va_G} {ad : Nat → Nat} {cI cZ cQ : ClassId} {aO : Nat} {cL : ClassId} {h h' : HP} {o : Int64} (hfl : ∀ e : Env, l.admits e → e.platform.stackTraces = false) (hq : Ec 48 [.inr 0] h (.inr 1, h')) : q_MetL l D ad cI cZ cQ aO cL yw_confirm ws_confirm rw_confirm [.ref (ad 0)] h o 1 h' o := by
  refine va_MetW (cc := method_6_code) (maxL := 2) (ret := some .int) q_pl rfl ?_
  intro p e s m args below meth c s₁ B hml hv
  obtain ⟨rfl, hJ, hSt, hThr, hKL, hNc, hO⟩ := hv
  have hx := B.exec
  have hb := B.bytes
  have hr := B.returns
  have hts0 := atoms_spec (ws := ws_confirm) B.pre
  have hts : ∀ w ∈ q_WS, w.before _ s = true := fun w hw => hts0 w (List.mem_cons_of_mem _ hw)
  have hown : s.vm.findClass "CashRecyclerLaw" = some m.cls := findClass_of_methodNamed B.named
  have hlk := B.notSynchronized
  have hl := lv_entry ([.ref (ad 0)]) (n := 2) (Nat.le_of_ble_eq_true rfl)
  rw [lg_entry_eq]
  generalize (lg_sl ([.ref (ad 0)]) ++ List.replicate (2 - (lg_sl ([.ref (ad 0)])).length) Slot.unset).toArray = ls at hl ⊢
  have hl : lv_has ls 2 [(0, .ref (ad 0))] := hl
  have hP := q_J_W hJ
  have hS : va_S (q_AL ad aO) s.heap s.heap [] := va_S.rf
  obtain ⟨m9, meth9, c9, g1, g2, g3, -, -, g4, -⟩ := Cond.codeWith_spec (hts0 _ List.mem_cons_self)
  cases B.named.symm.trans g1
  cases B.method.symm.trans g2
  cases (Stand.of_body B).code.symm.trans g3
  obtain ⟨e1, hes, f1⟩ := q_es1 g4
  simp only [Prod.mk.injEq] at f1
  refine lv_aload_n hx hb dw_confirm_0 rfl (lv_at hl 0 rfl) ?_
  refine q_utry hfl (j := 48) (ro := 0) (idx := 23) (x := 1) (hpc := 7) (as := []) (rest := []) (A0 := q_AL ad aO) ⟨hx, hb, hml, hown, hts⟩ hSt.1 (by decide) (by decide) rfl hq rfl rfl (q_inAt lw_confirm rfl) (Nat.le_refl _) (Nat.le_refl _) (Nat.le_refl _) (Nat.le_refl _) hP hS (fun q z => Or.inl z) (fun U hU hW => ⟨q_Sta_at hSt va_S.rf hU hW, q_Thr_at hThr hP va_S.rf hU hW⟩) hl.1 rfl (Nat.le_of_ble_eq_true rfl) dw_confirm_1 hes ?_ (fun ex H1 locs1 hP1 hz hk hS1 => ?_)
  · intro U g ex ce z1 z2 z3 z4 z5 z6 hpl
    have key := q_fg_hit (e := e) (U := U) (f := g) (a := ex) (x := e1) (t := []) (own := "CashRecyclerLaw") (X := q_exN 1) (args := _) hpl z4 (by rw [z5]; exact hown) (by simp [covers, f1, z6]) (by rw [f1.2.2.2]; decide) (by rw [f1.2.2.2]; exact hts _ (q_inAt cl_15 rfl)) z1 z2 z3 (hThr.1.1 _ (by decide +kernel))
    rw [f1.2.2.1] at key
    exact key
  · have hJ1 : va_P D qCl (q_J ad cI cZ cQ aO cL h' o) H1 := q_J_mk hP1 (by rw [hk aO (Array.getElem?_eq_some_iff.mp (q_J_O hJ)).1 hO]; exact q_J_O hJ)
    refine lv_astore_n hx hb dw_confirm_7 rfl hl (by decide) rfl (fun ls9 hl9 => ?_)
    refine lv_iconst (v := 1) hx hb dw_confirm_8 (by decide) ?_
    exact W.iret hx hb hr (fun t ht _ => ⟨⟨1, (), rfl, rfl, by show va_P _ _ _ t.heap; rw [ht]; exact hJ1⟩, hS1.F ht⟩) hS1.2.2 dw_confirm_9
theorem dw_giveBack_0 : decode method_7_code 0 = .ok (.aload_n 0, 1) := by decide +kernel
theorem dw_giveBack_1 : decode method_7_code 1 = .ok (.invokevirtual 26, 3) := by decide +kernel
theorem dw_giveBack_4 : decode method_7_code 4 = .ok (.goto 6, 3) := by decide +kernel
theorem dw_giveBack_7 : decode method_7_code 7 = .ok (.astore_n 1, 1) := by decide +kernel
theorem dw_giveBack_8 : decode method_7_code 8 = .ok (.iconst 1, 1) := by decide +kernel
theorem dw_giveBack_9 : decode method_7_code 9 = .ok (.ireturn, 1) := by decide +kernel
theorem dw_giveBack_10 : decode method_7_code 10 = .ok (.iconst 0, 1) := by decide +kernel
theorem dw_giveBack_11 : decode method_7_code 11 = .ok (.ireturn, 1) := by decide +kernel
theorem lw_giveBack : lw_tbl[419]? = some (.methodLink "CashRecyclerLaw" 26 (qmY 49)) := by decide +kernel
abbrev yw_giveBack : MethodName := ⟨"CashRecyclerLaw", "giveBack", "(LCashRecycler;)I"⟩
def ws_giveBack : List Cond := .codeWith yw_giveBack method_7_code 2 (some .int) [(0, 4, 7, 15)] :: q_WS
def rw_giveBack : Room := { frames := qmF 49 + 1, cells := 1, slots := 6, locals := 8 + (qmL 49 + 11) + qmW 49 }
set_option maxHeartbeats 4000000 in
theorem w_giveBack_r {l : Launch} {D : va_G} {ad : Nat → Nat} {cI cZ cQ : ClassId} {aO : Nat} {cL : ClassId} {h h' : HP} {o : Int64} (hq : Ec 49 [.inr 0] h (.inl none, h')) : q_MetL l D ad cI cZ cQ aO cL yw_giveBack ws_giveBack rw_giveBack [.ref (ad 0)] h o 0 h' o := by
  refine va_MetW (cc := method_7_code) (maxL := 2) (ret := some .int) q_pl rfl ?_
  intro p e s m args below meth c s₁ B hml hv
  obtain ⟨rfl, hJ, hSt, hThr, hKL, hNc, hO⟩ := hv
  have hx := B.exec
  have hb := B.bytes
  have hr := B.returns
  have hts0 := atoms_spec (ws := ws_giveBack) B.pre
  have hts : ∀ w ∈ q_WS, w.before _ s = true := fun w hw => hts0 w (List.mem_cons_of_mem _ hw)
  have hown : s.vm.findClass "CashRecyclerLaw" = some m.cls := findClass_of_methodNamed B.named
  have hlk := B.notSynchronized
  have hl := lv_entry ([.ref (ad 0)]) (n := 2) (Nat.le_of_ble_eq_true rfl)
  rw [lg_entry_eq]
  generalize (lg_sl ([.ref (ad 0)]) ++ List.replicate (2 - (lg_sl ([.ref (ad 0)])).length) Slot.unset).toArray = ls at hl ⊢
  have hl : lv_has ls 2 [(0, .ref (ad 0))] := hl
  have hP := q_J_W hJ
  have hS : va_S (q_AL ad aO) s.heap s.heap [] := va_S.rf
  refine lv_aload_n hx hb dw_giveBack_0 rfl (lv_at hl 0 rfl) ?_
  refine q_ucall (j := 49) (ro := 0) (idx := 26) (as := []) (rest := []) (A0 := q_AL ad aO) ⟨hx, hb, hml, hown, hts⟩ hSt.1 (by decide) (by decide) rfl hq rfl rfl (q_inAt lw_giveBack rfl) (Nat.le_refl _) (Nat.le_refl _) (Nat.zero_le _) (Nat.zero_le _) hP hS (fun q z => Or.inl z) (fun U hU hW => q_Sta_at hSt va_S.rf hU hW) hl.1 rfl (Nat.le_of_ble_eq_true rfl) dw_giveBack_1 (fun H1 locs1 hP1 hz hk hS1 => ?_)
  have hJ1 : va_P D qCl (q_J ad cI cZ cQ aO cL h' o) H1 := q_J_mk hP1 (by rw [hk aO (Array.getElem?_eq_some_iff.mp (q_J_O hJ)).1 hO]; exact q_J_O hJ)
  refine lv_goto hx hb dw_giveBack_4 rfl ?_
  refine lv_iconst (v := 0) hx hb dw_giveBack_10 (by decide) ?_
  refine W.widen (k := 1) (n := 6) (by omega) (by omega) ?_
  exact W.iret hx hb hr (fun t ht _ => ⟨⟨0, (), rfl, rfl, by show va_P _ _ _ t.heap; rw [ht]; exact hJ1⟩, hS1.F ht⟩) hS1.2.2 dw_giveBack_11
set_option maxHeartbeats 4000000 in
theorem w_giveBack_t1 {l : Launch} {D : va_G} {ad : Nat → Nat} {cI cZ cQ : ClassId} {aO : Nat} {cL : ClassId} {h h' : HP} {o : Int64} (hfl : ∀ e : Env, l.admits e → e.platform.stackTraces = false) (hq : Ec 49 [.inr 0] h (.inr 1, h')) : q_MetL l D ad cI cZ cQ aO cL yw_giveBack ws_giveBack rw_giveBack [.ref (ad 0)] h o 1 h' o := by
  refine va_MetW (cc := method_7_code) (maxL := 2) (ret := some .int) q_pl rfl ?_
  intro p e s m args below meth c s₁ B hml hv
  obtain ⟨rfl, hJ, hSt, hThr, hKL, hNc, hO⟩ := hv
  have hx := B.exec
  have hb := B.bytes
  have hr := B.returns
  have hts0 := atoms_spec (ws := ws_giveBack) B.pre
  have hts : ∀ w ∈ q_WS, w.before _ s = true := fun w hw => hts0 w (List.mem_cons_of_mem _ hw)
  have hown : s.vm.findClass "CashRecyclerLaw" = some m.cls := findClass_of_methodNamed B.named
  have hlk := B.notSynchronized
  have hl := lv_entry ([.ref (ad 0)]) (n := 2) (Nat.le_of_ble_eq_true rfl)
  rw [lg_entry_eq]
  generalize (lg_sl ([.ref (ad 0)]) ++ List.replicate (2 - (lg_sl ([.ref (ad 0)])).length) Slot.unset).toArray = ls at hl ⊢
  have hl : lv_has ls 2 [(0, .ref (ad 0))] := hl
  have hP := q_J_W hJ
  have hS : va_S (q_AL ad aO) s.heap s.heap [] := va_S.rf
  obtain ⟨m9, meth9, c9, g1, g2, g3, -, -, g4, -⟩ := Cond.codeWith_spec (hts0 _ List.mem_cons_self)
  cases B.named.symm.trans g1
  cases B.method.symm.trans g2
  cases (Stand.of_body B).code.symm.trans g3
  obtain ⟨e1, hes, f1⟩ := q_es1 g4
  simp only [Prod.mk.injEq] at f1
  refine lv_aload_n hx hb dw_giveBack_0 rfl (lv_at hl 0 rfl) ?_
  refine q_utry hfl (j := 49) (ro := 0) (idx := 26) (x := 1) (hpc := 7) (as := []) (rest := []) (A0 := q_AL ad aO) ⟨hx, hb, hml, hown, hts⟩ hSt.1 (by decide) (by decide) rfl hq rfl rfl (q_inAt lw_giveBack rfl) (Nat.le_refl _) (Nat.le_refl _) (Nat.le_refl _) (Nat.le_refl _) hP hS (fun q z => Or.inl z) (fun U hU hW => ⟨q_Sta_at hSt va_S.rf hU hW, q_Thr_at hThr hP va_S.rf hU hW⟩) hl.1 rfl (Nat.le_of_ble_eq_true rfl) dw_giveBack_1 hes ?_ (fun ex H1 locs1 hP1 hz hk hS1 => ?_)
  · intro U g ex ce z1 z2 z3 z4 z5 z6 hpl
    have key := q_fg_hit (e := e) (U := U) (f := g) (a := ex) (x := e1) (t := []) (own := "CashRecyclerLaw") (X := q_exN 1) (args := _) hpl z4 (by rw [z5]; exact hown) (by simp [covers, f1, z6]) (by rw [f1.2.2.2]; decide) (by rw [f1.2.2.2]; exact hts _ (q_inAt cl_15 rfl)) z1 z2 z3 (hThr.1.1 _ (by decide +kernel))
    rw [f1.2.2.1] at key
    exact key
  · have hJ1 : va_P D qCl (q_J ad cI cZ cQ aO cL h' o) H1 := q_J_mk hP1 (by rw [hk aO (Array.getElem?_eq_some_iff.mp (q_J_O hJ)).1 hO]; exact q_J_O hJ)
    refine lv_astore_n hx hb dw_giveBack_7 rfl hl (by decide) rfl (fun ls9 hl9 => ?_)
    refine lv_iconst (v := 1) hx hb dw_giveBack_8 (by decide) ?_
    exact W.iret hx hb hr (fun t ht _ => ⟨⟨1, (), rfl, rfl, by show va_P _ _ _ t.heap; rw [ht]; exact hJ1⟩, hS1.F ht⟩) hS1.2.2 dw_giveBack_9
theorem dw_payout_0 : decode method_8_code 0 = .ok (.aload_n 2, 1) := by decide +kernel
theorem dw_payout_1 : decode method_8_code 1 = .ok (.iconst 0, 1) := by decide +kernel
theorem dw_payout_2 : decode method_8_code 2 = .ok (.aload_n 0, 1) := by decide +kernel
theorem dw_payout_3 : decode method_8_code 3 = .ok (.iload_n 1, 1) := by decide +kernel
theorem dw_payout_4 : decode method_8_code 4 = .ok (.invokevirtual 29, 3) := by decide +kernel
theorem dw_payout_7 : decode method_8_code 7 = .ok (.i2l, 1) := by decide +kernel
theorem dw_payout_8 : decode method_8_code 8 = .ok (.lastore, 1) := by decide +kernel
theorem dw_payout_9 : decode method_8_code 9 = .ok (.goto 12, 3) := by decide +kernel
theorem dw_payout_12 : decode method_8_code 12 = .ok (.astore_n 3, 1) := by decide +kernel
theorem dw_payout_13 : decode method_8_code 13 = .ok (.iconst 1, 1) := by decide +kernel
theorem dw_payout_14 : decode method_8_code 14 = .ok (.ireturn, 1) := by decide +kernel
theorem dw_payout_15 : decode method_8_code 15 = .ok (.astore_n 3, 1) := by decide +kernel
theorem dw_payout_16 : decode method_8_code 16 = .ok (.iconst 2, 1) := by decide +kernel
theorem dw_payout_17 : decode method_8_code 17 = .ok (.ireturn, 1) := by decide +kernel
theorem dw_payout_18 : decode method_8_code 18 = .ok (.astore_n 3, 1) := by decide +kernel
theorem dw_payout_19 : decode method_8_code 19 = .ok (.iconst 3, 1) := by decide +kernel
theorem dw_payout_20 : decode method_8_code 20 = .ok (.ireturn, 1) := by decide +kernel
theorem dw_payout_21 : decode method_8_code 21 = .ok (.iconst 0, 1) := by decide +kernel
theorem dw_payout_22 : decode method_8_code 22 = .ok (.ireturn, 1) := by decide +kernel
theorem lw_payout : lw_tbl[427]? = some (.methodLink "CashRecyclerLaw" 29 (qmY 51)) := by decide +kernel
abbrev yw_payout : MethodName := ⟨"CashRecyclerLaw", "payout", "(LCashRecycler;I[J)I"⟩
def ws_payout : List Cond := .codeWith yw_payout method_8_code 4 (some .int) [(0, 9, 12, 13), (0, 9, 15, 15), (0, 9, 18, 32)] :: q_WS
def rw_payout : Room := { frames := qmF 51 + 1, cells := 1, slots := 6, locals := 8 + (qmL 51 + 11) + qmW 51 }
set_option maxHeartbeats 4000000 in
theorem w_payout_r {l : Launch} {D : va_G} {ad : Nat → Nat} {cI cZ cQ : ClassId} {aO : Nat} {cL : ClassId} {h h' : HP} {o : Int64} {a : Int32} {v : Int32} (hq : Ec 51 [.inr 0, .inl a] h (.inl (some v), h')) : q_MetL l D ad cI cZ cQ aO cL yw_payout ws_payout rw_payout [.ref (ad 0), .int a, .ref aO] h o 0 h' v.toInt64 := by
  refine va_MetW (cc := method_8_code) (maxL := 4) (ret := some .int) q_pl rfl ?_
  intro p e s m args below meth c s₁ B hml hv
  obtain ⟨rfl, hJ, hSt, hThr, hKL, hNc, hO⟩ := hv
  have hx := B.exec
  have hb := B.bytes
  have hr := B.returns
  have hts0 := atoms_spec (ws := ws_payout) B.pre
  have hts : ∀ w ∈ q_WS, w.before _ s = true := fun w hw => hts0 w (List.mem_cons_of_mem _ hw)
  have hown : s.vm.findClass "CashRecyclerLaw" = some m.cls := findClass_of_methodNamed B.named
  have hlk := B.notSynchronized
  have hl := lv_entry ([.ref (ad 0), .int a, .ref aO]) (n := 4) (Nat.le_of_ble_eq_true rfl)
  rw [lg_entry_eq]
  generalize (lg_sl ([.ref (ad 0), .int a, .ref aO]) ++ List.replicate (4 - (lg_sl ([.ref (ad 0), .int a, .ref aO])).length) Slot.unset).toArray = ls at hl ⊢
  have hl : lv_has ls 4 [(0, .ref (ad 0)), (1, .int a), (2, .ref aO)] := hl
  have hP := q_J_W hJ
  have hS : va_S (q_AL ad aO) s.heap s.heap [] := va_S.rf
  refine lv_aload_n hx hb dw_payout_0 rfl (lv_at hl 2 rfl) ?_
  refine lv_iconst (v := 0) hx hb dw_payout_1 (by decide) ?_
  refine lv_aload_n hx hb dw_payout_2 rfl (lv_at hl 0 rfl) ?_
  refine lv_iload_n hx hb dw_payout_3 rfl (lv_at hl 1 rfl) ?_
  refine q_ucall (j := 51) (ro := 0) (idx := 29) (as := [.inl a]) (rest := [.int 0, .ref aO]) (A0 := q_AL ad aO) ⟨hx, hb, hml, hown, hts⟩ hSt.1 (by decide) (by decide) rfl hq rfl rfl (q_inAt lw_payout rfl) (Nat.le_refl _) (Nat.le_refl _) (Nat.zero_le _) (Nat.zero_le _) hP hS (fun q z => Or.inl z) (fun U hU hW => q_Sta_at hSt va_S.rf hU hW) hl.1 rfl (Nat.le_of_ble_eq_true rfl) dw_payout_4 (fun H1 locs1 hP1 hz hk hS1 => ?_)
  have hJ1 : va_P D qCl (q_J ad cI cZ cQ aO cL h' o) H1 := q_J_mk hP1 (by rw [hk aO (Array.getElem?_eq_some_iff.mp (q_J_O hJ)).1 hO]; exact q_J_O hJ)
  refine lv_i2l (v := v.toInt64) hx hb dw_payout_7 rfl ?_
  refine va_last (D := D) (cl := qCl) (H0 := s.heap) (A := q_AL ad aO) hx hb hKL hJ1 (q_J_D hSt.2.2.2.2 hO (fun _ z => z)) hS1 47 0 q_J_47 rfl q_in01 dw_payout_8 (fun H2 locs2 hP2 hD2 hS2 => ?_)
  have hJ2 : va_P D qCl (q_J ad cI cZ cQ aO cL h' v.toInt64) H2 := q_J_set (by rfl) hP2
  refine lv_goto hx hb dw_payout_9 rfl ?_
  refine lv_iconst (v := 0) hx hb dw_payout_21 (by decide) ?_
  refine W.widen (k := 1) (n := 6) (by omega) (by omega) ?_
  exact W.iret hx hb hr (fun t ht _ => ⟨⟨0, (), rfl, rfl, by show va_P _ _ _ t.heap; rw [ht]; exact hJ2⟩, hS2.F ht⟩) hS2.2.2 dw_payout_22
set_option maxHeartbeats 4000000 in
theorem w_payout_t0 {l : Launch} {D : va_G} {ad : Nat → Nat} {cI cZ cQ : ClassId} {aO : Nat} {cL : ClassId} {h h' : HP} {o : Int64} {a : Int32} (hfl : ∀ e : Env, l.admits e → e.platform.stackTraces = false) (hq : Ec 51 [.inr 0, .inl a] h (.inr 0, h')) : q_MetL l D ad cI cZ cQ aO cL yw_payout ws_payout rw_payout [.ref (ad 0), .int a, .ref aO] h o 1 h' o := by
  refine va_MetW (cc := method_8_code) (maxL := 4) (ret := some .int) q_pl rfl ?_
  intro p e s m args below meth c s₁ B hml hv
  obtain ⟨rfl, hJ, hSt, hThr, hKL, hNc, hO⟩ := hv
  have hx := B.exec
  have hb := B.bytes
  have hr := B.returns
  have hts0 := atoms_spec (ws := ws_payout) B.pre
  have hts : ∀ w ∈ q_WS, w.before _ s = true := fun w hw => hts0 w (List.mem_cons_of_mem _ hw)
  have hown : s.vm.findClass "CashRecyclerLaw" = some m.cls := findClass_of_methodNamed B.named
  have hlk := B.notSynchronized
  have hl := lv_entry ([.ref (ad 0), .int a, .ref aO]) (n := 4) (Nat.le_of_ble_eq_true rfl)
  rw [lg_entry_eq]
  generalize (lg_sl ([.ref (ad 0), .int a, .ref aO]) ++ List.replicate (4 - (lg_sl ([.ref (ad 0), .int a, .ref aO])).length) Slot.unset).toArray = ls at hl ⊢
  have hl : lv_has ls 4 [(0, .ref (ad 0)), (1, .int a), (2, .ref aO)] := hl
  have hP := q_J_W hJ
  have hS : va_S (q_AL ad aO) s.heap s.heap [] := va_S.rf
  obtain ⟨m9, meth9, c9, g1, g2, g3, -, -, g4, -⟩ := Cond.codeWith_spec (hts0 _ List.mem_cons_self)
  cases B.named.symm.trans g1
  cases B.method.symm.trans g2
  cases (Stand.of_body B).code.symm.trans g3
  obtain ⟨e1, e2, e3, hes, f1, f2, f3⟩ := q_es3 g4
  simp only [Prod.mk.injEq] at f1
  simp only [Prod.mk.injEq] at f2
  simp only [Prod.mk.injEq] at f3
  refine lv_aload_n hx hb dw_payout_0 rfl (lv_at hl 2 rfl) ?_
  refine lv_iconst (v := 0) hx hb dw_payout_1 (by decide) ?_
  refine lv_aload_n hx hb dw_payout_2 rfl (lv_at hl 0 rfl) ?_
  refine lv_iload_n hx hb dw_payout_3 rfl (lv_at hl 1 rfl) ?_
  refine q_utry hfl (j := 51) (ro := 0) (idx := 29) (x := 0) (hpc := 12) (as := [.inl a]) (rest := [.int 0, .ref aO]) (A0 := q_AL ad aO) ⟨hx, hb, hml, hown, hts⟩ hSt.1 (by decide) (by decide) rfl hq rfl rfl (q_inAt lw_payout rfl) (Nat.le_refl _) (Nat.le_refl _) (Nat.le_refl _) (Nat.le_refl _) hP hS (fun q z => Or.inl z) (fun U hU hW => ⟨q_Sta_at hSt va_S.rf hU hW, q_Thr_at hThr hP va_S.rf hU hW⟩) hl.1 rfl (Nat.le_of_ble_eq_true rfl) dw_payout_4 hes ?_ (fun ex H1 locs1 hP1 hz hk hS1 => ?_)
  · intro U g ex ce z1 z2 z3 z4 z5 z6 hpl
    have key := q_fg_hit (e := e) (U := U) (f := g) (a := ex) (x := e1) (t := [e2, e3]) (own := "CashRecyclerLaw") (X := q_exN 0) (args := _) hpl z4 (by rw [z5]; exact hown) (by simp [covers, f1, z6]) (by rw [f1.2.2.2]; decide) (by rw [f1.2.2.2]; exact hts _ (q_inAt cl_13 rfl)) z1 z2 z3 (hThr.1.1 _ (by decide +kernel))
    rw [f1.2.2.1] at key
    exact key
  · have hJ1 : va_P D qCl (q_J ad cI cZ cQ aO cL h' o) H1 := q_J_mk hP1 (by rw [hk aO (Array.getElem?_eq_some_iff.mp (q_J_O hJ)).1 hO]; exact q_J_O hJ)
    refine lv_astore_n hx hb dw_payout_12 rfl hl (by decide) rfl (fun ls9 hl9 => ?_)
    refine lv_iconst (v := 1) hx hb dw_payout_13 (by decide) ?_
    exact W.iret hx hb hr (fun t ht _ => ⟨⟨1, (), rfl, rfl, by show va_P _ _ _ t.heap; rw [ht]; exact hJ1⟩, hS1.F ht⟩) hS1.2.2 dw_payout_14
set_option maxHeartbeats 4000000 in
theorem w_payout_t1 {l : Launch} {D : va_G} {ad : Nat → Nat} {cI cZ cQ : ClassId} {aO : Nat} {cL : ClassId} {h h' : HP} {o : Int64} {a : Int32} (hfl : ∀ e : Env, l.admits e → e.platform.stackTraces = false) (hq : Ec 51 [.inr 0, .inl a] h (.inr 1, h')) : q_MetL l D ad cI cZ cQ aO cL yw_payout ws_payout rw_payout [.ref (ad 0), .int a, .ref aO] h o 2 h' o := by
  refine va_MetW (cc := method_8_code) (maxL := 4) (ret := some .int) q_pl rfl ?_
  intro p e s m args below meth c s₁ B hml hv
  obtain ⟨rfl, hJ, hSt, hThr, hKL, hNc, hO⟩ := hv
  have hx := B.exec
  have hb := B.bytes
  have hr := B.returns
  have hts0 := atoms_spec (ws := ws_payout) B.pre
  have hts : ∀ w ∈ q_WS, w.before _ s = true := fun w hw => hts0 w (List.mem_cons_of_mem _ hw)
  have hown : s.vm.findClass "CashRecyclerLaw" = some m.cls := findClass_of_methodNamed B.named
  have hlk := B.notSynchronized
  have hl := lv_entry ([.ref (ad 0), .int a, .ref aO]) (n := 4) (Nat.le_of_ble_eq_true rfl)
  rw [lg_entry_eq]
  generalize (lg_sl ([.ref (ad 0), .int a, .ref aO]) ++ List.replicate (4 - (lg_sl ([.ref (ad 0), .int a, .ref aO])).length) Slot.unset).toArray = ls at hl ⊢
  have hl : lv_has ls 4 [(0, .ref (ad 0)), (1, .int a), (2, .ref aO)] := hl
  have hP := q_J_W hJ
  have hS : va_S (q_AL ad aO) s.heap s.heap [] := va_S.rf
  obtain ⟨m9, meth9, c9, g1, g2, g3, -, -, g4, -⟩ := Cond.codeWith_spec (hts0 _ List.mem_cons_self)
  cases B.named.symm.trans g1
  cases B.method.symm.trans g2
  cases (Stand.of_body B).code.symm.trans g3
  obtain ⟨e1, e2, e3, hes, f1, f2, f3⟩ := q_es3 g4
  simp only [Prod.mk.injEq] at f1
  simp only [Prod.mk.injEq] at f2
  simp only [Prod.mk.injEq] at f3
  refine lv_aload_n hx hb dw_payout_0 rfl (lv_at hl 2 rfl) ?_
  refine lv_iconst (v := 0) hx hb dw_payout_1 (by decide) ?_
  refine lv_aload_n hx hb dw_payout_2 rfl (lv_at hl 0 rfl) ?_
  refine lv_iload_n hx hb dw_payout_3 rfl (lv_at hl 1 rfl) ?_
  refine q_utry hfl (j := 51) (ro := 0) (idx := 29) (x := 1) (hpc := 15) (as := [.inl a]) (rest := [.int 0, .ref aO]) (A0 := q_AL ad aO) ⟨hx, hb, hml, hown, hts⟩ hSt.1 (by decide) (by decide) rfl hq rfl rfl (q_inAt lw_payout rfl) (Nat.le_refl _) (Nat.le_refl _) (Nat.le_refl _) (Nat.le_refl _) hP hS (fun q z => Or.inl z) (fun U hU hW => ⟨q_Sta_at hSt va_S.rf hU hW, q_Thr_at hThr hP va_S.rf hU hW⟩) hl.1 rfl (Nat.le_of_ble_eq_true rfl) dw_payout_4 hes ?_ (fun ex H1 locs1 hP1 hz hk hS1 => ?_)
  · intro U g ex ce z1 z2 z3 z4 z5 z6 hpl
    refine q_fg_pass (x := e1) (own := "CashRecyclerLaw") (X := q_exN 1) (Y := "java/lang/IllegalArgumentException") hpl z4 (by rw [z5]; exact hown) (by simp [covers, f1, z6]) (by rw [f1.2.2.2]; decide) (by rw [f1.2.2.2]; exact hts _ (q_inAt cl_13 rfl)) (by first | exact z1 | exact z1) z2 z3 (hNc _ (by decide +kernel) _ (by decide +kernel) (by decide +kernel)) (fun vm1 z4 => ?_)
    have key := q_fg_hit (e := e) (U := (U.setVm vm1)) (f := g) (a := ex) (x := e2) (t := [e3]) (own := "CashRecyclerLaw") (X := q_exN 1) (args := _) hpl z4 (by rw [z5]; exact hown) (by simp [covers, f2, z6]) (by rw [f2.2.2.2]; decide) (by rw [f2.2.2.2]; exact hts _ (q_inAt cl_15 rfl)) z1 z2 z3 (hThr.1.1 _ (by decide +kernel))
    rw [f2.2.2.1] at key
    exact key
  · have hJ1 : va_P D qCl (q_J ad cI cZ cQ aO cL h' o) H1 := q_J_mk hP1 (by rw [hk aO (Array.getElem?_eq_some_iff.mp (q_J_O hJ)).1 hO]; exact q_J_O hJ)
    refine lv_astore_n hx hb dw_payout_15 rfl hl (by decide) rfl (fun ls9 hl9 => ?_)
    refine lv_iconst (v := 2) hx hb dw_payout_16 (by decide) ?_
    exact W.iret hx hb hr (fun t ht _ => ⟨⟨2, (), rfl, rfl, by show va_P _ _ _ t.heap; rw [ht]; exact hJ1⟩, hS1.F ht⟩) hS1.2.2 dw_payout_17
set_option maxHeartbeats 4000000 in
theorem w_payout_t2 {l : Launch} {D : va_G} {ad : Nat → Nat} {cI cZ cQ : ClassId} {aO : Nat} {cL : ClassId} {h h' : HP} {o : Int64} {a : Int32} (hfl : ∀ e : Env, l.admits e → e.platform.stackTraces = false) (hq : Ec 51 [.inr 0, .inl a] h (.inr 2, h')) : q_MetL l D ad cI cZ cQ aO cL yw_payout ws_payout rw_payout [.ref (ad 0), .int a, .ref aO] h o 3 h' o := by
  refine va_MetW (cc := method_8_code) (maxL := 4) (ret := some .int) q_pl rfl ?_
  intro p e s m args below meth c s₁ B hml hv
  obtain ⟨rfl, hJ, hSt, hThr, hKL, hNc, hO⟩ := hv
  have hx := B.exec
  have hb := B.bytes
  have hr := B.returns
  have hts0 := atoms_spec (ws := ws_payout) B.pre
  have hts : ∀ w ∈ q_WS, w.before _ s = true := fun w hw => hts0 w (List.mem_cons_of_mem _ hw)
  have hown : s.vm.findClass "CashRecyclerLaw" = some m.cls := findClass_of_methodNamed B.named
  have hlk := B.notSynchronized
  have hl := lv_entry ([.ref (ad 0), .int a, .ref aO]) (n := 4) (Nat.le_of_ble_eq_true rfl)
  rw [lg_entry_eq]
  generalize (lg_sl ([.ref (ad 0), .int a, .ref aO]) ++ List.replicate (4 - (lg_sl ([.ref (ad 0), .int a, .ref aO])).length) Slot.unset).toArray = ls at hl ⊢
  have hl : lv_has ls 4 [(0, .ref (ad 0)), (1, .int a), (2, .ref aO)] := hl
  have hP := q_J_W hJ
  have hS : va_S (q_AL ad aO) s.heap s.heap [] := va_S.rf
  obtain ⟨m9, meth9, c9, g1, g2, g3, -, -, g4, -⟩ := Cond.codeWith_spec (hts0 _ List.mem_cons_self)
  cases B.named.symm.trans g1
  cases B.method.symm.trans g2
  cases (Stand.of_body B).code.symm.trans g3
  obtain ⟨e1, e2, e3, hes, f1, f2, f3⟩ := q_es3 g4
  simp only [Prod.mk.injEq] at f1
  simp only [Prod.mk.injEq] at f2
  simp only [Prod.mk.injEq] at f3
  refine lv_aload_n hx hb dw_payout_0 rfl (lv_at hl 2 rfl) ?_
  refine lv_iconst (v := 0) hx hb dw_payout_1 (by decide) ?_
  refine lv_aload_n hx hb dw_payout_2 rfl (lv_at hl 0 rfl) ?_
  refine lv_iload_n hx hb dw_payout_3 rfl (lv_at hl 1 rfl) ?_
  refine q_utry hfl (j := 51) (ro := 0) (idx := 29) (x := 2) (hpc := 18) (as := [.inl a]) (rest := [.int 0, .ref aO]) (A0 := q_AL ad aO) ⟨hx, hb, hml, hown, hts⟩ hSt.1 (by decide) (by decide) rfl hq rfl rfl (q_inAt lw_payout rfl) (Nat.le_refl _) (Nat.le_refl _) (Nat.le_refl _) (Nat.le_refl _) hP hS (fun q z => Or.inl z) (fun U hU hW => ⟨q_Sta_at hSt va_S.rf hU hW, q_Thr_at hThr hP va_S.rf hU hW⟩) hl.1 rfl (Nat.le_of_ble_eq_true rfl) dw_payout_4 hes ?_ (fun ex H1 locs1 hP1 hz hk hS1 => ?_)
  · intro U g ex ce z1 z2 z3 z4 z5 z6 hpl
    refine q_fg_pass (x := e1) (own := "CashRecyclerLaw") (X := q_exN 2) (Y := "java/lang/IllegalArgumentException") hpl z4 (by rw [z5]; exact hown) (by simp [covers, f1, z6]) (by rw [f1.2.2.2]; decide) (by rw [f1.2.2.2]; exact hts _ (q_inAt cl_13 rfl)) (by first | exact z1 | exact z1) z2 z3 (hNc _ (by decide +kernel) _ (by decide +kernel) (by decide +kernel)) (fun vm1 z4 => ?_)
    refine q_fg_pass (x := e2) (own := "CashRecyclerLaw") (X := q_exN 2) (Y := "java/lang/IllegalStateException") hpl z4 (by rw [z5]; exact hown) (by simp [covers, f2, z6]) (by rw [f2.2.2.2]; decide) (by rw [f2.2.2.2]; exact hts _ (q_inAt cl_15 rfl)) (by first | exact z1 | exact z1) z2 z3 (hNc _ (by decide +kernel) _ (by decide +kernel) (by decide +kernel)) (fun vm2 z4 => ?_)
    have key := q_fg_hit (e := e) (U := ((U.setVm vm1).setVm vm2)) (f := g) (a := ex) (x := e3) (t := []) (own := "CashRecyclerLaw") (X := q_exN 2) (args := _) hpl z4 (by rw [z5]; exact hown) (by simp [covers, f3, z6]) (by rw [f3.2.2.2]; decide) (by rw [f3.2.2.2]; exact hts _ (q_inAt cl_32 rfl)) z1 z2 z3 (hThr.1.1 _ (by decide +kernel))
    rw [f3.2.2.1] at key
    exact key
  · have hJ1 : va_P D qCl (q_J ad cI cZ cQ aO cL h' o) H1 := q_J_mk hP1 (by rw [hk aO (Array.getElem?_eq_some_iff.mp (q_J_O hJ)).1 hO]; exact q_J_O hJ)
    refine lv_astore_n hx hb dw_payout_18 rfl hl (by decide) rfl (fun ls9 hl9 => ?_)
    refine lv_iconst (v := 3) hx hb dw_payout_19 (by decide) ?_
    exact W.iret hx hb hr (fun t ht _ => ⟨⟨3, (), rfl, rfl, by show va_P _ _ _ t.heap; rw [ht]; exact hJ1⟩, hS1.F ht⟩) hS1.2.2 dw_payout_20
theorem dw_plan_0 : decode method_9_code 0 = .ok (.aload_n 3, 1) := by decide +kernel
theorem dw_plan_1 : decode method_9_code 1 = .ok (.iconst 0, 1) := by decide +kernel
theorem dw_plan_2 : decode method_9_code 2 = .ok (.aload_n 0, 1) := by decide +kernel
theorem dw_plan_3 : decode method_9_code 3 = .ok (.iload_n 1, 1) := by decide +kernel
theorem dw_plan_4 : decode method_9_code 4 = .ok (.iload_n 2, 1) := by decide +kernel
theorem dw_plan_5 : decode method_9_code 5 = .ok (.invokevirtual 34, 3) := by decide +kernel
theorem dw_plan_8 : decode method_9_code 8 = .ok (.i2l, 1) := by decide +kernel
theorem dw_plan_9 : decode method_9_code 9 = .ok (.lastore, 1) := by decide +kernel
theorem dw_plan_10 : decode method_9_code 10 = .ok (.goto 7, 3) := by decide +kernel
theorem dw_plan_13 : decode method_9_code 13 = .ok (.astore 4, 2) := by decide +kernel
theorem dw_plan_15 : decode method_9_code 15 = .ok (.iconst 1, 1) := by decide +kernel
theorem dw_plan_16 : decode method_9_code 16 = .ok (.ireturn, 1) := by decide +kernel
theorem dw_plan_17 : decode method_9_code 17 = .ok (.iconst 0, 1) := by decide +kernel
theorem dw_plan_18 : decode method_9_code 18 = .ok (.ireturn, 1) := by decide +kernel
theorem lw_plan : lw_tbl[469]? = some (.methodLink "CashRecyclerLaw" 34 (qmY 53)) := by decide +kernel
abbrev yw_plan : MethodName := ⟨"CashRecyclerLaw", "plan", "(LCashRecycler;II[J)I"⟩
def ws_plan : List Cond := .codeWith yw_plan method_9_code 5 (some .int) [(0, 10, 13, 13)] :: q_WS
def rw_plan : Room := { frames := qmF 53 + 1, cells := 1, slots := 6, locals := 8 + (qmL 53 + 11) + qmW 53 }
set_option maxHeartbeats 4000000 in
theorem w_plan_r {l : Launch} {D : va_G} {ad : Nat → Nat} {cI cZ cQ : ClassId} {aO : Nat} {cL : ClassId} {h h' : HP} {o : Int64} {a b : Int32} {v : Int32} (hq : Ec 53 [.inr 0, .inl a, .inl b] h (.inl (some v), h')) : q_MetL l D ad cI cZ cQ aO cL yw_plan ws_plan rw_plan [.ref (ad 0), .int a, .int b, .ref aO] h o 0 h' v.toInt64 := by
  refine va_MetW (cc := method_9_code) (maxL := 5) (ret := some .int) q_pl rfl ?_
  intro p e s m args below meth c s₁ B hml hv
  obtain ⟨rfl, hJ, hSt, hThr, hKL, hNc, hO⟩ := hv
  have hx := B.exec
  have hb := B.bytes
  have hr := B.returns
  have hts0 := atoms_spec (ws := ws_plan) B.pre
  have hts : ∀ w ∈ q_WS, w.before _ s = true := fun w hw => hts0 w (List.mem_cons_of_mem _ hw)
  have hown : s.vm.findClass "CashRecyclerLaw" = some m.cls := findClass_of_methodNamed B.named
  have hlk := B.notSynchronized
  have hl := lv_entry ([.ref (ad 0), .int a, .int b, .ref aO]) (n := 5) (Nat.le_of_ble_eq_true rfl)
  rw [lg_entry_eq]
  generalize (lg_sl ([.ref (ad 0), .int a, .int b, .ref aO]) ++ List.replicate (5 - (lg_sl ([.ref (ad 0), .int a, .int b, .ref aO])).length) Slot.unset).toArray = ls at hl ⊢
  have hl : lv_has ls 5 [(0, .ref (ad 0)), (1, .int a), (2, .int b), (3, .ref aO)] := hl
  have hP := q_J_W hJ
  have hS : va_S (q_AL ad aO) s.heap s.heap [] := va_S.rf
  refine lv_aload_n hx hb dw_plan_0 rfl (lv_at hl 3 rfl) ?_
  refine lv_iconst (v := 0) hx hb dw_plan_1 (by decide) ?_
  refine lv_aload_n hx hb dw_plan_2 rfl (lv_at hl 0 rfl) ?_
  refine lv_iload_n hx hb dw_plan_3 rfl (lv_at hl 1 rfl) ?_
  refine lv_iload_n hx hb dw_plan_4 rfl (lv_at hl 2 rfl) ?_
  refine q_ucall (j := 53) (ro := 0) (idx := 34) (as := [.inl a, .inl b]) (rest := [.int 0, .ref aO]) (A0 := q_AL ad aO) ⟨hx, hb, hml, hown, hts⟩ hSt.1 (by decide) (by decide) rfl hq rfl rfl (q_inAt lw_plan rfl) (Nat.le_refl _) (Nat.le_refl _) (Nat.zero_le _) (Nat.zero_le _) hP hS (fun q z => Or.inl z) (fun U hU hW => q_Sta_at hSt va_S.rf hU hW) hl.1 rfl (Nat.le_of_ble_eq_true rfl) dw_plan_5 (fun H1 locs1 hP1 hz hk hS1 => ?_)
  have hJ1 : va_P D qCl (q_J ad cI cZ cQ aO cL h' o) H1 := q_J_mk hP1 (by rw [hk aO (Array.getElem?_eq_some_iff.mp (q_J_O hJ)).1 hO]; exact q_J_O hJ)
  refine lv_i2l (v := v.toInt64) hx hb dw_plan_8 rfl ?_
  refine va_last (D := D) (cl := qCl) (H0 := s.heap) (A := q_AL ad aO) hx hb hKL hJ1 (q_J_D hSt.2.2.2.2 hO (fun _ z => z)) hS1 47 0 q_J_47 rfl q_in01 dw_plan_9 (fun H2 locs2 hP2 hD2 hS2 => ?_)
  have hJ2 : va_P D qCl (q_J ad cI cZ cQ aO cL h' v.toInt64) H2 := q_J_set (by rfl) hP2
  refine lv_goto hx hb dw_plan_10 rfl ?_
  refine lv_iconst (v := 0) hx hb dw_plan_17 (by decide) ?_
  refine W.widen (k := 1) (n := 6) (by omega) (by omega) ?_
  exact W.iret hx hb hr (fun t ht _ => ⟨⟨0, (), rfl, rfl, by show va_P _ _ _ t.heap; rw [ht]; exact hJ2⟩, hS2.F ht⟩) hS2.2.2 dw_plan_18
set_option maxHeartbeats 4000000 in
theorem w_plan_t0 {l : Launch} {D : va_G} {ad : Nat → Nat} {cI cZ cQ : ClassId} {aO : Nat} {cL : ClassId} {h h' : HP} {o : Int64} {a b : Int32} (hfl : ∀ e : Env, l.admits e → e.platform.stackTraces = false) (hq : Ec 53 [.inr 0, .inl a, .inl b] h (.inr 0, h')) : q_MetL l D ad cI cZ cQ aO cL yw_plan ws_plan rw_plan [.ref (ad 0), .int a, .int b, .ref aO] h o 1 h' o := by
  refine va_MetW (cc := method_9_code) (maxL := 5) (ret := some .int) q_pl rfl ?_
  intro p e s m args below meth c s₁ B hml hv
  obtain ⟨rfl, hJ, hSt, hThr, hKL, hNc, hO⟩ := hv
  have hx := B.exec
  have hb := B.bytes
  have hr := B.returns
  have hts0 := atoms_spec (ws := ws_plan) B.pre
  have hts : ∀ w ∈ q_WS, w.before _ s = true := fun w hw => hts0 w (List.mem_cons_of_mem _ hw)
  have hown : s.vm.findClass "CashRecyclerLaw" = some m.cls := findClass_of_methodNamed B.named
  have hlk := B.notSynchronized
  have hl := lv_entry ([.ref (ad 0), .int a, .int b, .ref aO]) (n := 5) (Nat.le_of_ble_eq_true rfl)
  rw [lg_entry_eq]
  generalize (lg_sl ([.ref (ad 0), .int a, .int b, .ref aO]) ++ List.replicate (5 - (lg_sl ([.ref (ad 0), .int a, .int b, .ref aO])).length) Slot.unset).toArray = ls at hl ⊢
  have hl : lv_has ls 5 [(0, .ref (ad 0)), (1, .int a), (2, .int b), (3, .ref aO)] := hl
  have hP := q_J_W hJ
  have hS : va_S (q_AL ad aO) s.heap s.heap [] := va_S.rf
  obtain ⟨m9, meth9, c9, g1, g2, g3, -, -, g4, -⟩ := Cond.codeWith_spec (hts0 _ List.mem_cons_self)
  cases B.named.symm.trans g1
  cases B.method.symm.trans g2
  cases (Stand.of_body B).code.symm.trans g3
  obtain ⟨e1, hes, f1⟩ := q_es1 g4
  simp only [Prod.mk.injEq] at f1
  refine lv_aload_n hx hb dw_plan_0 rfl (lv_at hl 3 rfl) ?_
  refine lv_iconst (v := 0) hx hb dw_plan_1 (by decide) ?_
  refine lv_aload_n hx hb dw_plan_2 rfl (lv_at hl 0 rfl) ?_
  refine lv_iload_n hx hb dw_plan_3 rfl (lv_at hl 1 rfl) ?_
  refine lv_iload_n hx hb dw_plan_4 rfl (lv_at hl 2 rfl) ?_
  refine q_utry hfl (j := 53) (ro := 0) (idx := 34) (x := 0) (hpc := 13) (as := [.inl a, .inl b]) (rest := [.int 0, .ref aO]) (A0 := q_AL ad aO) ⟨hx, hb, hml, hown, hts⟩ hSt.1 (by decide) (by decide) rfl hq rfl rfl (q_inAt lw_plan rfl) (Nat.le_refl _) (Nat.le_refl _) (Nat.le_refl _) (Nat.le_refl _) hP hS (fun q z => Or.inl z) (fun U hU hW => ⟨q_Sta_at hSt va_S.rf hU hW, q_Thr_at hThr hP va_S.rf hU hW⟩) hl.1 rfl (Nat.le_of_ble_eq_true rfl) dw_plan_5 hes ?_ (fun ex H1 locs1 hP1 hz hk hS1 => ?_)
  · intro U g ex ce z1 z2 z3 z4 z5 z6 hpl
    have key := q_fg_hit (e := e) (U := U) (f := g) (a := ex) (x := e1) (t := []) (own := "CashRecyclerLaw") (X := q_exN 0) (args := _) hpl z4 (by rw [z5]; exact hown) (by simp [covers, f1, z6]) (by rw [f1.2.2.2]; decide) (by rw [f1.2.2.2]; exact hts _ (q_inAt cl_13 rfl)) z1 z2 z3 (hThr.1.1 _ (by decide +kernel))
    rw [f1.2.2.1] at key
    exact key
  · have hJ1 : va_P D qCl (q_J ad cI cZ cQ aO cL h' o) H1 := q_J_mk hP1 (by rw [hk aO (Array.getElem?_eq_some_iff.mp (q_J_O hJ)).1 hO]; exact q_J_O hJ)
    refine lv_astore hx hb dw_plan_13 hl (by decide) rfl (fun ls9 hl9 => ?_)
    refine lv_iconst (v := 1) hx hb dw_plan_15 (by decide) ?_
    exact W.iret hx hb hr (fun t ht _ => ⟨⟨1, (), rfl, rfl, by show va_P _ _ _ t.heap; rw [ht]; exact hJ1⟩, hS1.F ht⟩) hS1.2.2 dw_plan_16
theorem dw_step_0 : decode method_10_code 0 = .ok (.aload_n 2, 1) := by decide +kernel
theorem dw_step_1 : decode method_10_code 1 = .ok (.iconst 0, 1) := by decide +kernel
theorem dw_step_2 : decode method_10_code 2 = .ok (.aload_n 0, 1) := by decide +kernel
theorem dw_step_3 : decode method_10_code 3 = .ok (.iload_n 1, 1) := by decide +kernel
theorem dw_step_4 : decode method_10_code 4 = .ok (.invokevirtual 38, 3) := by decide +kernel
theorem dw_step_7 : decode method_10_code 7 = .ok (.i2l, 1) := by decide +kernel
theorem dw_step_8 : decode method_10_code 8 = .ok (.lastore, 1) := by decide +kernel
theorem dw_step_9 : decode method_10_code 9 = .ok (.goto 6, 3) := by decide +kernel
theorem dw_step_12 : decode method_10_code 12 = .ok (.astore_n 3, 1) := by decide +kernel
theorem dw_step_13 : decode method_10_code 13 = .ok (.iconst 1, 1) := by decide +kernel
theorem dw_step_14 : decode method_10_code 14 = .ok (.ireturn, 1) := by decide +kernel
theorem dw_step_15 : decode method_10_code 15 = .ok (.iconst 0, 1) := by decide +kernel
theorem dw_step_16 : decode method_10_code 16 = .ok (.ireturn, 1) := by decide +kernel
theorem lw_step : lw_tbl[483]? = some (.methodLink "CashRecyclerLaw" 38 (qmY 68)) := by decide +kernel
abbrev yw_step : MethodName := ⟨"CashRecyclerLaw", "step", "(LCashRecycler;I[J)I"⟩
def ws_step : List Cond := .codeWith yw_step method_10_code 4 (some .int) [(0, 9, 12, 13)] :: q_WS
def rw_step : Room := { frames := qmF 68 + 1, cells := 1, slots := 6, locals := 8 + (qmL 68 + 11) + qmW 68 }
set_option maxHeartbeats 4000000 in
theorem w_step_r {l : Launch} {D : va_G} {ad : Nat → Nat} {cI cZ cQ : ClassId} {aO : Nat} {cL : ClassId} {h h' : HP} {o : Int64} {a : Int32} {v : Int32} (hq : Ec 68 [.inr 0, .inl a] h (.inl (some v), h')) : q_MetL l D ad cI cZ cQ aO cL yw_step ws_step rw_step [.ref (ad 0), .int a, .ref aO] h o 0 h' v.toInt64 := by
  refine va_MetW (cc := method_10_code) (maxL := 4) (ret := some .int) q_pl rfl ?_
  intro p e s m args below meth c s₁ B hml hv
  obtain ⟨rfl, hJ, hSt, hThr, hKL, hNc, hO⟩ := hv
  have hx := B.exec
  have hb := B.bytes
  have hr := B.returns
  have hts0 := atoms_spec (ws := ws_step) B.pre
  have hts : ∀ w ∈ q_WS, w.before _ s = true := fun w hw => hts0 w (List.mem_cons_of_mem _ hw)
  have hown : s.vm.findClass "CashRecyclerLaw" = some m.cls := findClass_of_methodNamed B.named
  have hlk := B.notSynchronized
  have hl := lv_entry ([.ref (ad 0), .int a, .ref aO]) (n := 4) (Nat.le_of_ble_eq_true rfl)
  rw [lg_entry_eq]
  generalize (lg_sl ([.ref (ad 0), .int a, .ref aO]) ++ List.replicate (4 - (lg_sl ([.ref (ad 0), .int a, .ref aO])).length) Slot.unset).toArray = ls at hl ⊢
  have hl : lv_has ls 4 [(0, .ref (ad 0)), (1, .int a), (2, .ref aO)] := hl
  have hP := q_J_W hJ
  have hS : va_S (q_AL ad aO) s.heap s.heap [] := va_S.rf
  refine lv_aload_n hx hb dw_step_0 rfl (lv_at hl 2 rfl) ?_
  refine lv_iconst (v := 0) hx hb dw_step_1 (by decide) ?_
  refine lv_aload_n hx hb dw_step_2 rfl (lv_at hl 0 rfl) ?_
  refine lv_iload_n hx hb dw_step_3 rfl (lv_at hl 1 rfl) ?_
  refine q_ucall (j := 68) (ro := 0) (idx := 38) (as := [.inl a]) (rest := [.int 0, .ref aO]) (A0 := q_AL ad aO) ⟨hx, hb, hml, hown, hts⟩ hSt.1 (by decide) (by decide) rfl hq rfl rfl (q_inAt lw_step rfl) (Nat.le_refl _) (Nat.le_refl _) (Nat.zero_le _) (Nat.zero_le _) hP hS (fun q z => Or.inl z) (fun U hU hW => q_Sta_at hSt va_S.rf hU hW) hl.1 rfl (Nat.le_of_ble_eq_true rfl) dw_step_4 (fun H1 locs1 hP1 hz hk hS1 => ?_)
  have hJ1 : va_P D qCl (q_J ad cI cZ cQ aO cL h' o) H1 := q_J_mk hP1 (by rw [hk aO (Array.getElem?_eq_some_iff.mp (q_J_O hJ)).1 hO]; exact q_J_O hJ)
  refine lv_i2l (v := v.toInt64) hx hb dw_step_7 rfl ?_
  refine va_last (D := D) (cl := qCl) (H0 := s.heap) (A := q_AL ad aO) hx hb hKL hJ1 (q_J_D hSt.2.2.2.2 hO (fun _ z => z)) hS1 47 0 q_J_47 rfl q_in01 dw_step_8 (fun H2 locs2 hP2 hD2 hS2 => ?_)
  have hJ2 : va_P D qCl (q_J ad cI cZ cQ aO cL h' v.toInt64) H2 := q_J_set (by rfl) hP2
  refine lv_goto hx hb dw_step_9 rfl ?_
  refine lv_iconst (v := 0) hx hb dw_step_15 (by decide) ?_
  refine W.widen (k := 1) (n := 6) (by omega) (by omega) ?_
  exact W.iret hx hb hr (fun t ht _ => ⟨⟨0, (), rfl, rfl, by show va_P _ _ _ t.heap; rw [ht]; exact hJ2⟩, hS2.F ht⟩) hS2.2.2 dw_step_16
set_option maxHeartbeats 4000000 in
theorem w_step_t0 {l : Launch} {D : va_G} {ad : Nat → Nat} {cI cZ cQ : ClassId} {aO : Nat} {cL : ClassId} {h h' : HP} {o : Int64} {a : Int32} (hfl : ∀ e : Env, l.admits e → e.platform.stackTraces = false) (hq : Ec 68 [.inr 0, .inl a] h (.inr 0, h')) : q_MetL l D ad cI cZ cQ aO cL yw_step ws_step rw_step [.ref (ad 0), .int a, .ref aO] h o 1 h' o := by
  refine va_MetW (cc := method_10_code) (maxL := 4) (ret := some .int) q_pl rfl ?_
  intro p e s m args below meth c s₁ B hml hv
  obtain ⟨rfl, hJ, hSt, hThr, hKL, hNc, hO⟩ := hv
  have hx := B.exec
  have hb := B.bytes
  have hr := B.returns
  have hts0 := atoms_spec (ws := ws_step) B.pre
  have hts : ∀ w ∈ q_WS, w.before _ s = true := fun w hw => hts0 w (List.mem_cons_of_mem _ hw)
  have hown : s.vm.findClass "CashRecyclerLaw" = some m.cls := findClass_of_methodNamed B.named
  have hlk := B.notSynchronized
  have hl := lv_entry ([.ref (ad 0), .int a, .ref aO]) (n := 4) (Nat.le_of_ble_eq_true rfl)
  rw [lg_entry_eq]
  generalize (lg_sl ([.ref (ad 0), .int a, .ref aO]) ++ List.replicate (4 - (lg_sl ([.ref (ad 0), .int a, .ref aO])).length) Slot.unset).toArray = ls at hl ⊢
  have hl : lv_has ls 4 [(0, .ref (ad 0)), (1, .int a), (2, .ref aO)] := hl
  have hP := q_J_W hJ
  have hS : va_S (q_AL ad aO) s.heap s.heap [] := va_S.rf
  obtain ⟨m9, meth9, c9, g1, g2, g3, -, -, g4, -⟩ := Cond.codeWith_spec (hts0 _ List.mem_cons_self)
  cases B.named.symm.trans g1
  cases B.method.symm.trans g2
  cases (Stand.of_body B).code.symm.trans g3
  obtain ⟨e1, hes, f1⟩ := q_es1 g4
  simp only [Prod.mk.injEq] at f1
  refine lv_aload_n hx hb dw_step_0 rfl (lv_at hl 2 rfl) ?_
  refine lv_iconst (v := 0) hx hb dw_step_1 (by decide) ?_
  refine lv_aload_n hx hb dw_step_2 rfl (lv_at hl 0 rfl) ?_
  refine lv_iload_n hx hb dw_step_3 rfl (lv_at hl 1 rfl) ?_
  refine q_utry hfl (j := 68) (ro := 0) (idx := 38) (x := 0) (hpc := 12) (as := [.inl a]) (rest := [.int 0, .ref aO]) (A0 := q_AL ad aO) ⟨hx, hb, hml, hown, hts⟩ hSt.1 (by decide) (by decide) rfl hq rfl rfl (q_inAt lw_step rfl) (Nat.le_refl _) (Nat.le_refl _) (Nat.le_refl _) (Nat.le_refl _) hP hS (fun q z => Or.inl z) (fun U hU hW => ⟨q_Sta_at hSt va_S.rf hU hW, q_Thr_at hThr hP va_S.rf hU hW⟩) hl.1 rfl (Nat.le_of_ble_eq_true rfl) dw_step_4 hes ?_ (fun ex H1 locs1 hP1 hz hk hS1 => ?_)
  · intro U g ex ce z1 z2 z3 z4 z5 z6 hpl
    have key := q_fg_hit (e := e) (U := U) (f := g) (a := ex) (x := e1) (t := []) (own := "CashRecyclerLaw") (X := q_exN 0) (args := _) hpl z4 (by rw [z5]; exact hown) (by simp [covers, f1, z6]) (by rw [f1.2.2.2]; decide) (by rw [f1.2.2.2]; exact hts _ (q_inAt cl_13 rfl)) z1 z2 z3 (hThr.1.1 _ (by decide +kernel))
    rw [f1.2.2.1] at key
    exact key
  · have hJ1 : va_P D qCl (q_J ad cI cZ cQ aO cL h' o) H1 := q_J_mk hP1 (by rw [hk aO (Array.getElem?_eq_some_iff.mp (q_J_O hJ)).1 hO]; exact q_J_O hJ)
    refine lv_astore_n hx hb dw_step_12 rfl hl (by decide) rfl (fun ls9 hl9 => ?_)
    refine lv_iconst (v := 1) hx hb dw_step_13 (by decide) ?_
    exact W.iret hx hb hr (fun t ht _ => ⟨⟨1, (), rfl, rfl, by show va_P _ _ _ t.heap; rw [ht]; exact hJ1⟩, hS1.F ht⟩) hS1.2.2 dw_step_14
theorem dw_stick_0 : decode method_11_code 0 = .ok (.aload_n 0, 1) := by decide +kernel
theorem dw_stick_1 : decode method_11_code 1 = .ok (.iload_n 1, 1) := by decide +kernel
theorem dw_stick_2 : decode method_11_code 2 = .ok (.invokevirtual 41, 3) := by decide +kernel
theorem dw_stick_5 : decode method_11_code 5 = .ok (.goto 9, 3) := by decide +kernel
theorem dw_stick_8 : decode method_11_code 8 = .ok (.astore_n 2, 1) := by decide +kernel
theorem dw_stick_9 : decode method_11_code 9 = .ok (.iconst 1, 1) := by decide +kernel
theorem dw_stick_10 : decode method_11_code 10 = .ok (.ireturn, 1) := by decide +kernel
theorem dw_stick_11 : decode method_11_code 11 = .ok (.astore_n 2, 1) := by decide +kernel
theorem dw_stick_12 : decode method_11_code 12 = .ok (.iconst 2, 1) := by decide +kernel
theorem dw_stick_13 : decode method_11_code 13 = .ok (.ireturn, 1) := by decide +kernel
theorem dw_stick_14 : decode method_11_code 14 = .ok (.iconst 0, 1) := by decide +kernel
theorem dw_stick_15 : decode method_11_code 15 = .ok (.ireturn, 1) := by decide +kernel
theorem lw_stick : lw_tbl[625]? = some (.methodLink "CashRecyclerLaw" 41 (qmY 71)) := by decide +kernel
abbrev yw_stick : MethodName := ⟨"CashRecyclerLaw", "stick", "(LCashRecycler;I)I"⟩
def ws_stick : List Cond := .codeWith yw_stick method_11_code 3 (some .int) [(0, 5, 8, 13), (0, 5, 11, 45)] :: q_WS
def rw_stick : Room := { frames := qmF 71 + 1, cells := 1, slots := 6, locals := 8 + (qmL 71 + 11) + qmW 71 }
set_option maxHeartbeats 4000000 in
theorem w_stick_r {l : Launch} {D : va_G} {ad : Nat → Nat} {cI cZ cQ : ClassId} {aO : Nat} {cL : ClassId} {h h' : HP} {o : Int64} {a : Int32} (hq : Ec 71 [.inr 0, .inl a] h (.inl none, h')) : q_MetL l D ad cI cZ cQ aO cL yw_stick ws_stick rw_stick [.ref (ad 0), .int a] h o 0 h' o := by
  refine va_MetW (cc := method_11_code) (maxL := 3) (ret := some .int) q_pl rfl ?_
  intro p e s m args below meth c s₁ B hml hv
  obtain ⟨rfl, hJ, hSt, hThr, hKL, hNc, hO⟩ := hv
  have hx := B.exec
  have hb := B.bytes
  have hr := B.returns
  have hts0 := atoms_spec (ws := ws_stick) B.pre
  have hts : ∀ w ∈ q_WS, w.before _ s = true := fun w hw => hts0 w (List.mem_cons_of_mem _ hw)
  have hown : s.vm.findClass "CashRecyclerLaw" = some m.cls := findClass_of_methodNamed B.named
  have hlk := B.notSynchronized
  have hl := lv_entry ([.ref (ad 0), .int a]) (n := 3) (Nat.le_of_ble_eq_true rfl)
  rw [lg_entry_eq]
  generalize (lg_sl ([.ref (ad 0), .int a]) ++ List.replicate (3 - (lg_sl ([.ref (ad 0), .int a])).length) Slot.unset).toArray = ls at hl ⊢
  have hl : lv_has ls 3 [(0, .ref (ad 0)), (1, .int a)] := hl
  have hP := q_J_W hJ
  have hS : va_S (q_AL ad aO) s.heap s.heap [] := va_S.rf
  refine lv_aload_n hx hb dw_stick_0 rfl (lv_at hl 0 rfl) ?_
  refine lv_iload_n hx hb dw_stick_1 rfl (lv_at hl 1 rfl) ?_
  refine q_ucall (j := 71) (ro := 0) (idx := 41) (as := [.inl a]) (rest := []) (A0 := q_AL ad aO) ⟨hx, hb, hml, hown, hts⟩ hSt.1 (by decide) (by decide) rfl hq rfl rfl (q_inAt lw_stick rfl) (Nat.le_refl _) (Nat.le_refl _) (Nat.zero_le _) (Nat.zero_le _) hP hS (fun q z => Or.inl z) (fun U hU hW => q_Sta_at hSt va_S.rf hU hW) hl.1 rfl (Nat.le_of_ble_eq_true rfl) dw_stick_2 (fun H1 locs1 hP1 hz hk hS1 => ?_)
  have hJ1 : va_P D qCl (q_J ad cI cZ cQ aO cL h' o) H1 := q_J_mk hP1 (by rw [hk aO (Array.getElem?_eq_some_iff.mp (q_J_O hJ)).1 hO]; exact q_J_O hJ)
  refine lv_goto hx hb dw_stick_5 rfl ?_
  refine lv_iconst (v := 0) hx hb dw_stick_14 (by decide) ?_
  refine W.widen (k := 1) (n := 6) (by omega) (by omega) ?_
  exact W.iret hx hb hr (fun t ht _ => ⟨⟨0, (), rfl, rfl, by show va_P _ _ _ t.heap; rw [ht]; exact hJ1⟩, hS1.F ht⟩) hS1.2.2 dw_stick_15
set_option maxHeartbeats 4000000 in
theorem w_stick_t0 {l : Launch} {D : va_G} {ad : Nat → Nat} {cI cZ cQ : ClassId} {aO : Nat} {cL : ClassId} {h h' : HP} {o : Int64} {a : Int32} (hfl : ∀ e : Env, l.admits e → e.platform.stackTraces = false) (hq : Ec 71 [.inr 0, .inl a] h (.inr 0, h')) : q_MetL l D ad cI cZ cQ aO cL yw_stick ws_stick rw_stick [.ref (ad 0), .int a] h o 1 h' o := by
  refine va_MetW (cc := method_11_code) (maxL := 3) (ret := some .int) q_pl rfl ?_
  intro p e s m args below meth c s₁ B hml hv
  obtain ⟨rfl, hJ, hSt, hThr, hKL, hNc, hO⟩ := hv
  have hx := B.exec
  have hb := B.bytes
  have hr := B.returns
  have hts0 := atoms_spec (ws := ws_stick) B.pre
  have hts : ∀ w ∈ q_WS, w.before _ s = true := fun w hw => hts0 w (List.mem_cons_of_mem _ hw)
  have hown : s.vm.findClass "CashRecyclerLaw" = some m.cls := findClass_of_methodNamed B.named
  have hlk := B.notSynchronized
  have hl := lv_entry ([.ref (ad 0), .int a]) (n := 3) (Nat.le_of_ble_eq_true rfl)
  rw [lg_entry_eq]
  generalize (lg_sl ([.ref (ad 0), .int a]) ++ List.replicate (3 - (lg_sl ([.ref (ad 0), .int a])).length) Slot.unset).toArray = ls at hl ⊢
  have hl : lv_has ls 3 [(0, .ref (ad 0)), (1, .int a)] := hl
  have hP := q_J_W hJ
  have hS : va_S (q_AL ad aO) s.heap s.heap [] := va_S.rf
  obtain ⟨m9, meth9, c9, g1, g2, g3, -, -, g4, -⟩ := Cond.codeWith_spec (hts0 _ List.mem_cons_self)
  cases B.named.symm.trans g1
  cases B.method.symm.trans g2
  cases (Stand.of_body B).code.symm.trans g3
  obtain ⟨e1, e2, hes, f1, f2⟩ := q_es2 g4
  simp only [Prod.mk.injEq] at f1
  simp only [Prod.mk.injEq] at f2
  refine lv_aload_n hx hb dw_stick_0 rfl (lv_at hl 0 rfl) ?_
  refine lv_iload_n hx hb dw_stick_1 rfl (lv_at hl 1 rfl) ?_
  refine q_utry hfl (j := 71) (ro := 0) (idx := 41) (x := 0) (hpc := 8) (as := [.inl a]) (rest := []) (A0 := q_AL ad aO) ⟨hx, hb, hml, hown, hts⟩ hSt.1 (by decide) (by decide) rfl hq rfl rfl (q_inAt lw_stick rfl) (Nat.le_refl _) (Nat.le_refl _) (Nat.le_refl _) (Nat.le_refl _) hP hS (fun q z => Or.inl z) (fun U hU hW => ⟨q_Sta_at hSt va_S.rf hU hW, q_Thr_at hThr hP va_S.rf hU hW⟩) hl.1 rfl (Nat.le_of_ble_eq_true rfl) dw_stick_2 hes ?_ (fun ex H1 locs1 hP1 hz hk hS1 => ?_)
  · intro U g ex ce z1 z2 z3 z4 z5 z6 hpl
    have key := q_fg_hit (e := e) (U := U) (f := g) (a := ex) (x := e1) (t := [e2]) (own := "CashRecyclerLaw") (X := q_exN 0) (args := _) hpl z4 (by rw [z5]; exact hown) (by simp [covers, f1, z6]) (by rw [f1.2.2.2]; decide) (by rw [f1.2.2.2]; exact hts _ (q_inAt cl_13 rfl)) z1 z2 z3 (hThr.1.1 _ (by decide +kernel))
    rw [f1.2.2.1] at key
    exact key
  · have hJ1 : va_P D qCl (q_J ad cI cZ cQ aO cL h' o) H1 := q_J_mk hP1 (by rw [hk aO (Array.getElem?_eq_some_iff.mp (q_J_O hJ)).1 hO]; exact q_J_O hJ)
    refine lv_astore_n hx hb dw_stick_8 rfl hl (by decide) rfl (fun ls9 hl9 => ?_)
    refine lv_iconst (v := 1) hx hb dw_stick_9 (by decide) ?_
    exact W.iret hx hb hr (fun t ht _ => ⟨⟨1, (), rfl, rfl, by show va_P _ _ _ t.heap; rw [ht]; exact hJ1⟩, hS1.F ht⟩) hS1.2.2 dw_stick_10
set_option maxHeartbeats 4000000 in
theorem w_stick_t3 {l : Launch} {D : va_G} {ad : Nat → Nat} {cI cZ cQ : ClassId} {aO : Nat} {cL : ClassId} {h h' : HP} {o : Int64} {a : Int32} (hfl : ∀ e : Env, l.admits e → e.platform.stackTraces = false) (hq : Ec 71 [.inr 0, .inl a] h (.inr 3, h')) : q_MetL l D ad cI cZ cQ aO cL yw_stick ws_stick rw_stick [.ref (ad 0), .int a] h o 2 h' o := by
  refine va_MetW (cc := method_11_code) (maxL := 3) (ret := some .int) q_pl rfl ?_
  intro p e s m args below meth c s₁ B hml hv
  obtain ⟨rfl, hJ, hSt, hThr, hKL, hNc, hO⟩ := hv
  have hx := B.exec
  have hb := B.bytes
  have hr := B.returns
  have hts0 := atoms_spec (ws := ws_stick) B.pre
  have hts : ∀ w ∈ q_WS, w.before _ s = true := fun w hw => hts0 w (List.mem_cons_of_mem _ hw)
  have hown : s.vm.findClass "CashRecyclerLaw" = some m.cls := findClass_of_methodNamed B.named
  have hlk := B.notSynchronized
  have hl := lv_entry ([.ref (ad 0), .int a]) (n := 3) (Nat.le_of_ble_eq_true rfl)
  rw [lg_entry_eq]
  generalize (lg_sl ([.ref (ad 0), .int a]) ++ List.replicate (3 - (lg_sl ([.ref (ad 0), .int a])).length) Slot.unset).toArray = ls at hl ⊢
  have hl : lv_has ls 3 [(0, .ref (ad 0)), (1, .int a)] := hl
  have hP := q_J_W hJ
  have hS : va_S (q_AL ad aO) s.heap s.heap [] := va_S.rf
  obtain ⟨m9, meth9, c9, g1, g2, g3, -, -, g4, -⟩ := Cond.codeWith_spec (hts0 _ List.mem_cons_self)
  cases B.named.symm.trans g1
  cases B.method.symm.trans g2
  cases (Stand.of_body B).code.symm.trans g3
  obtain ⟨e1, e2, hes, f1, f2⟩ := q_es2 g4
  simp only [Prod.mk.injEq] at f1
  simp only [Prod.mk.injEq] at f2
  refine lv_aload_n hx hb dw_stick_0 rfl (lv_at hl 0 rfl) ?_
  refine lv_iload_n hx hb dw_stick_1 rfl (lv_at hl 1 rfl) ?_
  refine q_utry hfl (j := 71) (ro := 0) (idx := 41) (x := 3) (hpc := 11) (as := [.inl a]) (rest := []) (A0 := q_AL ad aO) ⟨hx, hb, hml, hown, hts⟩ hSt.1 (by decide) (by decide) rfl hq rfl rfl (q_inAt lw_stick rfl) (Nat.le_refl _) (Nat.le_refl _) (Nat.le_refl _) (Nat.le_refl _) hP hS (fun q z => Or.inl z) (fun U hU hW => ⟨q_Sta_at hSt va_S.rf hU hW, q_Thr_at hThr hP va_S.rf hU hW⟩) hl.1 rfl (Nat.le_of_ble_eq_true rfl) dw_stick_2 hes ?_ (fun ex H1 locs1 hP1 hz hk hS1 => ?_)
  · intro U g ex ce z1 z2 z3 z4 z5 z6 hpl
    refine q_fg_pass (x := e1) (own := "CashRecyclerLaw") (X := q_exN 3) (Y := "java/lang/IllegalArgumentException") hpl z4 (by rw [z5]; exact hown) (by simp [covers, f1, z6]) (by rw [f1.2.2.2]; decide) (by rw [f1.2.2.2]; exact hts _ (q_inAt cl_13 rfl)) (by first | exact z1 | exact z1) z2 z3 (hNc _ (by decide +kernel) _ (by decide +kernel) (by decide +kernel)) (fun vm1 z4 => ?_)
    have key := q_fg_hit (e := e) (U := (U.setVm vm1)) (f := g) (a := ex) (x := e2) (t := []) (own := "CashRecyclerLaw") (X := q_exN 3) (args := _) hpl z4 (by rw [z5]; exact hown) (by simp [covers, f2, z6]) (by rw [f2.2.2.2]; decide) (by rw [f2.2.2.2]; exact hts _ (q_inAt cl_45 rfl)) z1 z2 z3 (hThr.1.1 _ (by decide +kernel))
    rw [f2.2.2.1] at key
    exact key
  · have hJ1 : va_P D qCl (q_J ad cI cZ cQ aO cL h' o) H1 := q_J_mk hP1 (by rw [hk aO (Array.getElem?_eq_some_iff.mp (q_J_O hJ)).1 hO]; exact q_J_O hJ)
    refine lv_astore_n hx hb dw_stick_11 rfl hl (by decide) rfl (fun ls9 hl9 => ?_)
    refine lv_iconst (v := 2) hx hb dw_stick_12 (by decide) ?_
    exact W.iret hx hb hr (fun t ht _ => ⟨⟨2, (), rfl, rfl, by show va_P _ _ _ t.heap; rw [ht]; exact hJ1⟩, hS1.F ht⟩) hS1.2.2 dw_stick_13
theorem dw_open_0 : decode method_12_code 0 = .ok (.aload_n 0, 1) := by decide +kernel
theorem dw_open_1 : decode method_12_code 1 = .ok (.invokevirtual 47, 3) := by decide +kernel
theorem dw_open_4 : decode method_12_code 4 = .ok (.goto 6, 3) := by decide +kernel
theorem dw_open_7 : decode method_12_code 7 = .ok (.astore_n 1, 1) := by decide +kernel
theorem dw_open_8 : decode method_12_code 8 = .ok (.iconst 1, 1) := by decide +kernel
theorem dw_open_9 : decode method_12_code 9 = .ok (.ireturn, 1) := by decide +kernel
theorem dw_open_10 : decode method_12_code 10 = .ok (.iconst 0, 1) := by decide +kernel
theorem dw_open_11 : decode method_12_code 11 = .ok (.ireturn, 1) := by decide +kernel
theorem lw_open : lw_tbl[654]? = some (.methodLink "CashRecyclerLaw" 47 (qmY 72)) := by decide +kernel
abbrev yw_open : MethodName := ⟨"CashRecyclerLaw", "open", "(LCashRecycler;)I"⟩
def ws_open : List Cond := .codeWith yw_open method_12_code 2 (some .int) [(0, 4, 7, 15)] :: q_WS
def rw_open : Room := { frames := qmF 72 + 1, cells := 1, slots := 6, locals := 8 + (qmL 72 + 11) + qmW 72 }
set_option maxHeartbeats 4000000 in
theorem w_open_r {l : Launch} {D : va_G} {ad : Nat → Nat} {cI cZ cQ : ClassId} {aO : Nat} {cL : ClassId} {h h' : HP} {o : Int64} (hq : Ec 72 [.inr 0] h (.inl none, h')) : q_MetL l D ad cI cZ cQ aO cL yw_open ws_open rw_open [.ref (ad 0)] h o 0 h' o := by
  refine va_MetW (cc := method_12_code) (maxL := 2) (ret := some .int) q_pl rfl ?_
  intro p e s m args below meth c s₁ B hml hv
  obtain ⟨rfl, hJ, hSt, hThr, hKL, hNc, hO⟩ := hv
  have hx := B.exec
  have hb := B.bytes
  have hr := B.returns
  have hts0 := atoms_spec (ws := ws_open) B.pre
  have hts : ∀ w ∈ q_WS, w.before _ s = true := fun w hw => hts0 w (List.mem_cons_of_mem _ hw)
  have hown : s.vm.findClass "CashRecyclerLaw" = some m.cls := findClass_of_methodNamed B.named
  have hlk := B.notSynchronized
  have hl := lv_entry ([.ref (ad 0)]) (n := 2) (Nat.le_of_ble_eq_true rfl)
  rw [lg_entry_eq]
  generalize (lg_sl ([.ref (ad 0)]) ++ List.replicate (2 - (lg_sl ([.ref (ad 0)])).length) Slot.unset).toArray = ls at hl ⊢
  have hl : lv_has ls 2 [(0, .ref (ad 0))] := hl
  have hP := q_J_W hJ
  have hS : va_S (q_AL ad aO) s.heap s.heap [] := va_S.rf
  refine lv_aload_n hx hb dw_open_0 rfl (lv_at hl 0 rfl) ?_
  refine q_ucall (j := 72) (ro := 0) (idx := 47) (as := []) (rest := []) (A0 := q_AL ad aO) ⟨hx, hb, hml, hown, hts⟩ hSt.1 (by decide) (by decide) rfl hq rfl rfl (q_inAt lw_open rfl) (Nat.le_refl _) (Nat.le_refl _) (Nat.zero_le _) (Nat.zero_le _) hP hS (fun q z => Or.inl z) (fun U hU hW => q_Sta_at hSt va_S.rf hU hW) hl.1 rfl (Nat.le_of_ble_eq_true rfl) dw_open_1 (fun H1 locs1 hP1 hz hk hS1 => ?_)
  have hJ1 : va_P D qCl (q_J ad cI cZ cQ aO cL h' o) H1 := q_J_mk hP1 (by rw [hk aO (Array.getElem?_eq_some_iff.mp (q_J_O hJ)).1 hO]; exact q_J_O hJ)
  refine lv_goto hx hb dw_open_4 rfl ?_
  refine lv_iconst (v := 0) hx hb dw_open_10 (by decide) ?_
  refine W.widen (k := 1) (n := 6) (by omega) (by omega) ?_
  exact W.iret hx hb hr (fun t ht _ => ⟨⟨0, (), rfl, rfl, by show va_P _ _ _ t.heap; rw [ht]; exact hJ1⟩, hS1.F ht⟩) hS1.2.2 dw_open_11
set_option maxHeartbeats 4000000 in
theorem w_open_t1 {l : Launch} {D : va_G} {ad : Nat → Nat} {cI cZ cQ : ClassId} {aO : Nat} {cL : ClassId} {h h' : HP} {o : Int64} (hfl : ∀ e : Env, l.admits e → e.platform.stackTraces = false) (hq : Ec 72 [.inr 0] h (.inr 1, h')) : q_MetL l D ad cI cZ cQ aO cL yw_open ws_open rw_open [.ref (ad 0)] h o 1 h' o := by
  refine va_MetW (cc := method_12_code) (maxL := 2) (ret := some .int) q_pl rfl ?_
  intro p e s m args below meth c s₁ B hml hv
  obtain ⟨rfl, hJ, hSt, hThr, hKL, hNc, hO⟩ := hv
  have hx := B.exec
  have hb := B.bytes
  have hr := B.returns
  have hts0 := atoms_spec (ws := ws_open) B.pre
  have hts : ∀ w ∈ q_WS, w.before _ s = true := fun w hw => hts0 w (List.mem_cons_of_mem _ hw)
  have hown : s.vm.findClass "CashRecyclerLaw" = some m.cls := findClass_of_methodNamed B.named
  have hlk := B.notSynchronized
  have hl := lv_entry ([.ref (ad 0)]) (n := 2) (Nat.le_of_ble_eq_true rfl)
  rw [lg_entry_eq]
  generalize (lg_sl ([.ref (ad 0)]) ++ List.replicate (2 - (lg_sl ([.ref (ad 0)])).length) Slot.unset).toArray = ls at hl ⊢
  have hl : lv_has ls 2 [(0, .ref (ad 0))] := hl
  have hP := q_J_W hJ
  have hS : va_S (q_AL ad aO) s.heap s.heap [] := va_S.rf
  obtain ⟨m9, meth9, c9, g1, g2, g3, -, -, g4, -⟩ := Cond.codeWith_spec (hts0 _ List.mem_cons_self)
  cases B.named.symm.trans g1
  cases B.method.symm.trans g2
  cases (Stand.of_body B).code.symm.trans g3
  obtain ⟨e1, hes, f1⟩ := q_es1 g4
  simp only [Prod.mk.injEq] at f1
  refine lv_aload_n hx hb dw_open_0 rfl (lv_at hl 0 rfl) ?_
  refine q_utry hfl (j := 72) (ro := 0) (idx := 47) (x := 1) (hpc := 7) (as := []) (rest := []) (A0 := q_AL ad aO) ⟨hx, hb, hml, hown, hts⟩ hSt.1 (by decide) (by decide) rfl hq rfl rfl (q_inAt lw_open rfl) (Nat.le_refl _) (Nat.le_refl _) (Nat.le_refl _) (Nat.le_refl _) hP hS (fun q z => Or.inl z) (fun U hU hW => ⟨q_Sta_at hSt va_S.rf hU hW, q_Thr_at hThr hP va_S.rf hU hW⟩) hl.1 rfl (Nat.le_of_ble_eq_true rfl) dw_open_1 hes ?_ (fun ex H1 locs1 hP1 hz hk hS1 => ?_)
  · intro U g ex ce z1 z2 z3 z4 z5 z6 hpl
    have key := q_fg_hit (e := e) (U := U) (f := g) (a := ex) (x := e1) (t := []) (own := "CashRecyclerLaw") (X := q_exN 1) (args := _) hpl z4 (by rw [z5]; exact hown) (by simp [covers, f1, z6]) (by rw [f1.2.2.2]; decide) (by rw [f1.2.2.2]; exact hts _ (q_inAt cl_15 rfl)) z1 z2 z3 (hThr.1.1 _ (by decide +kernel))
    rw [f1.2.2.1] at key
    exact key
  · have hJ1 : va_P D qCl (q_J ad cI cZ cQ aO cL h' o) H1 := q_J_mk hP1 (by rw [hk aO (Array.getElem?_eq_some_iff.mp (q_J_O hJ)).1 hO]; exact q_J_O hJ)
    refine lv_astore_n hx hb dw_open_7 rfl hl (by decide) rfl (fun ls9 hl9 => ?_)
    refine lv_iconst (v := 1) hx hb dw_open_8 (by decide) ?_
    exact W.iret hx hb hr (fun t ht _ => ⟨⟨1, (), rfl, rfl, by show va_P _ _ _ t.heap; rw [ht]; exact hJ1⟩, hS1.F ht⟩) hS1.2.2 dw_open_9
theorem dw_remove_0 : decode method_13_code 0 = .ok (.aload_n 2, 1) := by decide +kernel
theorem dw_remove_1 : decode method_13_code 1 = .ok (.iconst 0, 1) := by decide +kernel
theorem dw_remove_2 : decode method_13_code 2 = .ok (.aload_n 0, 1) := by decide +kernel
theorem dw_remove_3 : decode method_13_code 3 = .ok (.iload_n 1, 1) := by decide +kernel
theorem dw_remove_4 : decode method_13_code 4 = .ok (.invokevirtual 50, 3) := by decide +kernel
theorem dw_remove_7 : decode method_13_code 7 = .ok (.i2l, 1) := by decide +kernel
theorem dw_remove_8 : decode method_13_code 8 = .ok (.lastore, 1) := by decide +kernel
theorem dw_remove_9 : decode method_13_code 9 = .ok (.goto 12, 3) := by decide +kernel
theorem dw_remove_12 : decode method_13_code 12 = .ok (.astore_n 3, 1) := by decide +kernel
theorem dw_remove_13 : decode method_13_code 13 = .ok (.iconst 1, 1) := by decide +kernel
theorem dw_remove_14 : decode method_13_code 14 = .ok (.ireturn, 1) := by decide +kernel
theorem dw_remove_15 : decode method_13_code 15 = .ok (.astore_n 3, 1) := by decide +kernel
theorem dw_remove_16 : decode method_13_code 16 = .ok (.iconst 2, 1) := by decide +kernel
theorem dw_remove_17 : decode method_13_code 17 = .ok (.ireturn, 1) := by decide +kernel
theorem dw_remove_18 : decode method_13_code 18 = .ok (.astore_n 3, 1) := by decide +kernel
theorem dw_remove_19 : decode method_13_code 19 = .ok (.iconst 3, 1) := by decide +kernel
theorem dw_remove_20 : decode method_13_code 20 = .ok (.ireturn, 1) := by decide +kernel
theorem dw_remove_21 : decode method_13_code 21 = .ok (.iconst 0, 1) := by decide +kernel
theorem dw_remove_22 : decode method_13_code 22 = .ok (.ireturn, 1) := by decide +kernel
theorem lw_remove : lw_tbl[661]? = some (.methodLink "CashRecyclerLaw" 50 (qmY 73)) := by decide +kernel
abbrev yw_remove : MethodName := ⟨"CashRecyclerLaw", "remove", "(LCashRecycler;I[J)I"⟩
def ws_remove : List Cond := .codeWith yw_remove method_13_code 4 (some .int) [(0, 9, 12, 15), (0, 9, 15, 13), (0, 9, 18, 45)] :: q_WS
def rw_remove : Room := { frames := qmF 73 + 1, cells := 1, slots := 6, locals := 8 + (qmL 73 + 11) + qmW 73 }
set_option maxHeartbeats 4000000 in
theorem w_remove_r {l : Launch} {D : va_G} {ad : Nat → Nat} {cI cZ cQ : ClassId} {aO : Nat} {cL : ClassId} {h h' : HP} {o : Int64} {a : Int32} {v : Int32} (hq : Ec 73 [.inr 0, .inl a] h (.inl (some v), h')) : q_MetL l D ad cI cZ cQ aO cL yw_remove ws_remove rw_remove [.ref (ad 0), .int a, .ref aO] h o 0 h' v.toInt64 := by
  refine va_MetW (cc := method_13_code) (maxL := 4) (ret := some .int) q_pl rfl ?_
  intro p e s m args below meth c s₁ B hml hv
  obtain ⟨rfl, hJ, hSt, hThr, hKL, hNc, hO⟩ := hv
  have hx := B.exec
  have hb := B.bytes
  have hr := B.returns
  have hts0 := atoms_spec (ws := ws_remove) B.pre
  have hts : ∀ w ∈ q_WS, w.before _ s = true := fun w hw => hts0 w (List.mem_cons_of_mem _ hw)
  have hown : s.vm.findClass "CashRecyclerLaw" = some m.cls := findClass_of_methodNamed B.named
  have hlk := B.notSynchronized
  have hl := lv_entry ([.ref (ad 0), .int a, .ref aO]) (n := 4) (Nat.le_of_ble_eq_true rfl)
  rw [lg_entry_eq]
  generalize (lg_sl ([.ref (ad 0), .int a, .ref aO]) ++ List.replicate (4 - (lg_sl ([.ref (ad 0), .int a, .ref aO])).length) Slot.unset).toArray = ls at hl ⊢
  have hl : lv_has ls 4 [(0, .ref (ad 0)), (1, .int a), (2, .ref aO)] := hl
  have hP := q_J_W hJ
  have hS : va_S (q_AL ad aO) s.heap s.heap [] := va_S.rf
  refine lv_aload_n hx hb dw_remove_0 rfl (lv_at hl 2 rfl) ?_
  refine lv_iconst (v := 0) hx hb dw_remove_1 (by decide) ?_
  refine lv_aload_n hx hb dw_remove_2 rfl (lv_at hl 0 rfl) ?_
  refine lv_iload_n hx hb dw_remove_3 rfl (lv_at hl 1 rfl) ?_
  refine q_ucall (j := 73) (ro := 0) (idx := 50) (as := [.inl a]) (rest := [.int 0, .ref aO]) (A0 := q_AL ad aO) ⟨hx, hb, hml, hown, hts⟩ hSt.1 (by decide) (by decide) rfl hq rfl rfl (q_inAt lw_remove rfl) (Nat.le_refl _) (Nat.le_refl _) (Nat.zero_le _) (Nat.zero_le _) hP hS (fun q z => Or.inl z) (fun U hU hW => q_Sta_at hSt va_S.rf hU hW) hl.1 rfl (Nat.le_of_ble_eq_true rfl) dw_remove_4 (fun H1 locs1 hP1 hz hk hS1 => ?_)
  have hJ1 : va_P D qCl (q_J ad cI cZ cQ aO cL h' o) H1 := q_J_mk hP1 (by rw [hk aO (Array.getElem?_eq_some_iff.mp (q_J_O hJ)).1 hO]; exact q_J_O hJ)
  refine lv_i2l (v := v.toInt64) hx hb dw_remove_7 rfl ?_
  refine va_last (D := D) (cl := qCl) (H0 := s.heap) (A := q_AL ad aO) hx hb hKL hJ1 (q_J_D hSt.2.2.2.2 hO (fun _ z => z)) hS1 47 0 q_J_47 rfl q_in01 dw_remove_8 (fun H2 locs2 hP2 hD2 hS2 => ?_)
  have hJ2 : va_P D qCl (q_J ad cI cZ cQ aO cL h' v.toInt64) H2 := q_J_set (by rfl) hP2
  refine lv_goto hx hb dw_remove_9 rfl ?_
  refine lv_iconst (v := 0) hx hb dw_remove_21 (by decide) ?_
  refine W.widen (k := 1) (n := 6) (by omega) (by omega) ?_
  exact W.iret hx hb hr (fun t ht _ => ⟨⟨0, (), rfl, rfl, by show va_P _ _ _ t.heap; rw [ht]; exact hJ2⟩, hS2.F ht⟩) hS2.2.2 dw_remove_22
set_option maxHeartbeats 4000000 in
theorem w_remove_t1 {l : Launch} {D : va_G} {ad : Nat → Nat} {cI cZ cQ : ClassId} {aO : Nat} {cL : ClassId} {h h' : HP} {o : Int64} {a : Int32} (hfl : ∀ e : Env, l.admits e → e.platform.stackTraces = false) (hq : Ec 73 [.inr 0, .inl a] h (.inr 1, h')) : q_MetL l D ad cI cZ cQ aO cL yw_remove ws_remove rw_remove [.ref (ad 0), .int a, .ref aO] h o 1 h' o := by
  refine va_MetW (cc := method_13_code) (maxL := 4) (ret := some .int) q_pl rfl ?_
  intro p e s m args below meth c s₁ B hml hv
  obtain ⟨rfl, hJ, hSt, hThr, hKL, hNc, hO⟩ := hv
  have hx := B.exec
  have hb := B.bytes
  have hr := B.returns
  have hts0 := atoms_spec (ws := ws_remove) B.pre
  have hts : ∀ w ∈ q_WS, w.before _ s = true := fun w hw => hts0 w (List.mem_cons_of_mem _ hw)
  have hown : s.vm.findClass "CashRecyclerLaw" = some m.cls := findClass_of_methodNamed B.named
  have hlk := B.notSynchronized
  have hl := lv_entry ([.ref (ad 0), .int a, .ref aO]) (n := 4) (Nat.le_of_ble_eq_true rfl)
  rw [lg_entry_eq]
  generalize (lg_sl ([.ref (ad 0), .int a, .ref aO]) ++ List.replicate (4 - (lg_sl ([.ref (ad 0), .int a, .ref aO])).length) Slot.unset).toArray = ls at hl ⊢
  have hl : lv_has ls 4 [(0, .ref (ad 0)), (1, .int a), (2, .ref aO)] := hl
  have hP := q_J_W hJ
  have hS : va_S (q_AL ad aO) s.heap s.heap [] := va_S.rf
  obtain ⟨m9, meth9, c9, g1, g2, g3, -, -, g4, -⟩ := Cond.codeWith_spec (hts0 _ List.mem_cons_self)
  cases B.named.symm.trans g1
  cases B.method.symm.trans g2
  cases (Stand.of_body B).code.symm.trans g3
  obtain ⟨e1, e2, e3, hes, f1, f2, f3⟩ := q_es3 g4
  simp only [Prod.mk.injEq] at f1
  simp only [Prod.mk.injEq] at f2
  simp only [Prod.mk.injEq] at f3
  refine lv_aload_n hx hb dw_remove_0 rfl (lv_at hl 2 rfl) ?_
  refine lv_iconst (v := 0) hx hb dw_remove_1 (by decide) ?_
  refine lv_aload_n hx hb dw_remove_2 rfl (lv_at hl 0 rfl) ?_
  refine lv_iload_n hx hb dw_remove_3 rfl (lv_at hl 1 rfl) ?_
  refine q_utry hfl (j := 73) (ro := 0) (idx := 50) (x := 1) (hpc := 12) (as := [.inl a]) (rest := [.int 0, .ref aO]) (A0 := q_AL ad aO) ⟨hx, hb, hml, hown, hts⟩ hSt.1 (by decide) (by decide) rfl hq rfl rfl (q_inAt lw_remove rfl) (Nat.le_refl _) (Nat.le_refl _) (Nat.le_refl _) (Nat.le_refl _) hP hS (fun q z => Or.inl z) (fun U hU hW => ⟨q_Sta_at hSt va_S.rf hU hW, q_Thr_at hThr hP va_S.rf hU hW⟩) hl.1 rfl (Nat.le_of_ble_eq_true rfl) dw_remove_4 hes ?_ (fun ex H1 locs1 hP1 hz hk hS1 => ?_)
  · intro U g ex ce z1 z2 z3 z4 z5 z6 hpl
    have key := q_fg_hit (e := e) (U := U) (f := g) (a := ex) (x := e1) (t := [e2, e3]) (own := "CashRecyclerLaw") (X := q_exN 1) (args := _) hpl z4 (by rw [z5]; exact hown) (by simp [covers, f1, z6]) (by rw [f1.2.2.2]; decide) (by rw [f1.2.2.2]; exact hts _ (q_inAt cl_15 rfl)) z1 z2 z3 (hThr.1.1 _ (by decide +kernel))
    rw [f1.2.2.1] at key
    exact key
  · have hJ1 : va_P D qCl (q_J ad cI cZ cQ aO cL h' o) H1 := q_J_mk hP1 (by rw [hk aO (Array.getElem?_eq_some_iff.mp (q_J_O hJ)).1 hO]; exact q_J_O hJ)
    refine lv_astore_n hx hb dw_remove_12 rfl hl (by decide) rfl (fun ls9 hl9 => ?_)
    refine lv_iconst (v := 1) hx hb dw_remove_13 (by decide) ?_
    exact W.iret hx hb hr (fun t ht _ => ⟨⟨1, (), rfl, rfl, by show va_P _ _ _ t.heap; rw [ht]; exact hJ1⟩, hS1.F ht⟩) hS1.2.2 dw_remove_14
set_option maxHeartbeats 4000000 in
theorem w_remove_t0 {l : Launch} {D : va_G} {ad : Nat → Nat} {cI cZ cQ : ClassId} {aO : Nat} {cL : ClassId} {h h' : HP} {o : Int64} {a : Int32} (hfl : ∀ e : Env, l.admits e → e.platform.stackTraces = false) (hq : Ec 73 [.inr 0, .inl a] h (.inr 0, h')) : q_MetL l D ad cI cZ cQ aO cL yw_remove ws_remove rw_remove [.ref (ad 0), .int a, .ref aO] h o 2 h' o := by
  refine va_MetW (cc := method_13_code) (maxL := 4) (ret := some .int) q_pl rfl ?_
  intro p e s m args below meth c s₁ B hml hv
  obtain ⟨rfl, hJ, hSt, hThr, hKL, hNc, hO⟩ := hv
  have hx := B.exec
  have hb := B.bytes
  have hr := B.returns
  have hts0 := atoms_spec (ws := ws_remove) B.pre
  have hts : ∀ w ∈ q_WS, w.before _ s = true := fun w hw => hts0 w (List.mem_cons_of_mem _ hw)
  have hown : s.vm.findClass "CashRecyclerLaw" = some m.cls := findClass_of_methodNamed B.named
  have hlk := B.notSynchronized
  have hl := lv_entry ([.ref (ad 0), .int a, .ref aO]) (n := 4) (Nat.le_of_ble_eq_true rfl)
  rw [lg_entry_eq]
  generalize (lg_sl ([.ref (ad 0), .int a, .ref aO]) ++ List.replicate (4 - (lg_sl ([.ref (ad 0), .int a, .ref aO])).length) Slot.unset).toArray = ls at hl ⊢
  have hl : lv_has ls 4 [(0, .ref (ad 0)), (1, .int a), (2, .ref aO)] := hl
  have hP := q_J_W hJ
  have hS : va_S (q_AL ad aO) s.heap s.heap [] := va_S.rf
  obtain ⟨m9, meth9, c9, g1, g2, g3, -, -, g4, -⟩ := Cond.codeWith_spec (hts0 _ List.mem_cons_self)
  cases B.named.symm.trans g1
  cases B.method.symm.trans g2
  cases (Stand.of_body B).code.symm.trans g3
  obtain ⟨e1, e2, e3, hes, f1, f2, f3⟩ := q_es3 g4
  simp only [Prod.mk.injEq] at f1
  simp only [Prod.mk.injEq] at f2
  simp only [Prod.mk.injEq] at f3
  refine lv_aload_n hx hb dw_remove_0 rfl (lv_at hl 2 rfl) ?_
  refine lv_iconst (v := 0) hx hb dw_remove_1 (by decide) ?_
  refine lv_aload_n hx hb dw_remove_2 rfl (lv_at hl 0 rfl) ?_
  refine lv_iload_n hx hb dw_remove_3 rfl (lv_at hl 1 rfl) ?_
  refine q_utry hfl (j := 73) (ro := 0) (idx := 50) (x := 0) (hpc := 15) (as := [.inl a]) (rest := [.int 0, .ref aO]) (A0 := q_AL ad aO) ⟨hx, hb, hml, hown, hts⟩ hSt.1 (by decide) (by decide) rfl hq rfl rfl (q_inAt lw_remove rfl) (Nat.le_refl _) (Nat.le_refl _) (Nat.le_refl _) (Nat.le_refl _) hP hS (fun q z => Or.inl z) (fun U hU hW => ⟨q_Sta_at hSt va_S.rf hU hW, q_Thr_at hThr hP va_S.rf hU hW⟩) hl.1 rfl (Nat.le_of_ble_eq_true rfl) dw_remove_4 hes ?_ (fun ex H1 locs1 hP1 hz hk hS1 => ?_)
  · intro U g ex ce z1 z2 z3 z4 z5 z6 hpl
    refine q_fg_pass (x := e1) (own := "CashRecyclerLaw") (X := q_exN 0) (Y := "java/lang/IllegalStateException") hpl z4 (by rw [z5]; exact hown) (by simp [covers, f1, z6]) (by rw [f1.2.2.2]; decide) (by rw [f1.2.2.2]; exact hts _ (q_inAt cl_15 rfl)) (by first | exact z1 | exact z1) z2 z3 (hNc _ (by decide +kernel) _ (by decide +kernel) (by decide +kernel)) (fun vm1 z4 => ?_)
    have key := q_fg_hit (e := e) (U := (U.setVm vm1)) (f := g) (a := ex) (x := e2) (t := [e3]) (own := "CashRecyclerLaw") (X := q_exN 0) (args := _) hpl z4 (by rw [z5]; exact hown) (by simp [covers, f2, z6]) (by rw [f2.2.2.2]; decide) (by rw [f2.2.2.2]; exact hts _ (q_inAt cl_13 rfl)) z1 z2 z3 (hThr.1.1 _ (by decide +kernel))
    rw [f2.2.2.1] at key
    exact key
  · have hJ1 : va_P D qCl (q_J ad cI cZ cQ aO cL h' o) H1 := q_J_mk hP1 (by rw [hk aO (Array.getElem?_eq_some_iff.mp (q_J_O hJ)).1 hO]; exact q_J_O hJ)
    refine lv_astore_n hx hb dw_remove_15 rfl hl (by decide) rfl (fun ls9 hl9 => ?_)
    refine lv_iconst (v := 2) hx hb dw_remove_16 (by decide) ?_
    exact W.iret hx hb hr (fun t ht _ => ⟨⟨2, (), rfl, rfl, by show va_P _ _ _ t.heap; rw [ht]; exact hJ1⟩, hS1.F ht⟩) hS1.2.2 dw_remove_17
set_option maxHeartbeats 4000000 in
theorem w_remove_t3 {l : Launch} {D : va_G} {ad : Nat → Nat} {cI cZ cQ : ClassId} {aO : Nat} {cL : ClassId} {h h' : HP} {o : Int64} {a : Int32} (hfl : ∀ e : Env, l.admits e → e.platform.stackTraces = false) (hq : Ec 73 [.inr 0, .inl a] h (.inr 3, h')) : q_MetL l D ad cI cZ cQ aO cL yw_remove ws_remove rw_remove [.ref (ad 0), .int a, .ref aO] h o 3 h' o := by
  refine va_MetW (cc := method_13_code) (maxL := 4) (ret := some .int) q_pl rfl ?_
  intro p e s m args below meth c s₁ B hml hv
  obtain ⟨rfl, hJ, hSt, hThr, hKL, hNc, hO⟩ := hv
  have hx := B.exec
  have hb := B.bytes
  have hr := B.returns
  have hts0 := atoms_spec (ws := ws_remove) B.pre
  have hts : ∀ w ∈ q_WS, w.before _ s = true := fun w hw => hts0 w (List.mem_cons_of_mem _ hw)
  have hown : s.vm.findClass "CashRecyclerLaw" = some m.cls := findClass_of_methodNamed B.named
  have hlk := B.notSynchronized
  have hl := lv_entry ([.ref (ad 0), .int a, .ref aO]) (n := 4) (Nat.le_of_ble_eq_true rfl)
  rw [lg_entry_eq]
  generalize (lg_sl ([.ref (ad 0), .int a, .ref aO]) ++ List.replicate (4 - (lg_sl ([.ref (ad 0), .int a, .ref aO])).length) Slot.unset).toArray = ls at hl ⊢
  have hl : lv_has ls 4 [(0, .ref (ad 0)), (1, .int a), (2, .ref aO)] := hl
  have hP := q_J_W hJ
  have hS : va_S (q_AL ad aO) s.heap s.heap [] := va_S.rf
  obtain ⟨m9, meth9, c9, g1, g2, g3, -, -, g4, -⟩ := Cond.codeWith_spec (hts0 _ List.mem_cons_self)
  cases B.named.symm.trans g1
  cases B.method.symm.trans g2
  cases (Stand.of_body B).code.symm.trans g3
  obtain ⟨e1, e2, e3, hes, f1, f2, f3⟩ := q_es3 g4
  simp only [Prod.mk.injEq] at f1
  simp only [Prod.mk.injEq] at f2
  simp only [Prod.mk.injEq] at f3
  refine lv_aload_n hx hb dw_remove_0 rfl (lv_at hl 2 rfl) ?_
  refine lv_iconst (v := 0) hx hb dw_remove_1 (by decide) ?_
  refine lv_aload_n hx hb dw_remove_2 rfl (lv_at hl 0 rfl) ?_
  refine lv_iload_n hx hb dw_remove_3 rfl (lv_at hl 1 rfl) ?_
  refine q_utry hfl (j := 73) (ro := 0) (idx := 50) (x := 3) (hpc := 18) (as := [.inl a]) (rest := [.int 0, .ref aO]) (A0 := q_AL ad aO) ⟨hx, hb, hml, hown, hts⟩ hSt.1 (by decide) (by decide) rfl hq rfl rfl (q_inAt lw_remove rfl) (Nat.le_refl _) (Nat.le_refl _) (Nat.le_refl _) (Nat.le_refl _) hP hS (fun q z => Or.inl z) (fun U hU hW => ⟨q_Sta_at hSt va_S.rf hU hW, q_Thr_at hThr hP va_S.rf hU hW⟩) hl.1 rfl (Nat.le_of_ble_eq_true rfl) dw_remove_4 hes ?_ (fun ex H1 locs1 hP1 hz hk hS1 => ?_)
  · intro U g ex ce z1 z2 z3 z4 z5 z6 hpl
    refine q_fg_pass (x := e1) (own := "CashRecyclerLaw") (X := q_exN 3) (Y := "java/lang/IllegalStateException") hpl z4 (by rw [z5]; exact hown) (by simp [covers, f1, z6]) (by rw [f1.2.2.2]; decide) (by rw [f1.2.2.2]; exact hts _ (q_inAt cl_15 rfl)) (by first | exact z1 | exact z1) z2 z3 (hNc _ (by decide +kernel) _ (by decide +kernel) (by decide +kernel)) (fun vm1 z4 => ?_)
    refine q_fg_pass (x := e2) (own := "CashRecyclerLaw") (X := q_exN 3) (Y := "java/lang/IllegalArgumentException") hpl z4 (by rw [z5]; exact hown) (by simp [covers, f2, z6]) (by rw [f2.2.2.2]; decide) (by rw [f2.2.2.2]; exact hts _ (q_inAt cl_13 rfl)) (by first | exact z1 | exact z1) z2 z3 (hNc _ (by decide +kernel) _ (by decide +kernel) (by decide +kernel)) (fun vm2 z4 => ?_)
    have key := q_fg_hit (e := e) (U := ((U.setVm vm1).setVm vm2)) (f := g) (a := ex) (x := e3) (t := []) (own := "CashRecyclerLaw") (X := q_exN 3) (args := _) hpl z4 (by rw [z5]; exact hown) (by simp [covers, f3, z6]) (by rw [f3.2.2.2]; decide) (by rw [f3.2.2.2]; exact hts _ (q_inAt cl_45 rfl)) z1 z2 z3 (hThr.1.1 _ (by decide +kernel))
    rw [f3.2.2.1] at key
    exact key
  · have hJ1 : va_P D qCl (q_J ad cI cZ cQ aO cL h' o) H1 := q_J_mk hP1 (by rw [hk aO (Array.getElem?_eq_some_iff.mp (q_J_O hJ)).1 hO]; exact q_J_O hJ)
    refine lv_astore_n hx hb dw_remove_18 rfl hl (by decide) rfl (fun ls9 hl9 => ?_)
    refine lv_iconst (v := 3) hx hb dw_remove_19 (by decide) ?_
    exact W.iret hx hb hr (fun t ht _ => ⟨⟨3, (), rfl, rfl, by show va_P _ _ _ t.heap; rw [ht]; exact hJ1⟩, hS1.F ht⟩) hS1.2.2 dw_remove_20
theorem dw_free_0 : decode method_14_code 0 = .ok (.aload_n 2, 1) := by decide +kernel
theorem dw_free_1 : decode method_14_code 1 = .ok (.iconst 0, 1) := by decide +kernel
theorem dw_free_2 : decode method_14_code 2 = .ok (.aload_n 0, 1) := by decide +kernel
theorem dw_free_3 : decode method_14_code 3 = .ok (.iload_n 1, 1) := by decide +kernel
theorem dw_free_4 : decode method_14_code 4 = .ok (.invokevirtual 53, 3) := by decide +kernel
theorem dw_free_7 : decode method_14_code 7 = .ok (.ifCond .eq 7, 3) := by decide +kernel
theorem dw_free_10 : decode method_14_code 10 = .ok (.lconst 1, 1) := by decide +kernel
theorem dw_free_11 : decode method_14_code 11 = .ok (.goto 4, 3) := by decide +kernel
theorem dw_free_14 : decode method_14_code 14 = .ok (.lconst 0, 1) := by decide +kernel
theorem dw_free_15 : decode method_14_code 15 = .ok (.lastore, 1) := by decide +kernel
theorem dw_free_16 : decode method_14_code 16 = .ok (.goto 9, 3) := by decide +kernel
theorem dw_free_19 : decode method_14_code 19 = .ok (.astore_n 3, 1) := by decide +kernel
theorem dw_free_20 : decode method_14_code 20 = .ok (.iconst 1, 1) := by decide +kernel
theorem dw_free_21 : decode method_14_code 21 = .ok (.ireturn, 1) := by decide +kernel
theorem dw_free_22 : decode method_14_code 22 = .ok (.astore_n 3, 1) := by decide +kernel
theorem dw_free_23 : decode method_14_code 23 = .ok (.iconst 2, 1) := by decide +kernel
theorem dw_free_24 : decode method_14_code 24 = .ok (.ireturn, 1) := by decide +kernel
theorem dw_free_25 : decode method_14_code 25 = .ok (.iconst 0, 1) := by decide +kernel
theorem dw_free_26 : decode method_14_code 26 = .ok (.ireturn, 1) := by decide +kernel
theorem lw_free : lw_tbl[668]? = some (.methodLink "CashRecyclerLaw" 53 (qmY 74)) := by decide +kernel
abbrev yw_free : MethodName := ⟨"CashRecyclerLaw", "free", "(LCashRecycler;I[J)I"⟩
def ws_free : List Cond := .codeWith yw_free method_14_code 4 (some .int) [(0, 16, 19, 15), (0, 16, 22, 13)] :: q_WS
def rw_free : Room := { frames := qmF 74 + 1, cells := 1, slots := 6, locals := 8 + (qmL 74 + 11) + qmW 74 }
set_option maxHeartbeats 4000000 in
theorem w_free_r {l : Launch} {D : va_G} {ad : Nat → Nat} {cI cZ cQ : ClassId} {aO : Nat} {cL : ClassId} {h h' : HP} {o : Int64} {a : Int32} {v : Int32} (hq : Ec 74 [.inr 0, .inl a] h (.inl (some v), h')) : q_MetL l D ad cI cZ cQ aO cL yw_free ws_free rw_free [.ref (ad 0), .int a, .ref aO] h o 0 h' (if v = 0 then 0 else 1) := by
  refine va_MetW (cc := method_14_code) (maxL := 4) (ret := some .int) q_pl rfl ?_
  intro p e s m args below meth c s₁ B hml hv
  obtain ⟨rfl, hJ, hSt, hThr, hKL, hNc, hO⟩ := hv
  have hx := B.exec
  have hb := B.bytes
  have hr := B.returns
  have hts0 := atoms_spec (ws := ws_free) B.pre
  have hts : ∀ w ∈ q_WS, w.before _ s = true := fun w hw => hts0 w (List.mem_cons_of_mem _ hw)
  have hown : s.vm.findClass "CashRecyclerLaw" = some m.cls := findClass_of_methodNamed B.named
  have hlk := B.notSynchronized
  have hl := lv_entry ([.ref (ad 0), .int a, .ref aO]) (n := 4) (Nat.le_of_ble_eq_true rfl)
  rw [lg_entry_eq]
  generalize (lg_sl ([.ref (ad 0), .int a, .ref aO]) ++ List.replicate (4 - (lg_sl ([.ref (ad 0), .int a, .ref aO])).length) Slot.unset).toArray = ls at hl ⊢
  have hl : lv_has ls 4 [(0, .ref (ad 0)), (1, .int a), (2, .ref aO)] := hl
  have hP := q_J_W hJ
  have hS : va_S (q_AL ad aO) s.heap s.heap [] := va_S.rf
  refine lv_aload_n hx hb dw_free_0 rfl (lv_at hl 2 rfl) ?_
  refine lv_iconst (v := 0) hx hb dw_free_1 (by decide) ?_
  refine lv_aload_n hx hb dw_free_2 rfl (lv_at hl 0 rfl) ?_
  refine lv_iload_n hx hb dw_free_3 rfl (lv_at hl 1 rfl) ?_
  refine q_ucall (j := 74) (ro := 0) (idx := 53) (as := [.inl a]) (rest := [.int 0, .ref aO]) (A0 := q_AL ad aO) ⟨hx, hb, hml, hown, hts⟩ hSt.1 (by decide) (by decide) rfl hq rfl rfl (q_inAt lw_free rfl) (Nat.le_refl _) (Nat.le_refl _) (Nat.zero_le _) (Nat.zero_le _) hP hS (fun q z => Or.inl z) (fun U hU hW => q_Sta_at hSt va_S.rf hU hW) hl.1 rfl (Nat.le_of_ble_eq_true rfl) dw_free_4 (fun H1 locs1 hP1 hz hk hS1 => ?_)
  have hJ1 : va_P D qCl (q_J ad cI cZ cQ aO cL h' o) H1 := q_J_mk hP1 (by rw [hk aO (Array.getElem?_eq_some_iff.mp (q_J_O hJ)).1 hO]; exact q_J_O hJ)
  refine lv_if_eq hx hb dw_free_7 rfl (fun hc => ?_) (fun hc => ?_)
  · rw [if_pos hc]
    refine lv_lconst (v := 0) hx hb dw_free_14 (by decide) ?_
    refine va_last (D := D) (cl := qCl) (H0 := s.heap) (A := q_AL ad aO) hx hb hKL hJ1 (q_J_D hSt.2.2.2.2 hO (fun _ z => z)) hS1 47 0 q_J_47 rfl q_in01 dw_free_15 (fun H2 locs2 hP2 hD2 hS2 => ?_)
    have hJ2 : va_P D qCl (q_J ad cI cZ cQ aO cL h' 0) H2 := q_J_set (by rfl) hP2
    refine lv_goto hx hb dw_free_16 rfl ?_
    refine lv_iconst (v := 0) hx hb dw_free_25 (by decide) ?_
    refine W.widen (k := 1) (n := 6) (by omega) (by omega) ?_
    exact W.iret hx hb hr (fun t ht _ => ⟨⟨0, (), rfl, rfl, by show va_P _ _ _ t.heap; rw [ht]; exact hJ2⟩, hS2.F ht⟩) hS2.2.2 dw_free_26
  · rw [if_neg hc]
    refine lv_lconst (v := 1) hx hb dw_free_10 (by decide) ?_
    refine lv_goto hx hb dw_free_11 rfl ?_
    refine va_last (D := D) (cl := qCl) (H0 := s.heap) (A := q_AL ad aO) hx hb hKL hJ1 (q_J_D hSt.2.2.2.2 hO (fun _ z => z)) hS1 47 0 q_J_47 rfl q_in01 dw_free_15 (fun H2 locs2 hP2 hD2 hS2 => ?_)
    have hJ2 : va_P D qCl (q_J ad cI cZ cQ aO cL h' 1) H2 := q_J_set (by rfl) hP2
    refine lv_goto hx hb dw_free_16 rfl ?_
    refine lv_iconst (v := 0) hx hb dw_free_25 (by decide) ?_
    refine W.widen (k := 1) (n := 6) (by omega) (by omega) ?_
    exact W.iret hx hb hr (fun t ht _ => ⟨⟨0, (), rfl, rfl, by show va_P _ _ _ t.heap; rw [ht]; exact hJ2⟩, hS2.F ht⟩) hS2.2.2 dw_free_26
set_option maxHeartbeats 4000000 in
theorem w_free_t1 {l : Launch} {D : va_G} {ad : Nat → Nat} {cI cZ cQ : ClassId} {aO : Nat} {cL : ClassId} {h h' : HP} {o : Int64} {a : Int32} (hfl : ∀ e : Env, l.admits e → e.platform.stackTraces = false) (hq : Ec 74 [.inr 0, .inl a] h (.inr 1, h')) : q_MetL l D ad cI cZ cQ aO cL yw_free ws_free rw_free [.ref (ad 0), .int a, .ref aO] h o 1 h' o := by
  refine va_MetW (cc := method_14_code) (maxL := 4) (ret := some .int) q_pl rfl ?_
  intro p e s m args below meth c s₁ B hml hv
  obtain ⟨rfl, hJ, hSt, hThr, hKL, hNc, hO⟩ := hv
  have hx := B.exec
  have hb := B.bytes
  have hr := B.returns
  have hts0 := atoms_spec (ws := ws_free) B.pre
  have hts : ∀ w ∈ q_WS, w.before _ s = true := fun w hw => hts0 w (List.mem_cons_of_mem _ hw)
  have hown : s.vm.findClass "CashRecyclerLaw" = some m.cls := findClass_of_methodNamed B.named
  have hlk := B.notSynchronized
  have hl := lv_entry ([.ref (ad 0), .int a, .ref aO]) (n := 4) (Nat.le_of_ble_eq_true rfl)
  rw [lg_entry_eq]
  generalize (lg_sl ([.ref (ad 0), .int a, .ref aO]) ++ List.replicate (4 - (lg_sl ([.ref (ad 0), .int a, .ref aO])).length) Slot.unset).toArray = ls at hl ⊢
  have hl : lv_has ls 4 [(0, .ref (ad 0)), (1, .int a), (2, .ref aO)] := hl
  have hP := q_J_W hJ
  have hS : va_S (q_AL ad aO) s.heap s.heap [] := va_S.rf
  obtain ⟨m9, meth9, c9, g1, g2, g3, -, -, g4, -⟩ := Cond.codeWith_spec (hts0 _ List.mem_cons_self)
  cases B.named.symm.trans g1
  cases B.method.symm.trans g2
  cases (Stand.of_body B).code.symm.trans g3
  obtain ⟨e1, e2, hes, f1, f2⟩ := q_es2 g4
  simp only [Prod.mk.injEq] at f1
  simp only [Prod.mk.injEq] at f2
  refine lv_aload_n hx hb dw_free_0 rfl (lv_at hl 2 rfl) ?_
  refine lv_iconst (v := 0) hx hb dw_free_1 (by decide) ?_
  refine lv_aload_n hx hb dw_free_2 rfl (lv_at hl 0 rfl) ?_
  refine lv_iload_n hx hb dw_free_3 rfl (lv_at hl 1 rfl) ?_
  refine q_utry hfl (j := 74) (ro := 0) (idx := 53) (x := 1) (hpc := 19) (as := [.inl a]) (rest := [.int 0, .ref aO]) (A0 := q_AL ad aO) ⟨hx, hb, hml, hown, hts⟩ hSt.1 (by decide) (by decide) rfl hq rfl rfl (q_inAt lw_free rfl) (Nat.le_refl _) (Nat.le_refl _) (Nat.le_refl _) (Nat.le_refl _) hP hS (fun q z => Or.inl z) (fun U hU hW => ⟨q_Sta_at hSt va_S.rf hU hW, q_Thr_at hThr hP va_S.rf hU hW⟩) hl.1 rfl (Nat.le_of_ble_eq_true rfl) dw_free_4 hes ?_ (fun ex H1 locs1 hP1 hz hk hS1 => ?_)
  · intro U g ex ce z1 z2 z3 z4 z5 z6 hpl
    have key := q_fg_hit (e := e) (U := U) (f := g) (a := ex) (x := e1) (t := [e2]) (own := "CashRecyclerLaw") (X := q_exN 1) (args := _) hpl z4 (by rw [z5]; exact hown) (by simp [covers, f1, z6]) (by rw [f1.2.2.2]; decide) (by rw [f1.2.2.2]; exact hts _ (q_inAt cl_15 rfl)) z1 z2 z3 (hThr.1.1 _ (by decide +kernel))
    rw [f1.2.2.1] at key
    exact key
  · have hJ1 : va_P D qCl (q_J ad cI cZ cQ aO cL h' o) H1 := q_J_mk hP1 (by rw [hk aO (Array.getElem?_eq_some_iff.mp (q_J_O hJ)).1 hO]; exact q_J_O hJ)
    refine lv_astore_n hx hb dw_free_19 rfl hl (by decide) rfl (fun ls9 hl9 => ?_)
    refine lv_iconst (v := 1) hx hb dw_free_20 (by decide) ?_
    exact W.iret hx hb hr (fun t ht _ => ⟨⟨1, (), rfl, rfl, by show va_P _ _ _ t.heap; rw [ht]; exact hJ1⟩, hS1.F ht⟩) hS1.2.2 dw_free_21
set_option maxHeartbeats 4000000 in
theorem w_free_t0 {l : Launch} {D : va_G} {ad : Nat → Nat} {cI cZ cQ : ClassId} {aO : Nat} {cL : ClassId} {h h' : HP} {o : Int64} {a : Int32} (hfl : ∀ e : Env, l.admits e → e.platform.stackTraces = false) (hq : Ec 74 [.inr 0, .inl a] h (.inr 0, h')) : q_MetL l D ad cI cZ cQ aO cL yw_free ws_free rw_free [.ref (ad 0), .int a, .ref aO] h o 2 h' o := by
  refine va_MetW (cc := method_14_code) (maxL := 4) (ret := some .int) q_pl rfl ?_
  intro p e s m args below meth c s₁ B hml hv
  obtain ⟨rfl, hJ, hSt, hThr, hKL, hNc, hO⟩ := hv
  have hx := B.exec
  have hb := B.bytes
  have hr := B.returns
  have hts0 := atoms_spec (ws := ws_free) B.pre
  have hts : ∀ w ∈ q_WS, w.before _ s = true := fun w hw => hts0 w (List.mem_cons_of_mem _ hw)
  have hown : s.vm.findClass "CashRecyclerLaw" = some m.cls := findClass_of_methodNamed B.named
  have hlk := B.notSynchronized
  have hl := lv_entry ([.ref (ad 0), .int a, .ref aO]) (n := 4) (Nat.le_of_ble_eq_true rfl)
  rw [lg_entry_eq]
  generalize (lg_sl ([.ref (ad 0), .int a, .ref aO]) ++ List.replicate (4 - (lg_sl ([.ref (ad 0), .int a, .ref aO])).length) Slot.unset).toArray = ls at hl ⊢
  have hl : lv_has ls 4 [(0, .ref (ad 0)), (1, .int a), (2, .ref aO)] := hl
  have hP := q_J_W hJ
  have hS : va_S (q_AL ad aO) s.heap s.heap [] := va_S.rf
  obtain ⟨m9, meth9, c9, g1, g2, g3, -, -, g4, -⟩ := Cond.codeWith_spec (hts0 _ List.mem_cons_self)
  cases B.named.symm.trans g1
  cases B.method.symm.trans g2
  cases (Stand.of_body B).code.symm.trans g3
  obtain ⟨e1, e2, hes, f1, f2⟩ := q_es2 g4
  simp only [Prod.mk.injEq] at f1
  simp only [Prod.mk.injEq] at f2
  refine lv_aload_n hx hb dw_free_0 rfl (lv_at hl 2 rfl) ?_
  refine lv_iconst (v := 0) hx hb dw_free_1 (by decide) ?_
  refine lv_aload_n hx hb dw_free_2 rfl (lv_at hl 0 rfl) ?_
  refine lv_iload_n hx hb dw_free_3 rfl (lv_at hl 1 rfl) ?_
  refine q_utry hfl (j := 74) (ro := 0) (idx := 53) (x := 0) (hpc := 22) (as := [.inl a]) (rest := [.int 0, .ref aO]) (A0 := q_AL ad aO) ⟨hx, hb, hml, hown, hts⟩ hSt.1 (by decide) (by decide) rfl hq rfl rfl (q_inAt lw_free rfl) (Nat.le_refl _) (Nat.le_refl _) (Nat.le_refl _) (Nat.le_refl _) hP hS (fun q z => Or.inl z) (fun U hU hW => ⟨q_Sta_at hSt va_S.rf hU hW, q_Thr_at hThr hP va_S.rf hU hW⟩) hl.1 rfl (Nat.le_of_ble_eq_true rfl) dw_free_4 hes ?_ (fun ex H1 locs1 hP1 hz hk hS1 => ?_)
  · intro U g ex ce z1 z2 z3 z4 z5 z6 hpl
    refine q_fg_pass (x := e1) (own := "CashRecyclerLaw") (X := q_exN 0) (Y := "java/lang/IllegalStateException") hpl z4 (by rw [z5]; exact hown) (by simp [covers, f1, z6]) (by rw [f1.2.2.2]; decide) (by rw [f1.2.2.2]; exact hts _ (q_inAt cl_15 rfl)) (by first | exact z1 | exact z1) z2 z3 (hNc _ (by decide +kernel) _ (by decide +kernel) (by decide +kernel)) (fun vm1 z4 => ?_)
    have key := q_fg_hit (e := e) (U := (U.setVm vm1)) (f := g) (a := ex) (x := e2) (t := []) (own := "CashRecyclerLaw") (X := q_exN 0) (args := _) hpl z4 (by rw [z5]; exact hown) (by simp [covers, f2, z6]) (by rw [f2.2.2.2]; decide) (by rw [f2.2.2.2]; exact hts _ (q_inAt cl_13 rfl)) z1 z2 z3 (hThr.1.1 _ (by decide +kernel))
    rw [f2.2.2.1] at key
    exact key
  · have hJ1 : va_P D qCl (q_J ad cI cZ cQ aO cL h' o) H1 := q_J_mk hP1 (by rw [hk aO (Array.getElem?_eq_some_iff.mp (q_J_O hJ)).1 hO]; exact q_J_O hJ)
    refine lv_astore_n hx hb dw_free_22 rfl hl (by decide) rfl (fun ls9 hl9 => ?_)
    refine lv_iconst (v := 2) hx hb dw_free_23 (by decide) ?_
    exact W.iret hx hb hr (fun t ht _ => ⟨⟨2, (), rfl, rfl, by show va_P _ _ _ t.heap; rw [ht]; exact hJ1⟩, hS1.F ht⟩) hS1.2.2 dw_free_24
theorem dw_close_0 : decode method_15_code 0 = .ok (.aload_n 1, 1) := by decide +kernel
theorem dw_close_1 : decode method_15_code 1 = .ok (.iconst 0, 1) := by decide +kernel
theorem dw_close_2 : decode method_15_code 2 = .ok (.aload_n 0, 1) := by decide +kernel
theorem dw_close_3 : decode method_15_code 3 = .ok (.invokevirtual 57, 3) := by decide +kernel
theorem dw_close_6 : decode method_15_code 6 = .ok (.i2l, 1) := by decide +kernel
theorem dw_close_7 : decode method_15_code 7 = .ok (.lastore, 1) := by decide +kernel
theorem dw_close_8 : decode method_15_code 8 = .ok (.goto 6, 3) := by decide +kernel
theorem dw_close_11 : decode method_15_code 11 = .ok (.astore_n 2, 1) := by decide +kernel
theorem dw_close_12 : decode method_15_code 12 = .ok (.iconst 1, 1) := by decide +kernel
theorem dw_close_13 : decode method_15_code 13 = .ok (.ireturn, 1) := by decide +kernel
theorem dw_close_14 : decode method_15_code 14 = .ok (.iconst 0, 1) := by decide +kernel
theorem dw_close_15 : decode method_15_code 15 = .ok (.ireturn, 1) := by decide +kernel
theorem lw_close : lw_tbl[675]? = some (.methodLink "CashRecyclerLaw" 57 (qmY 78)) := by decide +kernel
abbrev yw_close : MethodName := ⟨"CashRecyclerLaw", "close", "(LCashRecycler;[J)I"⟩
def ws_close : List Cond := .codeWith yw_close method_15_code 3 (some .int) [(0, 8, 11, 15)] :: q_WS
def rw_close : Room := { frames := qmF 78 + 1, cells := 1, slots := 6, locals := 8 + (qmL 78 + 11) + qmW 78 }
set_option maxHeartbeats 4000000 in
theorem w_close_r {l : Launch} {D : va_G} {ad : Nat → Nat} {cI cZ cQ : ClassId} {aO : Nat} {cL : ClassId} {h h' : HP} {o : Int64} {v : Int32} (hq : Ec 78 [.inr 0] h (.inl (some v), h')) : q_MetL l D ad cI cZ cQ aO cL yw_close ws_close rw_close [.ref (ad 0), .ref aO] h o 0 h' v.toInt64 := by
  refine va_MetW (cc := method_15_code) (maxL := 3) (ret := some .int) q_pl rfl ?_
  intro p e s m args below meth c s₁ B hml hv
  obtain ⟨rfl, hJ, hSt, hThr, hKL, hNc, hO⟩ := hv
  have hx := B.exec
  have hb := B.bytes
  have hr := B.returns
  have hts0 := atoms_spec (ws := ws_close) B.pre
  have hts : ∀ w ∈ q_WS, w.before _ s = true := fun w hw => hts0 w (List.mem_cons_of_mem _ hw)
  have hown : s.vm.findClass "CashRecyclerLaw" = some m.cls := findClass_of_methodNamed B.named
  have hlk := B.notSynchronized
  have hl := lv_entry ([.ref (ad 0), .ref aO]) (n := 3) (Nat.le_of_ble_eq_true rfl)
  rw [lg_entry_eq]
  generalize (lg_sl ([.ref (ad 0), .ref aO]) ++ List.replicate (3 - (lg_sl ([.ref (ad 0), .ref aO])).length) Slot.unset).toArray = ls at hl ⊢
  have hl : lv_has ls 3 [(0, .ref (ad 0)), (1, .ref aO)] := hl
  have hP := q_J_W hJ
  have hS : va_S (q_AL ad aO) s.heap s.heap [] := va_S.rf
  refine lv_aload_n hx hb dw_close_0 rfl (lv_at hl 1 rfl) ?_
  refine lv_iconst (v := 0) hx hb dw_close_1 (by decide) ?_
  refine lv_aload_n hx hb dw_close_2 rfl (lv_at hl 0 rfl) ?_
  refine q_ucall (j := 78) (ro := 0) (idx := 57) (as := []) (rest := [.int 0, .ref aO]) (A0 := q_AL ad aO) ⟨hx, hb, hml, hown, hts⟩ hSt.1 (by decide) (by decide) rfl hq rfl rfl (q_inAt lw_close rfl) (Nat.le_refl _) (Nat.le_refl _) (Nat.zero_le _) (Nat.zero_le _) hP hS (fun q z => Or.inl z) (fun U hU hW => q_Sta_at hSt va_S.rf hU hW) hl.1 rfl (Nat.le_of_ble_eq_true rfl) dw_close_3 (fun H1 locs1 hP1 hz hk hS1 => ?_)
  have hJ1 : va_P D qCl (q_J ad cI cZ cQ aO cL h' o) H1 := q_J_mk hP1 (by rw [hk aO (Array.getElem?_eq_some_iff.mp (q_J_O hJ)).1 hO]; exact q_J_O hJ)
  refine lv_i2l (v := v.toInt64) hx hb dw_close_6 rfl ?_
  refine va_last (D := D) (cl := qCl) (H0 := s.heap) (A := q_AL ad aO) hx hb hKL hJ1 (q_J_D hSt.2.2.2.2 hO (fun _ z => z)) hS1 47 0 q_J_47 rfl q_in01 dw_close_7 (fun H2 locs2 hP2 hD2 hS2 => ?_)
  have hJ2 : va_P D qCl (q_J ad cI cZ cQ aO cL h' v.toInt64) H2 := q_J_set (by rfl) hP2
  refine lv_goto hx hb dw_close_8 rfl ?_
  refine lv_iconst (v := 0) hx hb dw_close_14 (by decide) ?_
  refine W.widen (k := 1) (n := 6) (by omega) (by omega) ?_
  exact W.iret hx hb hr (fun t ht _ => ⟨⟨0, (), rfl, rfl, by show va_P _ _ _ t.heap; rw [ht]; exact hJ2⟩, hS2.F ht⟩) hS2.2.2 dw_close_15
set_option maxHeartbeats 4000000 in
theorem w_close_t1 {l : Launch} {D : va_G} {ad : Nat → Nat} {cI cZ cQ : ClassId} {aO : Nat} {cL : ClassId} {h h' : HP} {o : Int64} (hfl : ∀ e : Env, l.admits e → e.platform.stackTraces = false) (hq : Ec 78 [.inr 0] h (.inr 1, h')) : q_MetL l D ad cI cZ cQ aO cL yw_close ws_close rw_close [.ref (ad 0), .ref aO] h o 1 h' o := by
  refine va_MetW (cc := method_15_code) (maxL := 3) (ret := some .int) q_pl rfl ?_
  intro p e s m args below meth c s₁ B hml hv
  obtain ⟨rfl, hJ, hSt, hThr, hKL, hNc, hO⟩ := hv
  have hx := B.exec
  have hb := B.bytes
  have hr := B.returns
  have hts0 := atoms_spec (ws := ws_close) B.pre
  have hts : ∀ w ∈ q_WS, w.before _ s = true := fun w hw => hts0 w (List.mem_cons_of_mem _ hw)
  have hown : s.vm.findClass "CashRecyclerLaw" = some m.cls := findClass_of_methodNamed B.named
  have hlk := B.notSynchronized
  have hl := lv_entry ([.ref (ad 0), .ref aO]) (n := 3) (Nat.le_of_ble_eq_true rfl)
  rw [lg_entry_eq]
  generalize (lg_sl ([.ref (ad 0), .ref aO]) ++ List.replicate (3 - (lg_sl ([.ref (ad 0), .ref aO])).length) Slot.unset).toArray = ls at hl ⊢
  have hl : lv_has ls 3 [(0, .ref (ad 0)), (1, .ref aO)] := hl
  have hP := q_J_W hJ
  have hS : va_S (q_AL ad aO) s.heap s.heap [] := va_S.rf
  obtain ⟨m9, meth9, c9, g1, g2, g3, -, -, g4, -⟩ := Cond.codeWith_spec (hts0 _ List.mem_cons_self)
  cases B.named.symm.trans g1
  cases B.method.symm.trans g2
  cases (Stand.of_body B).code.symm.trans g3
  obtain ⟨e1, hes, f1⟩ := q_es1 g4
  simp only [Prod.mk.injEq] at f1
  refine lv_aload_n hx hb dw_close_0 rfl (lv_at hl 1 rfl) ?_
  refine lv_iconst (v := 0) hx hb dw_close_1 (by decide) ?_
  refine lv_aload_n hx hb dw_close_2 rfl (lv_at hl 0 rfl) ?_
  refine q_utry hfl (j := 78) (ro := 0) (idx := 57) (x := 1) (hpc := 11) (as := []) (rest := [.int 0, .ref aO]) (A0 := q_AL ad aO) ⟨hx, hb, hml, hown, hts⟩ hSt.1 (by decide) (by decide) rfl hq rfl rfl (q_inAt lw_close rfl) (Nat.le_refl _) (Nat.le_refl _) (Nat.le_refl _) (Nat.le_refl _) hP hS (fun q z => Or.inl z) (fun U hU hW => ⟨q_Sta_at hSt va_S.rf hU hW, q_Thr_at hThr hP va_S.rf hU hW⟩) hl.1 rfl (Nat.le_of_ble_eq_true rfl) dw_close_3 hes ?_ (fun ex H1 locs1 hP1 hz hk hS1 => ?_)
  · intro U g ex ce z1 z2 z3 z4 z5 z6 hpl
    have key := q_fg_hit (e := e) (U := U) (f := g) (a := ex) (x := e1) (t := []) (own := "CashRecyclerLaw") (X := q_exN 1) (args := _) hpl z4 (by rw [z5]; exact hown) (by simp [covers, f1, z6]) (by rw [f1.2.2.2]; decide) (by rw [f1.2.2.2]; exact hts _ (q_inAt cl_15 rfl)) z1 z2 z3 (hThr.1.1 _ (by decide +kernel))
    rw [f1.2.2.1] at key
    exact key
  · have hJ1 : va_P D qCl (q_J ad cI cZ cQ aO cL h' o) H1 := q_J_mk hP1 (by rw [hk aO (Array.getElem?_eq_some_iff.mp (q_J_O hJ)).1 hO]; exact q_J_O hJ)
    refine lv_astore_n hx hb dw_close_11 rfl hl (by decide) rfl (fun ls9 hl9 => ?_)
    refine lv_iconst (v := 1) hx hb dw_close_12 (by decide) ?_
    exact W.iret hx hb hr (fun t ht _ => ⟨⟨1, (), rfl, rfl, by show va_P _ _ _ t.heap; rw [ht]; exact hJ1⟩, hS1.F ht⟩) hS1.2.2 dw_close_13
theorem dw_service_0 : decode method_16_code 0 = .ok (.aload_n 1, 1) := by decide +kernel
theorem dw_service_1 : decode method_16_code 1 = .ok (.iconst 0, 1) := by decide +kernel
theorem dw_service_2 : decode method_16_code 2 = .ok (.aload_n 0, 1) := by decide +kernel
theorem dw_service_3 : decode method_16_code 3 = .ok (.invokevirtual 61, 3) := by decide +kernel
theorem dw_service_6 : decode method_16_code 6 = .ok (.ifCond .eq 7, 3) := by decide +kernel
theorem dw_service_9 : decode method_16_code 9 = .ok (.lconst 1, 1) := by decide +kernel
theorem dw_service_10 : decode method_16_code 10 = .ok (.goto 4, 3) := by decide +kernel
theorem dw_service_13 : decode method_16_code 13 = .ok (.lconst 0, 1) := by decide +kernel
theorem dw_service_14 : decode method_16_code 14 = .ok (.lastore, 1) := by decide +kernel
theorem dw_service_15 : decode method_16_code 15 = .ok (.goto 6, 3) := by decide +kernel
theorem dw_service_18 : decode method_16_code 18 = .ok (.astore_n 2, 1) := by decide +kernel
theorem dw_service_19 : decode method_16_code 19 = .ok (.iconst 1, 1) := by decide +kernel
theorem dw_service_20 : decode method_16_code 20 = .ok (.ireturn, 1) := by decide +kernel
theorem dw_service_21 : decode method_16_code 21 = .ok (.iconst 0, 1) := by decide +kernel
theorem dw_service_22 : decode method_16_code 22 = .ok (.ireturn, 1) := by decide +kernel
theorem lw_service : lw_tbl[682]? = some (.methodLink "CashRecyclerLaw" 61 (qmY 81)) := by decide +kernel
abbrev yw_service : MethodName := ⟨"CashRecyclerLaw", "service", "(LCashRecycler;[J)I"⟩
def ws_service : List Cond := .codeWith yw_service method_16_code 3 (some .int) [(0, 15, 18, 15)] :: q_WS
def rw_service : Room := { frames := qmF 81 + 1, cells := 1, slots := 6, locals := 8 + (qmL 81 + 11) + qmW 81 }
set_option maxHeartbeats 4000000 in
theorem w_service_r {l : Launch} {D : va_G} {ad : Nat → Nat} {cI cZ cQ : ClassId} {aO : Nat} {cL : ClassId} {h h' : HP} {o : Int64} {v : Int32} (hq : Ec 81 [.inr 0] h (.inl (some v), h')) : q_MetL l D ad cI cZ cQ aO cL yw_service ws_service rw_service [.ref (ad 0), .ref aO] h o 0 h' (if v = 0 then 0 else 1) := by
  refine va_MetW (cc := method_16_code) (maxL := 3) (ret := some .int) q_pl rfl ?_
  intro p e s m args below meth c s₁ B hml hv
  obtain ⟨rfl, hJ, hSt, hThr, hKL, hNc, hO⟩ := hv
  have hx := B.exec
  have hb := B.bytes
  have hr := B.returns
  have hts0 := atoms_spec (ws := ws_service) B.pre
  have hts : ∀ w ∈ q_WS, w.before _ s = true := fun w hw => hts0 w (List.mem_cons_of_mem _ hw)
  have hown : s.vm.findClass "CashRecyclerLaw" = some m.cls := findClass_of_methodNamed B.named
  have hlk := B.notSynchronized
  have hl := lv_entry ([.ref (ad 0), .ref aO]) (n := 3) (Nat.le_of_ble_eq_true rfl)
  rw [lg_entry_eq]
  generalize (lg_sl ([.ref (ad 0), .ref aO]) ++ List.replicate (3 - (lg_sl ([.ref (ad 0), .ref aO])).length) Slot.unset).toArray = ls at hl ⊢
  have hl : lv_has ls 3 [(0, .ref (ad 0)), (1, .ref aO)] := hl
  have hP := q_J_W hJ
  have hS : va_S (q_AL ad aO) s.heap s.heap [] := va_S.rf
  refine lv_aload_n hx hb dw_service_0 rfl (lv_at hl 1 rfl) ?_
  refine lv_iconst (v := 0) hx hb dw_service_1 (by decide) ?_
  refine lv_aload_n hx hb dw_service_2 rfl (lv_at hl 0 rfl) ?_
  refine q_ucall (j := 81) (ro := 0) (idx := 61) (as := []) (rest := [.int 0, .ref aO]) (A0 := q_AL ad aO) ⟨hx, hb, hml, hown, hts⟩ hSt.1 (by decide) (by decide) rfl hq rfl rfl (q_inAt lw_service rfl) (Nat.le_refl _) (Nat.le_refl _) (Nat.zero_le _) (Nat.zero_le _) hP hS (fun q z => Or.inl z) (fun U hU hW => q_Sta_at hSt va_S.rf hU hW) hl.1 rfl (Nat.le_of_ble_eq_true rfl) dw_service_3 (fun H1 locs1 hP1 hz hk hS1 => ?_)
  have hJ1 : va_P D qCl (q_J ad cI cZ cQ aO cL h' o) H1 := q_J_mk hP1 (by rw [hk aO (Array.getElem?_eq_some_iff.mp (q_J_O hJ)).1 hO]; exact q_J_O hJ)
  refine lv_if_eq hx hb dw_service_6 rfl (fun hc => ?_) (fun hc => ?_)
  · rw [if_pos hc]
    refine lv_lconst (v := 0) hx hb dw_service_13 (by decide) ?_
    refine va_last (D := D) (cl := qCl) (H0 := s.heap) (A := q_AL ad aO) hx hb hKL hJ1 (q_J_D hSt.2.2.2.2 hO (fun _ z => z)) hS1 47 0 q_J_47 rfl q_in01 dw_service_14 (fun H2 locs2 hP2 hD2 hS2 => ?_)
    have hJ2 : va_P D qCl (q_J ad cI cZ cQ aO cL h' 0) H2 := q_J_set (by rfl) hP2
    refine lv_goto hx hb dw_service_15 rfl ?_
    refine lv_iconst (v := 0) hx hb dw_service_21 (by decide) ?_
    refine W.widen (k := 1) (n := 6) (by omega) (by omega) ?_
    exact W.iret hx hb hr (fun t ht _ => ⟨⟨0, (), rfl, rfl, by show va_P _ _ _ t.heap; rw [ht]; exact hJ2⟩, hS2.F ht⟩) hS2.2.2 dw_service_22
  · rw [if_neg hc]
    refine lv_lconst (v := 1) hx hb dw_service_9 (by decide) ?_
    refine lv_goto hx hb dw_service_10 rfl ?_
    refine va_last (D := D) (cl := qCl) (H0 := s.heap) (A := q_AL ad aO) hx hb hKL hJ1 (q_J_D hSt.2.2.2.2 hO (fun _ z => z)) hS1 47 0 q_J_47 rfl q_in01 dw_service_14 (fun H2 locs2 hP2 hD2 hS2 => ?_)
    have hJ2 : va_P D qCl (q_J ad cI cZ cQ aO cL h' 1) H2 := q_J_set (by rfl) hP2
    refine lv_goto hx hb dw_service_15 rfl ?_
    refine lv_iconst (v := 0) hx hb dw_service_21 (by decide) ?_
    refine W.widen (k := 1) (n := 6) (by omega) (by omega) ?_
    exact W.iret hx hb hr (fun t ht _ => ⟨⟨0, (), rfl, rfl, by show va_P _ _ _ t.heap; rw [ht]; exact hJ2⟩, hS2.F ht⟩) hS2.2.2 dw_service_22
set_option maxHeartbeats 4000000 in
theorem w_service_t1 {l : Launch} {D : va_G} {ad : Nat → Nat} {cI cZ cQ : ClassId} {aO : Nat} {cL : ClassId} {h h' : HP} {o : Int64} (hfl : ∀ e : Env, l.admits e → e.platform.stackTraces = false) (hq : Ec 81 [.inr 0] h (.inr 1, h')) : q_MetL l D ad cI cZ cQ aO cL yw_service ws_service rw_service [.ref (ad 0), .ref aO] h o 1 h' o := by
  refine va_MetW (cc := method_16_code) (maxL := 3) (ret := some .int) q_pl rfl ?_
  intro p e s m args below meth c s₁ B hml hv
  obtain ⟨rfl, hJ, hSt, hThr, hKL, hNc, hO⟩ := hv
  have hx := B.exec
  have hb := B.bytes
  have hr := B.returns
  have hts0 := atoms_spec (ws := ws_service) B.pre
  have hts : ∀ w ∈ q_WS, w.before _ s = true := fun w hw => hts0 w (List.mem_cons_of_mem _ hw)
  have hown : s.vm.findClass "CashRecyclerLaw" = some m.cls := findClass_of_methodNamed B.named
  have hlk := B.notSynchronized
  have hl := lv_entry ([.ref (ad 0), .ref aO]) (n := 3) (Nat.le_of_ble_eq_true rfl)
  rw [lg_entry_eq]
  generalize (lg_sl ([.ref (ad 0), .ref aO]) ++ List.replicate (3 - (lg_sl ([.ref (ad 0), .ref aO])).length) Slot.unset).toArray = ls at hl ⊢
  have hl : lv_has ls 3 [(0, .ref (ad 0)), (1, .ref aO)] := hl
  have hP := q_J_W hJ
  have hS : va_S (q_AL ad aO) s.heap s.heap [] := va_S.rf
  obtain ⟨m9, meth9, c9, g1, g2, g3, -, -, g4, -⟩ := Cond.codeWith_spec (hts0 _ List.mem_cons_self)
  cases B.named.symm.trans g1
  cases B.method.symm.trans g2
  cases (Stand.of_body B).code.symm.trans g3
  obtain ⟨e1, hes, f1⟩ := q_es1 g4
  simp only [Prod.mk.injEq] at f1
  refine lv_aload_n hx hb dw_service_0 rfl (lv_at hl 1 rfl) ?_
  refine lv_iconst (v := 0) hx hb dw_service_1 (by decide) ?_
  refine lv_aload_n hx hb dw_service_2 rfl (lv_at hl 0 rfl) ?_
  refine q_utry hfl (j := 81) (ro := 0) (idx := 61) (x := 1) (hpc := 18) (as := []) (rest := [.int 0, .ref aO]) (A0 := q_AL ad aO) ⟨hx, hb, hml, hown, hts⟩ hSt.1 (by decide) (by decide) rfl hq rfl rfl (q_inAt lw_service rfl) (Nat.le_refl _) (Nat.le_refl _) (Nat.le_refl _) (Nat.le_refl _) hP hS (fun q z => Or.inl z) (fun U hU hW => ⟨q_Sta_at hSt va_S.rf hU hW, q_Thr_at hThr hP va_S.rf hU hW⟩) hl.1 rfl (Nat.le_of_ble_eq_true rfl) dw_service_3 hes ?_ (fun ex H1 locs1 hP1 hz hk hS1 => ?_)
  · intro U g ex ce z1 z2 z3 z4 z5 z6 hpl
    have key := q_fg_hit (e := e) (U := U) (f := g) (a := ex) (x := e1) (t := []) (own := "CashRecyclerLaw") (X := q_exN 1) (args := _) hpl z4 (by rw [z5]; exact hown) (by simp [covers, f1, z6]) (by rw [f1.2.2.2]; decide) (by rw [f1.2.2.2]; exact hts _ (q_inAt cl_15 rfl)) z1 z2 z3 (hThr.1.1 _ (by decide +kernel))
    rw [f1.2.2.1] at key
    exact key
  · have hJ1 : va_P D qCl (q_J ad cI cZ cQ aO cL h' o) H1 := q_J_mk hP1 (by rw [hk aO (Array.getElem?_eq_some_iff.mp (q_J_O hJ)).1 hO]; exact q_J_O hJ)
    refine lv_astore_n hx hb dw_service_18 rfl hl (by decide) rfl (fun ls9 hl9 => ?_)
    refine lv_iconst (v := 1) hx hb dw_service_19 (by decide) ?_
    exact W.iret hx hb hr (fun t ht _ => ⟨⟨1, (), rfl, rfl, by show va_P _ _ _ t.heap; rw [ht]; exact hJ1⟩, hS1.F ht⟩) hS1.2.2 dw_service_20
theorem dw_kind_0 : decode method_17_code 0 = .ok (.aload_n 0, 1) := by decide +kernel
theorem dw_kind_1 : decode method_17_code 1 = .ok (.iload_n 1, 1) := by decide +kernel
theorem dw_kind_2 : decode method_17_code 2 = .ok (.iload_n 2, 1) := by decide +kernel
theorem dw_kind_3 : decode method_17_code 3 = .ok (.invokevirtual 65, 3) := by decide +kernel
theorem dw_kind_6 : decode method_17_code 6 = .ok (.goto 12, 3) := by decide +kernel
theorem dw_kind_9 : decode method_17_code 9 = .ok (.astore_n 3, 1) := by decide +kernel
theorem dw_kind_10 : decode method_17_code 10 = .ok (.iconst 1, 1) := by decide +kernel
theorem dw_kind_11 : decode method_17_code 11 = .ok (.ireturn, 1) := by decide +kernel
theorem dw_kind_12 : decode method_17_code 12 = .ok (.astore_n 3, 1) := by decide +kernel
theorem dw_kind_13 : decode method_17_code 13 = .ok (.iconst 2, 1) := by decide +kernel
theorem dw_kind_14 : decode method_17_code 14 = .ok (.ireturn, 1) := by decide +kernel
theorem dw_kind_15 : decode method_17_code 15 = .ok (.astore_n 3, 1) := by decide +kernel
theorem dw_kind_16 : decode method_17_code 16 = .ok (.iconst 3, 1) := by decide +kernel
theorem dw_kind_17 : decode method_17_code 17 = .ok (.ireturn, 1) := by decide +kernel
theorem dw_kind_18 : decode method_17_code 18 = .ok (.iconst 0, 1) := by decide +kernel
theorem dw_kind_19 : decode method_17_code 19 = .ok (.ireturn, 1) := by decide +kernel
theorem lw_kind : lw_tbl[689]? = some (.methodLink "CashRecyclerLaw" 65 (qmY 82)) := by decide +kernel
abbrev yw_kind : MethodName := ⟨"CashRecyclerLaw", "kind", "(LCashRecycler;II)I"⟩
def ws_kind : List Cond := .codeWith yw_kind method_17_code 4 (some .int) [(0, 6, 9, 15), (0, 6, 12, 13), (0, 6, 15, 32)] :: q_WS
def rw_kind : Room := { frames := qmF 82 + 1, cells := 1, slots := 6, locals := 8 + (qmL 82 + 11) + qmW 82 }
set_option maxHeartbeats 4000000 in
theorem w_kind_r {l : Launch} {D : va_G} {ad : Nat → Nat} {cI cZ cQ : ClassId} {aO : Nat} {cL : ClassId} {h h' : HP} {o : Int64} {a b : Int32} (hq : Ec 82 [.inr 0, .inl a, .inl b] h (.inl none, h')) : q_MetL l D ad cI cZ cQ aO cL yw_kind ws_kind rw_kind [.ref (ad 0), .int a, .int b] h o 0 h' o := by
  refine va_MetW (cc := method_17_code) (maxL := 4) (ret := some .int) q_pl rfl ?_
  intro p e s m args below meth c s₁ B hml hv
  obtain ⟨rfl, hJ, hSt, hThr, hKL, hNc, hO⟩ := hv
  have hx := B.exec
  have hb := B.bytes
  have hr := B.returns
  have hts0 := atoms_spec (ws := ws_kind) B.pre
  have hts : ∀ w ∈ q_WS, w.before _ s = true := fun w hw => hts0 w (List.mem_cons_of_mem _ hw)
  have hown : s.vm.findClass "CashRecyclerLaw" = some m.cls := findClass_of_methodNamed B.named
  have hlk := B.notSynchronized
  have hl := lv_entry ([.ref (ad 0), .int a, .int b]) (n := 4) (Nat.le_of_ble_eq_true rfl)
  rw [lg_entry_eq]
  generalize (lg_sl ([.ref (ad 0), .int a, .int b]) ++ List.replicate (4 - (lg_sl ([.ref (ad 0), .int a, .int b])).length) Slot.unset).toArray = ls at hl ⊢
  have hl : lv_has ls 4 [(0, .ref (ad 0)), (1, .int a), (2, .int b)] := hl
  have hP := q_J_W hJ
  have hS : va_S (q_AL ad aO) s.heap s.heap [] := va_S.rf
  refine lv_aload_n hx hb dw_kind_0 rfl (lv_at hl 0 rfl) ?_
  refine lv_iload_n hx hb dw_kind_1 rfl (lv_at hl 1 rfl) ?_
  refine lv_iload_n hx hb dw_kind_2 rfl (lv_at hl 2 rfl) ?_
  refine q_ucall (j := 82) (ro := 0) (idx := 65) (as := [.inl a, .inl b]) (rest := []) (A0 := q_AL ad aO) ⟨hx, hb, hml, hown, hts⟩ hSt.1 (by decide) (by decide) rfl hq rfl rfl (q_inAt lw_kind rfl) (Nat.le_refl _) (Nat.le_refl _) (Nat.zero_le _) (Nat.zero_le _) hP hS (fun q z => Or.inl z) (fun U hU hW => q_Sta_at hSt va_S.rf hU hW) hl.1 rfl (Nat.le_of_ble_eq_true rfl) dw_kind_3 (fun H1 locs1 hP1 hz hk hS1 => ?_)
  have hJ1 : va_P D qCl (q_J ad cI cZ cQ aO cL h' o) H1 := q_J_mk hP1 (by rw [hk aO (Array.getElem?_eq_some_iff.mp (q_J_O hJ)).1 hO]; exact q_J_O hJ)
  refine lv_goto hx hb dw_kind_6 rfl ?_
  refine lv_iconst (v := 0) hx hb dw_kind_18 (by decide) ?_
  refine W.widen (k := 1) (n := 6) (by omega) (by omega) ?_
  exact W.iret hx hb hr (fun t ht _ => ⟨⟨0, (), rfl, rfl, by show va_P _ _ _ t.heap; rw [ht]; exact hJ1⟩, hS1.F ht⟩) hS1.2.2 dw_kind_19
set_option maxHeartbeats 4000000 in
theorem w_kind_t1 {l : Launch} {D : va_G} {ad : Nat → Nat} {cI cZ cQ : ClassId} {aO : Nat} {cL : ClassId} {h h' : HP} {o : Int64} {a b : Int32} (hfl : ∀ e : Env, l.admits e → e.platform.stackTraces = false) (hq : Ec 82 [.inr 0, .inl a, .inl b] h (.inr 1, h')) : q_MetL l D ad cI cZ cQ aO cL yw_kind ws_kind rw_kind [.ref (ad 0), .int a, .int b] h o 1 h' o := by
  refine va_MetW (cc := method_17_code) (maxL := 4) (ret := some .int) q_pl rfl ?_
  intro p e s m args below meth c s₁ B hml hv
  obtain ⟨rfl, hJ, hSt, hThr, hKL, hNc, hO⟩ := hv
  have hx := B.exec
  have hb := B.bytes
  have hr := B.returns
  have hts0 := atoms_spec (ws := ws_kind) B.pre
  have hts : ∀ w ∈ q_WS, w.before _ s = true := fun w hw => hts0 w (List.mem_cons_of_mem _ hw)
  have hown : s.vm.findClass "CashRecyclerLaw" = some m.cls := findClass_of_methodNamed B.named
  have hlk := B.notSynchronized
  have hl := lv_entry ([.ref (ad 0), .int a, .int b]) (n := 4) (Nat.le_of_ble_eq_true rfl)
  rw [lg_entry_eq]
  generalize (lg_sl ([.ref (ad 0), .int a, .int b]) ++ List.replicate (4 - (lg_sl ([.ref (ad 0), .int a, .int b])).length) Slot.unset).toArray = ls at hl ⊢
  have hl : lv_has ls 4 [(0, .ref (ad 0)), (1, .int a), (2, .int b)] := hl
  have hP := q_J_W hJ
  have hS : va_S (q_AL ad aO) s.heap s.heap [] := va_S.rf
  obtain ⟨m9, meth9, c9, g1, g2, g3, -, -, g4, -⟩ := Cond.codeWith_spec (hts0 _ List.mem_cons_self)
  cases B.named.symm.trans g1
  cases B.method.symm.trans g2
  cases (Stand.of_body B).code.symm.trans g3
  obtain ⟨e1, e2, e3, hes, f1, f2, f3⟩ := q_es3 g4
  simp only [Prod.mk.injEq] at f1
  simp only [Prod.mk.injEq] at f2
  simp only [Prod.mk.injEq] at f3
  refine lv_aload_n hx hb dw_kind_0 rfl (lv_at hl 0 rfl) ?_
  refine lv_iload_n hx hb dw_kind_1 rfl (lv_at hl 1 rfl) ?_
  refine lv_iload_n hx hb dw_kind_2 rfl (lv_at hl 2 rfl) ?_
  refine q_utry hfl (j := 82) (ro := 0) (idx := 65) (x := 1) (hpc := 9) (as := [.inl a, .inl b]) (rest := []) (A0 := q_AL ad aO) ⟨hx, hb, hml, hown, hts⟩ hSt.1 (by decide) (by decide) rfl hq rfl rfl (q_inAt lw_kind rfl) (Nat.le_refl _) (Nat.le_refl _) (Nat.le_refl _) (Nat.le_refl _) hP hS (fun q z => Or.inl z) (fun U hU hW => ⟨q_Sta_at hSt va_S.rf hU hW, q_Thr_at hThr hP va_S.rf hU hW⟩) hl.1 rfl (Nat.le_of_ble_eq_true rfl) dw_kind_3 hes ?_ (fun ex H1 locs1 hP1 hz hk hS1 => ?_)
  · intro U g ex ce z1 z2 z3 z4 z5 z6 hpl
    have key := q_fg_hit (e := e) (U := U) (f := g) (a := ex) (x := e1) (t := [e2, e3]) (own := "CashRecyclerLaw") (X := q_exN 1) (args := _) hpl z4 (by rw [z5]; exact hown) (by simp [covers, f1, z6]) (by rw [f1.2.2.2]; decide) (by rw [f1.2.2.2]; exact hts _ (q_inAt cl_15 rfl)) z1 z2 z3 (hThr.1.1 _ (by decide +kernel))
    rw [f1.2.2.1] at key
    exact key
  · have hJ1 : va_P D qCl (q_J ad cI cZ cQ aO cL h' o) H1 := q_J_mk hP1 (by rw [hk aO (Array.getElem?_eq_some_iff.mp (q_J_O hJ)).1 hO]; exact q_J_O hJ)
    refine lv_astore_n hx hb dw_kind_9 rfl hl (by decide) rfl (fun ls9 hl9 => ?_)
    refine lv_iconst (v := 1) hx hb dw_kind_10 (by decide) ?_
    exact W.iret hx hb hr (fun t ht _ => ⟨⟨1, (), rfl, rfl, by show va_P _ _ _ t.heap; rw [ht]; exact hJ1⟩, hS1.F ht⟩) hS1.2.2 dw_kind_11
set_option maxHeartbeats 4000000 in
theorem w_kind_t0 {l : Launch} {D : va_G} {ad : Nat → Nat} {cI cZ cQ : ClassId} {aO : Nat} {cL : ClassId} {h h' : HP} {o : Int64} {a b : Int32} (hfl : ∀ e : Env, l.admits e → e.platform.stackTraces = false) (hq : Ec 82 [.inr 0, .inl a, .inl b] h (.inr 0, h')) : q_MetL l D ad cI cZ cQ aO cL yw_kind ws_kind rw_kind [.ref (ad 0), .int a, .int b] h o 2 h' o := by
  refine va_MetW (cc := method_17_code) (maxL := 4) (ret := some .int) q_pl rfl ?_
  intro p e s m args below meth c s₁ B hml hv
  obtain ⟨rfl, hJ, hSt, hThr, hKL, hNc, hO⟩ := hv
  have hx := B.exec
  have hb := B.bytes
  have hr := B.returns
  have hts0 := atoms_spec (ws := ws_kind) B.pre
  have hts : ∀ w ∈ q_WS, w.before _ s = true := fun w hw => hts0 w (List.mem_cons_of_mem _ hw)
  have hown : s.vm.findClass "CashRecyclerLaw" = some m.cls := findClass_of_methodNamed B.named
  have hlk := B.notSynchronized
  have hl := lv_entry ([.ref (ad 0), .int a, .int b]) (n := 4) (Nat.le_of_ble_eq_true rfl)
  rw [lg_entry_eq]
  generalize (lg_sl ([.ref (ad 0), .int a, .int b]) ++ List.replicate (4 - (lg_sl ([.ref (ad 0), .int a, .int b])).length) Slot.unset).toArray = ls at hl ⊢
  have hl : lv_has ls 4 [(0, .ref (ad 0)), (1, .int a), (2, .int b)] := hl
  have hP := q_J_W hJ
  have hS : va_S (q_AL ad aO) s.heap s.heap [] := va_S.rf
  obtain ⟨m9, meth9, c9, g1, g2, g3, -, -, g4, -⟩ := Cond.codeWith_spec (hts0 _ List.mem_cons_self)
  cases B.named.symm.trans g1
  cases B.method.symm.trans g2
  cases (Stand.of_body B).code.symm.trans g3
  obtain ⟨e1, e2, e3, hes, f1, f2, f3⟩ := q_es3 g4
  simp only [Prod.mk.injEq] at f1
  simp only [Prod.mk.injEq] at f2
  simp only [Prod.mk.injEq] at f3
  refine lv_aload_n hx hb dw_kind_0 rfl (lv_at hl 0 rfl) ?_
  refine lv_iload_n hx hb dw_kind_1 rfl (lv_at hl 1 rfl) ?_
  refine lv_iload_n hx hb dw_kind_2 rfl (lv_at hl 2 rfl) ?_
  refine q_utry hfl (j := 82) (ro := 0) (idx := 65) (x := 0) (hpc := 12) (as := [.inl a, .inl b]) (rest := []) (A0 := q_AL ad aO) ⟨hx, hb, hml, hown, hts⟩ hSt.1 (by decide) (by decide) rfl hq rfl rfl (q_inAt lw_kind rfl) (Nat.le_refl _) (Nat.le_refl _) (Nat.le_refl _) (Nat.le_refl _) hP hS (fun q z => Or.inl z) (fun U hU hW => ⟨q_Sta_at hSt va_S.rf hU hW, q_Thr_at hThr hP va_S.rf hU hW⟩) hl.1 rfl (Nat.le_of_ble_eq_true rfl) dw_kind_3 hes ?_ (fun ex H1 locs1 hP1 hz hk hS1 => ?_)
  · intro U g ex ce z1 z2 z3 z4 z5 z6 hpl
    refine q_fg_pass (x := e1) (own := "CashRecyclerLaw") (X := q_exN 0) (Y := "java/lang/IllegalStateException") hpl z4 (by rw [z5]; exact hown) (by simp [covers, f1, z6]) (by rw [f1.2.2.2]; decide) (by rw [f1.2.2.2]; exact hts _ (q_inAt cl_15 rfl)) (by first | exact z1 | exact z1) z2 z3 (hNc _ (by decide +kernel) _ (by decide +kernel) (by decide +kernel)) (fun vm1 z4 => ?_)
    have key := q_fg_hit (e := e) (U := (U.setVm vm1)) (f := g) (a := ex) (x := e2) (t := [e3]) (own := "CashRecyclerLaw") (X := q_exN 0) (args := _) hpl z4 (by rw [z5]; exact hown) (by simp [covers, f2, z6]) (by rw [f2.2.2.2]; decide) (by rw [f2.2.2.2]; exact hts _ (q_inAt cl_13 rfl)) z1 z2 z3 (hThr.1.1 _ (by decide +kernel))
    rw [f2.2.2.1] at key
    exact key
  · have hJ1 : va_P D qCl (q_J ad cI cZ cQ aO cL h' o) H1 := q_J_mk hP1 (by rw [hk aO (Array.getElem?_eq_some_iff.mp (q_J_O hJ)).1 hO]; exact q_J_O hJ)
    refine lv_astore_n hx hb dw_kind_12 rfl hl (by decide) rfl (fun ls9 hl9 => ?_)
    refine lv_iconst (v := 2) hx hb dw_kind_13 (by decide) ?_
    exact W.iret hx hb hr (fun t ht _ => ⟨⟨2, (), rfl, rfl, by show va_P _ _ _ t.heap; rw [ht]; exact hJ1⟩, hS1.F ht⟩) hS1.2.2 dw_kind_14
set_option maxHeartbeats 4000000 in
theorem w_kind_t2 {l : Launch} {D : va_G} {ad : Nat → Nat} {cI cZ cQ : ClassId} {aO : Nat} {cL : ClassId} {h h' : HP} {o : Int64} {a b : Int32} (hfl : ∀ e : Env, l.admits e → e.platform.stackTraces = false) (hq : Ec 82 [.inr 0, .inl a, .inl b] h (.inr 2, h')) : q_MetL l D ad cI cZ cQ aO cL yw_kind ws_kind rw_kind [.ref (ad 0), .int a, .int b] h o 3 h' o := by
  refine va_MetW (cc := method_17_code) (maxL := 4) (ret := some .int) q_pl rfl ?_
  intro p e s m args below meth c s₁ B hml hv
  obtain ⟨rfl, hJ, hSt, hThr, hKL, hNc, hO⟩ := hv
  have hx := B.exec
  have hb := B.bytes
  have hr := B.returns
  have hts0 := atoms_spec (ws := ws_kind) B.pre
  have hts : ∀ w ∈ q_WS, w.before _ s = true := fun w hw => hts0 w (List.mem_cons_of_mem _ hw)
  have hown : s.vm.findClass "CashRecyclerLaw" = some m.cls := findClass_of_methodNamed B.named
  have hlk := B.notSynchronized
  have hl := lv_entry ([.ref (ad 0), .int a, .int b]) (n := 4) (Nat.le_of_ble_eq_true rfl)
  rw [lg_entry_eq]
  generalize (lg_sl ([.ref (ad 0), .int a, .int b]) ++ List.replicate (4 - (lg_sl ([.ref (ad 0), .int a, .int b])).length) Slot.unset).toArray = ls at hl ⊢
  have hl : lv_has ls 4 [(0, .ref (ad 0)), (1, .int a), (2, .int b)] := hl
  have hP := q_J_W hJ
  have hS : va_S (q_AL ad aO) s.heap s.heap [] := va_S.rf
  obtain ⟨m9, meth9, c9, g1, g2, g3, -, -, g4, -⟩ := Cond.codeWith_spec (hts0 _ List.mem_cons_self)
  cases B.named.symm.trans g1
  cases B.method.symm.trans g2
  cases (Stand.of_body B).code.symm.trans g3
  obtain ⟨e1, e2, e3, hes, f1, f2, f3⟩ := q_es3 g4
  simp only [Prod.mk.injEq] at f1
  simp only [Prod.mk.injEq] at f2
  simp only [Prod.mk.injEq] at f3
  refine lv_aload_n hx hb dw_kind_0 rfl (lv_at hl 0 rfl) ?_
  refine lv_iload_n hx hb dw_kind_1 rfl (lv_at hl 1 rfl) ?_
  refine lv_iload_n hx hb dw_kind_2 rfl (lv_at hl 2 rfl) ?_
  refine q_utry hfl (j := 82) (ro := 0) (idx := 65) (x := 2) (hpc := 15) (as := [.inl a, .inl b]) (rest := []) (A0 := q_AL ad aO) ⟨hx, hb, hml, hown, hts⟩ hSt.1 (by decide) (by decide) rfl hq rfl rfl (q_inAt lw_kind rfl) (Nat.le_refl _) (Nat.le_refl _) (Nat.le_refl _) (Nat.le_refl _) hP hS (fun q z => Or.inl z) (fun U hU hW => ⟨q_Sta_at hSt va_S.rf hU hW, q_Thr_at hThr hP va_S.rf hU hW⟩) hl.1 rfl (Nat.le_of_ble_eq_true rfl) dw_kind_3 hes ?_ (fun ex H1 locs1 hP1 hz hk hS1 => ?_)
  · intro U g ex ce z1 z2 z3 z4 z5 z6 hpl
    refine q_fg_pass (x := e1) (own := "CashRecyclerLaw") (X := q_exN 2) (Y := "java/lang/IllegalStateException") hpl z4 (by rw [z5]; exact hown) (by simp [covers, f1, z6]) (by rw [f1.2.2.2]; decide) (by rw [f1.2.2.2]; exact hts _ (q_inAt cl_15 rfl)) (by first | exact z1 | exact z1) z2 z3 (hNc _ (by decide +kernel) _ (by decide +kernel) (by decide +kernel)) (fun vm1 z4 => ?_)
    refine q_fg_pass (x := e2) (own := "CashRecyclerLaw") (X := q_exN 2) (Y := "java/lang/IllegalArgumentException") hpl z4 (by rw [z5]; exact hown) (by simp [covers, f2, z6]) (by rw [f2.2.2.2]; decide) (by rw [f2.2.2.2]; exact hts _ (q_inAt cl_13 rfl)) (by first | exact z1 | exact z1) z2 z3 (hNc _ (by decide +kernel) _ (by decide +kernel) (by decide +kernel)) (fun vm2 z4 => ?_)
    have key := q_fg_hit (e := e) (U := ((U.setVm vm1).setVm vm2)) (f := g) (a := ex) (x := e3) (t := []) (own := "CashRecyclerLaw") (X := q_exN 2) (args := _) hpl z4 (by rw [z5]; exact hown) (by simp [covers, f3, z6]) (by rw [f3.2.2.2]; decide) (by rw [f3.2.2.2]; exact hts _ (q_inAt cl_32 rfl)) z1 z2 z3 (hThr.1.1 _ (by decide +kernel))
    rw [f3.2.2.1] at key
    exact key
  · have hJ1 : va_P D qCl (q_J ad cI cZ cQ aO cL h' o) H1 := q_J_mk hP1 (by rw [hk aO (Array.getElem?_eq_some_iff.mp (q_J_O hJ)).1 hO]; exact q_J_O hJ)
    refine lv_astore_n hx hb dw_kind_15 rfl hl (by decide) rfl (fun ls9 hl9 => ?_)
    refine lv_iconst (v := 3) hx hb dw_kind_16 (by decide) ?_
    exact W.iret hx hb hr (fun t ht _ => ⟨⟨3, (), rfl, rfl, by show va_P _ _ _ t.heap; rw [ht]; exact hJ1⟩, hS1.F ht⟩) hS1.2.2 dw_kind_17
theorem dw_refill_0 : decode method_18_code 0 = .ok (.aload_n 3, 1) := by decide +kernel
theorem dw_refill_1 : decode method_18_code 1 = .ok (.iconst 0, 1) := by decide +kernel
theorem dw_refill_2 : decode method_18_code 2 = .ok (.aload_n 0, 1) := by decide +kernel
theorem dw_refill_3 : decode method_18_code 3 = .ok (.iload_n 1, 1) := by decide +kernel
theorem dw_refill_4 : decode method_18_code 4 = .ok (.iload_n 2, 1) := by decide +kernel
theorem dw_refill_5 : decode method_18_code 5 = .ok (.invokevirtual 69, 3) := by decide +kernel
theorem dw_refill_8 : decode method_18_code 8 = .ok (.i2l, 1) := by decide +kernel
theorem dw_refill_9 : decode method_18_code 9 = .ok (.lastore, 1) := by decide +kernel
theorem dw_refill_10 : decode method_18_code 10 = .ok (.goto 11, 3) := by decide +kernel
theorem dw_refill_13 : decode method_18_code 13 = .ok (.astore 4, 2) := by decide +kernel
theorem dw_refill_15 : decode method_18_code 15 = .ok (.iconst 1, 1) := by decide +kernel
theorem dw_refill_16 : decode method_18_code 16 = .ok (.ireturn, 1) := by decide +kernel
theorem dw_refill_17 : decode method_18_code 17 = .ok (.astore 4, 2) := by decide +kernel
theorem dw_refill_19 : decode method_18_code 19 = .ok (.iconst 2, 1) := by decide +kernel
theorem dw_refill_20 : decode method_18_code 20 = .ok (.ireturn, 1) := by decide +kernel
theorem dw_refill_21 : decode method_18_code 21 = .ok (.iconst 0, 1) := by decide +kernel
theorem dw_refill_22 : decode method_18_code 22 = .ok (.ireturn, 1) := by decide +kernel
theorem lw_refill : lw_tbl[704]? = some (.methodLink "CashRecyclerLaw" 69 (qmY 83)) := by decide +kernel
abbrev yw_refill : MethodName := ⟨"CashRecyclerLaw", "refill", "(LCashRecycler;II[J)I"⟩
def ws_refill : List Cond := .codeWith yw_refill method_18_code 5 (some .int) [(0, 10, 13, 15), (0, 10, 17, 13)] :: q_WS
def rw_refill : Room := { frames := qmF 83 + 1, cells := 1, slots := 6, locals := 8 + (qmL 83 + 11) + qmW 83 }
set_option maxHeartbeats 4000000 in
theorem w_refill_r {l : Launch} {D : va_G} {ad : Nat → Nat} {cI cZ cQ : ClassId} {aO : Nat} {cL : ClassId} {h h' : HP} {o : Int64} {a b : Int32} {v : Int32} (hq : Ec 83 [.inr 0, .inl a, .inl b] h (.inl (some v), h')) : q_MetL l D ad cI cZ cQ aO cL yw_refill ws_refill rw_refill [.ref (ad 0), .int a, .int b, .ref aO] h o 0 h' v.toInt64 := by
  refine va_MetW (cc := method_18_code) (maxL := 5) (ret := some .int) q_pl rfl ?_
  intro p e s m args below meth c s₁ B hml hv
  obtain ⟨rfl, hJ, hSt, hThr, hKL, hNc, hO⟩ := hv
  have hx := B.exec
  have hb := B.bytes
  have hr := B.returns
  have hts0 := atoms_spec (ws := ws_refill) B.pre
  have hts : ∀ w ∈ q_WS, w.before _ s = true := fun w hw => hts0 w (List.mem_cons_of_mem _ hw)
  have hown : s.vm.findClass "CashRecyclerLaw" = some m.cls := findClass_of_methodNamed B.named
  have hlk := B.notSynchronized
  have hl := lv_entry ([.ref (ad 0), .int a, .int b, .ref aO]) (n := 5) (Nat.le_of_ble_eq_true rfl)
  rw [lg_entry_eq]
  generalize (lg_sl ([.ref (ad 0), .int a, .int b, .ref aO]) ++ List.replicate (5 - (lg_sl ([.ref (ad 0), .int a, .int b, .ref aO])).length) Slot.unset).toArray = ls at hl ⊢
  have hl : lv_has ls 5 [(0, .ref (ad 0)), (1, .int a), (2, .int b), (3, .ref aO)] := hl
  have hP := q_J_W hJ
  have hS : va_S (q_AL ad aO) s.heap s.heap [] := va_S.rf
  refine lv_aload_n hx hb dw_refill_0 rfl (lv_at hl 3 rfl) ?_
  refine lv_iconst (v := 0) hx hb dw_refill_1 (by decide) ?_
  refine lv_aload_n hx hb dw_refill_2 rfl (lv_at hl 0 rfl) ?_
  refine lv_iload_n hx hb dw_refill_3 rfl (lv_at hl 1 rfl) ?_
  refine lv_iload_n hx hb dw_refill_4 rfl (lv_at hl 2 rfl) ?_
  refine q_ucall (j := 83) (ro := 0) (idx := 69) (as := [.inl a, .inl b]) (rest := [.int 0, .ref aO]) (A0 := q_AL ad aO) ⟨hx, hb, hml, hown, hts⟩ hSt.1 (by decide) (by decide) rfl hq rfl rfl (q_inAt lw_refill rfl) (Nat.le_refl _) (Nat.le_refl _) (Nat.zero_le _) (Nat.zero_le _) hP hS (fun q z => Or.inl z) (fun U hU hW => q_Sta_at hSt va_S.rf hU hW) hl.1 rfl (Nat.le_of_ble_eq_true rfl) dw_refill_5 (fun H1 locs1 hP1 hz hk hS1 => ?_)
  have hJ1 : va_P D qCl (q_J ad cI cZ cQ aO cL h' o) H1 := q_J_mk hP1 (by rw [hk aO (Array.getElem?_eq_some_iff.mp (q_J_O hJ)).1 hO]; exact q_J_O hJ)
  refine lv_i2l (v := v.toInt64) hx hb dw_refill_8 rfl ?_
  refine va_last (D := D) (cl := qCl) (H0 := s.heap) (A := q_AL ad aO) hx hb hKL hJ1 (q_J_D hSt.2.2.2.2 hO (fun _ z => z)) hS1 47 0 q_J_47 rfl q_in01 dw_refill_9 (fun H2 locs2 hP2 hD2 hS2 => ?_)
  have hJ2 : va_P D qCl (q_J ad cI cZ cQ aO cL h' v.toInt64) H2 := q_J_set (by rfl) hP2
  refine lv_goto hx hb dw_refill_10 rfl ?_
  refine lv_iconst (v := 0) hx hb dw_refill_21 (by decide) ?_
  refine W.widen (k := 1) (n := 6) (by omega) (by omega) ?_
  exact W.iret hx hb hr (fun t ht _ => ⟨⟨0, (), rfl, rfl, by show va_P _ _ _ t.heap; rw [ht]; exact hJ2⟩, hS2.F ht⟩) hS2.2.2 dw_refill_22
set_option maxHeartbeats 4000000 in
theorem w_refill_t1 {l : Launch} {D : va_G} {ad : Nat → Nat} {cI cZ cQ : ClassId} {aO : Nat} {cL : ClassId} {h h' : HP} {o : Int64} {a b : Int32} (hfl : ∀ e : Env, l.admits e → e.platform.stackTraces = false) (hq : Ec 83 [.inr 0, .inl a, .inl b] h (.inr 1, h')) : q_MetL l D ad cI cZ cQ aO cL yw_refill ws_refill rw_refill [.ref (ad 0), .int a, .int b, .ref aO] h o 1 h' o := by
  refine va_MetW (cc := method_18_code) (maxL := 5) (ret := some .int) q_pl rfl ?_
  intro p e s m args below meth c s₁ B hml hv
  obtain ⟨rfl, hJ, hSt, hThr, hKL, hNc, hO⟩ := hv
  have hx := B.exec
  have hb := B.bytes
  have hr := B.returns
  have hts0 := atoms_spec (ws := ws_refill) B.pre
  have hts : ∀ w ∈ q_WS, w.before _ s = true := fun w hw => hts0 w (List.mem_cons_of_mem _ hw)
  have hown : s.vm.findClass "CashRecyclerLaw" = some m.cls := findClass_of_methodNamed B.named
  have hlk := B.notSynchronized
  have hl := lv_entry ([.ref (ad 0), .int a, .int b, .ref aO]) (n := 5) (Nat.le_of_ble_eq_true rfl)
  rw [lg_entry_eq]
  generalize (lg_sl ([.ref (ad 0), .int a, .int b, .ref aO]) ++ List.replicate (5 - (lg_sl ([.ref (ad 0), .int a, .int b, .ref aO])).length) Slot.unset).toArray = ls at hl ⊢
  have hl : lv_has ls 5 [(0, .ref (ad 0)), (1, .int a), (2, .int b), (3, .ref aO)] := hl
  have hP := q_J_W hJ
  have hS : va_S (q_AL ad aO) s.heap s.heap [] := va_S.rf
  obtain ⟨m9, meth9, c9, g1, g2, g3, -, -, g4, -⟩ := Cond.codeWith_spec (hts0 _ List.mem_cons_self)
  cases B.named.symm.trans g1
  cases B.method.symm.trans g2
  cases (Stand.of_body B).code.symm.trans g3
  obtain ⟨e1, e2, hes, f1, f2⟩ := q_es2 g4
  simp only [Prod.mk.injEq] at f1
  simp only [Prod.mk.injEq] at f2
  refine lv_aload_n hx hb dw_refill_0 rfl (lv_at hl 3 rfl) ?_
  refine lv_iconst (v := 0) hx hb dw_refill_1 (by decide) ?_
  refine lv_aload_n hx hb dw_refill_2 rfl (lv_at hl 0 rfl) ?_
  refine lv_iload_n hx hb dw_refill_3 rfl (lv_at hl 1 rfl) ?_
  refine lv_iload_n hx hb dw_refill_4 rfl (lv_at hl 2 rfl) ?_
  refine q_utry hfl (j := 83) (ro := 0) (idx := 69) (x := 1) (hpc := 13) (as := [.inl a, .inl b]) (rest := [.int 0, .ref aO]) (A0 := q_AL ad aO) ⟨hx, hb, hml, hown, hts⟩ hSt.1 (by decide) (by decide) rfl hq rfl rfl (q_inAt lw_refill rfl) (Nat.le_refl _) (Nat.le_refl _) (Nat.le_refl _) (Nat.le_refl _) hP hS (fun q z => Or.inl z) (fun U hU hW => ⟨q_Sta_at hSt va_S.rf hU hW, q_Thr_at hThr hP va_S.rf hU hW⟩) hl.1 rfl (Nat.le_of_ble_eq_true rfl) dw_refill_5 hes ?_ (fun ex H1 locs1 hP1 hz hk hS1 => ?_)
  · intro U g ex ce z1 z2 z3 z4 z5 z6 hpl
    have key := q_fg_hit (e := e) (U := U) (f := g) (a := ex) (x := e1) (t := [e2]) (own := "CashRecyclerLaw") (X := q_exN 1) (args := _) hpl z4 (by rw [z5]; exact hown) (by simp [covers, f1, z6]) (by rw [f1.2.2.2]; decide) (by rw [f1.2.2.2]; exact hts _ (q_inAt cl_15 rfl)) z1 z2 z3 (hThr.1.1 _ (by decide +kernel))
    rw [f1.2.2.1] at key
    exact key
  · have hJ1 : va_P D qCl (q_J ad cI cZ cQ aO cL h' o) H1 := q_J_mk hP1 (by rw [hk aO (Array.getElem?_eq_some_iff.mp (q_J_O hJ)).1 hO]; exact q_J_O hJ)
    refine lv_astore hx hb dw_refill_13 hl (by decide) rfl (fun ls9 hl9 => ?_)
    refine lv_iconst (v := 1) hx hb dw_refill_15 (by decide) ?_
    exact W.iret hx hb hr (fun t ht _ => ⟨⟨1, (), rfl, rfl, by show va_P _ _ _ t.heap; rw [ht]; exact hJ1⟩, hS1.F ht⟩) hS1.2.2 dw_refill_16
set_option maxHeartbeats 4000000 in
theorem w_refill_t0 {l : Launch} {D : va_G} {ad : Nat → Nat} {cI cZ cQ : ClassId} {aO : Nat} {cL : ClassId} {h h' : HP} {o : Int64} {a b : Int32} (hfl : ∀ e : Env, l.admits e → e.platform.stackTraces = false) (hq : Ec 83 [.inr 0, .inl a, .inl b] h (.inr 0, h')) : q_MetL l D ad cI cZ cQ aO cL yw_refill ws_refill rw_refill [.ref (ad 0), .int a, .int b, .ref aO] h o 2 h' o := by
  refine va_MetW (cc := method_18_code) (maxL := 5) (ret := some .int) q_pl rfl ?_
  intro p e s m args below meth c s₁ B hml hv
  obtain ⟨rfl, hJ, hSt, hThr, hKL, hNc, hO⟩ := hv
  have hx := B.exec
  have hb := B.bytes
  have hr := B.returns
  have hts0 := atoms_spec (ws := ws_refill) B.pre
  have hts : ∀ w ∈ q_WS, w.before _ s = true := fun w hw => hts0 w (List.mem_cons_of_mem _ hw)
  have hown : s.vm.findClass "CashRecyclerLaw" = some m.cls := findClass_of_methodNamed B.named
  have hlk := B.notSynchronized
  have hl := lv_entry ([.ref (ad 0), .int a, .int b, .ref aO]) (n := 5) (Nat.le_of_ble_eq_true rfl)
  rw [lg_entry_eq]
  generalize (lg_sl ([.ref (ad 0), .int a, .int b, .ref aO]) ++ List.replicate (5 - (lg_sl ([.ref (ad 0), .int a, .int b, .ref aO])).length) Slot.unset).toArray = ls at hl ⊢
  have hl : lv_has ls 5 [(0, .ref (ad 0)), (1, .int a), (2, .int b), (3, .ref aO)] := hl
  have hP := q_J_W hJ
  have hS : va_S (q_AL ad aO) s.heap s.heap [] := va_S.rf
  obtain ⟨m9, meth9, c9, g1, g2, g3, -, -, g4, -⟩ := Cond.codeWith_spec (hts0 _ List.mem_cons_self)
  cases B.named.symm.trans g1
  cases B.method.symm.trans g2
  cases (Stand.of_body B).code.symm.trans g3
  obtain ⟨e1, e2, hes, f1, f2⟩ := q_es2 g4
  simp only [Prod.mk.injEq] at f1
  simp only [Prod.mk.injEq] at f2
  refine lv_aload_n hx hb dw_refill_0 rfl (lv_at hl 3 rfl) ?_
  refine lv_iconst (v := 0) hx hb dw_refill_1 (by decide) ?_
  refine lv_aload_n hx hb dw_refill_2 rfl (lv_at hl 0 rfl) ?_
  refine lv_iload_n hx hb dw_refill_3 rfl (lv_at hl 1 rfl) ?_
  refine lv_iload_n hx hb dw_refill_4 rfl (lv_at hl 2 rfl) ?_
  refine q_utry hfl (j := 83) (ro := 0) (idx := 69) (x := 0) (hpc := 17) (as := [.inl a, .inl b]) (rest := [.int 0, .ref aO]) (A0 := q_AL ad aO) ⟨hx, hb, hml, hown, hts⟩ hSt.1 (by decide) (by decide) rfl hq rfl rfl (q_inAt lw_refill rfl) (Nat.le_refl _) (Nat.le_refl _) (Nat.le_refl _) (Nat.le_refl _) hP hS (fun q z => Or.inl z) (fun U hU hW => ⟨q_Sta_at hSt va_S.rf hU hW, q_Thr_at hThr hP va_S.rf hU hW⟩) hl.1 rfl (Nat.le_of_ble_eq_true rfl) dw_refill_5 hes ?_ (fun ex H1 locs1 hP1 hz hk hS1 => ?_)
  · intro U g ex ce z1 z2 z3 z4 z5 z6 hpl
    refine q_fg_pass (x := e1) (own := "CashRecyclerLaw") (X := q_exN 0) (Y := "java/lang/IllegalStateException") hpl z4 (by rw [z5]; exact hown) (by simp [covers, f1, z6]) (by rw [f1.2.2.2]; decide) (by rw [f1.2.2.2]; exact hts _ (q_inAt cl_15 rfl)) (by first | exact z1 | exact z1) z2 z3 (hNc _ (by decide +kernel) _ (by decide +kernel) (by decide +kernel)) (fun vm1 z4 => ?_)
    have key := q_fg_hit (e := e) (U := (U.setVm vm1)) (f := g) (a := ex) (x := e2) (t := []) (own := "CashRecyclerLaw") (X := q_exN 0) (args := _) hpl z4 (by rw [z5]; exact hown) (by simp [covers, f2, z6]) (by rw [f2.2.2.2]; decide) (by rw [f2.2.2.2]; exact hts _ (q_inAt cl_13 rfl)) z1 z2 z3 (hThr.1.1 _ (by decide +kernel))
    rw [f2.2.2.1] at key
    exact key
  · have hJ1 : va_P D qCl (q_J ad cI cZ cQ aO cL h' o) H1 := q_J_mk hP1 (by rw [hk aO (Array.getElem?_eq_some_iff.mp (q_J_O hJ)).1 hO]; exact q_J_O hJ)
    refine lv_astore hx hb dw_refill_17 hl (by decide) rfl (fun ls9 hl9 => ?_)
    refine lv_iconst (v := 2) hx hb dw_refill_19 (by decide) ?_
    exact W.iret hx hb hr (fun t ht _ => ⟨⟨2, (), rfl, rfl, by show va_P _ _ _ t.heap; rw [ht]; exact hJ1⟩, hS1.F ht⟩) hS1.2.2 dw_refill_20
theorem dw_empty_0 : decode method_19_code 0 = .ok (.aload_n 2, 1) := by decide +kernel
theorem dw_empty_1 : decode method_19_code 1 = .ok (.iconst 0, 1) := by decide +kernel
theorem dw_empty_2 : decode method_19_code 2 = .ok (.aload_n 0, 1) := by decide +kernel
theorem dw_empty_3 : decode method_19_code 3 = .ok (.iload_n 1, 1) := by decide +kernel
theorem dw_empty_4 : decode method_19_code 4 = .ok (.invokevirtual 72, 3) := by decide +kernel
theorem dw_empty_7 : decode method_19_code 7 = .ok (.i2l, 1) := by decide +kernel
theorem dw_empty_8 : decode method_19_code 8 = .ok (.lastore, 1) := by decide +kernel
theorem dw_empty_9 : decode method_19_code 9 = .ok (.goto 9, 3) := by decide +kernel
theorem dw_empty_12 : decode method_19_code 12 = .ok (.astore_n 3, 1) := by decide +kernel
theorem dw_empty_13 : decode method_19_code 13 = .ok (.iconst 1, 1) := by decide +kernel
theorem dw_empty_14 : decode method_19_code 14 = .ok (.ireturn, 1) := by decide +kernel
theorem dw_empty_15 : decode method_19_code 15 = .ok (.astore_n 3, 1) := by decide +kernel
theorem dw_empty_16 : decode method_19_code 16 = .ok (.iconst 2, 1) := by decide +kernel
theorem dw_empty_17 : decode method_19_code 17 = .ok (.ireturn, 1) := by decide +kernel
theorem dw_empty_18 : decode method_19_code 18 = .ok (.iconst 0, 1) := by decide +kernel
theorem dw_empty_19 : decode method_19_code 19 = .ok (.ireturn, 1) := by decide +kernel
theorem lw_empty : lw_tbl[711]? = some (.methodLink "CashRecyclerLaw" 72 (qmY 85)) := by decide +kernel
abbrev yw_empty : MethodName := ⟨"CashRecyclerLaw", "empty", "(LCashRecycler;I[J)I"⟩
def ws_empty : List Cond := .codeWith yw_empty method_19_code 4 (some .int) [(0, 9, 12, 15), (0, 9, 15, 13)] :: q_WS
def rw_empty : Room := { frames := qmF 85 + 1, cells := 1, slots := 6, locals := 8 + (qmL 85 + 11) + qmW 85 }
set_option maxHeartbeats 4000000 in
theorem w_empty_r {l : Launch} {D : va_G} {ad : Nat → Nat} {cI cZ cQ : ClassId} {aO : Nat} {cL : ClassId} {h h' : HP} {o : Int64} {a : Int32} {v : Int32} (hq : Ec 85 [.inr 0, .inl a] h (.inl (some v), h')) : q_MetL l D ad cI cZ cQ aO cL yw_empty ws_empty rw_empty [.ref (ad 0), .int a, .ref aO] h o 0 h' v.toInt64 := by
  refine va_MetW (cc := method_19_code) (maxL := 4) (ret := some .int) q_pl rfl ?_
  intro p e s m args below meth c s₁ B hml hv
  obtain ⟨rfl, hJ, hSt, hThr, hKL, hNc, hO⟩ := hv
  have hx := B.exec
  have hb := B.bytes
  have hr := B.returns
  have hts0 := atoms_spec (ws := ws_empty) B.pre
  have hts : ∀ w ∈ q_WS, w.before _ s = true := fun w hw => hts0 w (List.mem_cons_of_mem _ hw)
  have hown : s.vm.findClass "CashRecyclerLaw" = some m.cls := findClass_of_methodNamed B.named
  have hlk := B.notSynchronized
  have hl := lv_entry ([.ref (ad 0), .int a, .ref aO]) (n := 4) (Nat.le_of_ble_eq_true rfl)
  rw [lg_entry_eq]
  generalize (lg_sl ([.ref (ad 0), .int a, .ref aO]) ++ List.replicate (4 - (lg_sl ([.ref (ad 0), .int a, .ref aO])).length) Slot.unset).toArray = ls at hl ⊢
  have hl : lv_has ls 4 [(0, .ref (ad 0)), (1, .int a), (2, .ref aO)] := hl
  have hP := q_J_W hJ
  have hS : va_S (q_AL ad aO) s.heap s.heap [] := va_S.rf
  refine lv_aload_n hx hb dw_empty_0 rfl (lv_at hl 2 rfl) ?_
  refine lv_iconst (v := 0) hx hb dw_empty_1 (by decide) ?_
  refine lv_aload_n hx hb dw_empty_2 rfl (lv_at hl 0 rfl) ?_
  refine lv_iload_n hx hb dw_empty_3 rfl (lv_at hl 1 rfl) ?_
  refine q_ucall (j := 85) (ro := 0) (idx := 72) (as := [.inl a]) (rest := [.int 0, .ref aO]) (A0 := q_AL ad aO) ⟨hx, hb, hml, hown, hts⟩ hSt.1 (by decide) (by decide) rfl hq rfl rfl (q_inAt lw_empty rfl) (Nat.le_refl _) (Nat.le_refl _) (Nat.zero_le _) (Nat.zero_le _) hP hS (fun q z => Or.inl z) (fun U hU hW => q_Sta_at hSt va_S.rf hU hW) hl.1 rfl (Nat.le_of_ble_eq_true rfl) dw_empty_4 (fun H1 locs1 hP1 hz hk hS1 => ?_)
  have hJ1 : va_P D qCl (q_J ad cI cZ cQ aO cL h' o) H1 := q_J_mk hP1 (by rw [hk aO (Array.getElem?_eq_some_iff.mp (q_J_O hJ)).1 hO]; exact q_J_O hJ)
  refine lv_i2l (v := v.toInt64) hx hb dw_empty_7 rfl ?_
  refine va_last (D := D) (cl := qCl) (H0 := s.heap) (A := q_AL ad aO) hx hb hKL hJ1 (q_J_D hSt.2.2.2.2 hO (fun _ z => z)) hS1 47 0 q_J_47 rfl q_in01 dw_empty_8 (fun H2 locs2 hP2 hD2 hS2 => ?_)
  have hJ2 : va_P D qCl (q_J ad cI cZ cQ aO cL h' v.toInt64) H2 := q_J_set (by rfl) hP2
  refine lv_goto hx hb dw_empty_9 rfl ?_
  refine lv_iconst (v := 0) hx hb dw_empty_18 (by decide) ?_
  refine W.widen (k := 1) (n := 6) (by omega) (by omega) ?_
  exact W.iret hx hb hr (fun t ht _ => ⟨⟨0, (), rfl, rfl, by show va_P _ _ _ t.heap; rw [ht]; exact hJ2⟩, hS2.F ht⟩) hS2.2.2 dw_empty_19
set_option maxHeartbeats 4000000 in
theorem w_empty_t1 {l : Launch} {D : va_G} {ad : Nat → Nat} {cI cZ cQ : ClassId} {aO : Nat} {cL : ClassId} {h h' : HP} {o : Int64} {a : Int32} (hfl : ∀ e : Env, l.admits e → e.platform.stackTraces = false) (hq : Ec 85 [.inr 0, .inl a] h (.inr 1, h')) : q_MetL l D ad cI cZ cQ aO cL yw_empty ws_empty rw_empty [.ref (ad 0), .int a, .ref aO] h o 1 h' o := by
  refine va_MetW (cc := method_19_code) (maxL := 4) (ret := some .int) q_pl rfl ?_
  intro p e s m args below meth c s₁ B hml hv
  obtain ⟨rfl, hJ, hSt, hThr, hKL, hNc, hO⟩ := hv
  have hx := B.exec
  have hb := B.bytes
  have hr := B.returns
  have hts0 := atoms_spec (ws := ws_empty) B.pre
  have hts : ∀ w ∈ q_WS, w.before _ s = true := fun w hw => hts0 w (List.mem_cons_of_mem _ hw)
  have hown : s.vm.findClass "CashRecyclerLaw" = some m.cls := findClass_of_methodNamed B.named
  have hlk := B.notSynchronized
  have hl := lv_entry ([.ref (ad 0), .int a, .ref aO]) (n := 4) (Nat.le_of_ble_eq_true rfl)
  rw [lg_entry_eq]
  generalize (lg_sl ([.ref (ad 0), .int a, .ref aO]) ++ List.replicate (4 - (lg_sl ([.ref (ad 0), .int a, .ref aO])).length) Slot.unset).toArray = ls at hl ⊢
  have hl : lv_has ls 4 [(0, .ref (ad 0)), (1, .int a), (2, .ref aO)] := hl
  have hP := q_J_W hJ
  have hS : va_S (q_AL ad aO) s.heap s.heap [] := va_S.rf
  obtain ⟨m9, meth9, c9, g1, g2, g3, -, -, g4, -⟩ := Cond.codeWith_spec (hts0 _ List.mem_cons_self)
  cases B.named.symm.trans g1
  cases B.method.symm.trans g2
  cases (Stand.of_body B).code.symm.trans g3
  obtain ⟨e1, e2, hes, f1, f2⟩ := q_es2 g4
  simp only [Prod.mk.injEq] at f1
  simp only [Prod.mk.injEq] at f2
  refine lv_aload_n hx hb dw_empty_0 rfl (lv_at hl 2 rfl) ?_
  refine lv_iconst (v := 0) hx hb dw_empty_1 (by decide) ?_
  refine lv_aload_n hx hb dw_empty_2 rfl (lv_at hl 0 rfl) ?_
  refine lv_iload_n hx hb dw_empty_3 rfl (lv_at hl 1 rfl) ?_
  refine q_utry hfl (j := 85) (ro := 0) (idx := 72) (x := 1) (hpc := 12) (as := [.inl a]) (rest := [.int 0, .ref aO]) (A0 := q_AL ad aO) ⟨hx, hb, hml, hown, hts⟩ hSt.1 (by decide) (by decide) rfl hq rfl rfl (q_inAt lw_empty rfl) (Nat.le_refl _) (Nat.le_refl _) (Nat.le_refl _) (Nat.le_refl _) hP hS (fun q z => Or.inl z) (fun U hU hW => ⟨q_Sta_at hSt va_S.rf hU hW, q_Thr_at hThr hP va_S.rf hU hW⟩) hl.1 rfl (Nat.le_of_ble_eq_true rfl) dw_empty_4 hes ?_ (fun ex H1 locs1 hP1 hz hk hS1 => ?_)
  · intro U g ex ce z1 z2 z3 z4 z5 z6 hpl
    have key := q_fg_hit (e := e) (U := U) (f := g) (a := ex) (x := e1) (t := [e2]) (own := "CashRecyclerLaw") (X := q_exN 1) (args := _) hpl z4 (by rw [z5]; exact hown) (by simp [covers, f1, z6]) (by rw [f1.2.2.2]; decide) (by rw [f1.2.2.2]; exact hts _ (q_inAt cl_15 rfl)) z1 z2 z3 (hThr.1.1 _ (by decide +kernel))
    rw [f1.2.2.1] at key
    exact key
  · have hJ1 : va_P D qCl (q_J ad cI cZ cQ aO cL h' o) H1 := q_J_mk hP1 (by rw [hk aO (Array.getElem?_eq_some_iff.mp (q_J_O hJ)).1 hO]; exact q_J_O hJ)
    refine lv_astore_n hx hb dw_empty_12 rfl hl (by decide) rfl (fun ls9 hl9 => ?_)
    refine lv_iconst (v := 1) hx hb dw_empty_13 (by decide) ?_
    exact W.iret hx hb hr (fun t ht _ => ⟨⟨1, (), rfl, rfl, by show va_P _ _ _ t.heap; rw [ht]; exact hJ1⟩, hS1.F ht⟩) hS1.2.2 dw_empty_14
set_option maxHeartbeats 4000000 in
theorem w_empty_t0 {l : Launch} {D : va_G} {ad : Nat → Nat} {cI cZ cQ : ClassId} {aO : Nat} {cL : ClassId} {h h' : HP} {o : Int64} {a : Int32} (hfl : ∀ e : Env, l.admits e → e.platform.stackTraces = false) (hq : Ec 85 [.inr 0, .inl a] h (.inr 0, h')) : q_MetL l D ad cI cZ cQ aO cL yw_empty ws_empty rw_empty [.ref (ad 0), .int a, .ref aO] h o 2 h' o := by
  refine va_MetW (cc := method_19_code) (maxL := 4) (ret := some .int) q_pl rfl ?_
  intro p e s m args below meth c s₁ B hml hv
  obtain ⟨rfl, hJ, hSt, hThr, hKL, hNc, hO⟩ := hv
  have hx := B.exec
  have hb := B.bytes
  have hr := B.returns
  have hts0 := atoms_spec (ws := ws_empty) B.pre
  have hts : ∀ w ∈ q_WS, w.before _ s = true := fun w hw => hts0 w (List.mem_cons_of_mem _ hw)
  have hown : s.vm.findClass "CashRecyclerLaw" = some m.cls := findClass_of_methodNamed B.named
  have hlk := B.notSynchronized
  have hl := lv_entry ([.ref (ad 0), .int a, .ref aO]) (n := 4) (Nat.le_of_ble_eq_true rfl)
  rw [lg_entry_eq]
  generalize (lg_sl ([.ref (ad 0), .int a, .ref aO]) ++ List.replicate (4 - (lg_sl ([.ref (ad 0), .int a, .ref aO])).length) Slot.unset).toArray = ls at hl ⊢
  have hl : lv_has ls 4 [(0, .ref (ad 0)), (1, .int a), (2, .ref aO)] := hl
  have hP := q_J_W hJ
  have hS : va_S (q_AL ad aO) s.heap s.heap [] := va_S.rf
  obtain ⟨m9, meth9, c9, g1, g2, g3, -, -, g4, -⟩ := Cond.codeWith_spec (hts0 _ List.mem_cons_self)
  cases B.named.symm.trans g1
  cases B.method.symm.trans g2
  cases (Stand.of_body B).code.symm.trans g3
  obtain ⟨e1, e2, hes, f1, f2⟩ := q_es2 g4
  simp only [Prod.mk.injEq] at f1
  simp only [Prod.mk.injEq] at f2
  refine lv_aload_n hx hb dw_empty_0 rfl (lv_at hl 2 rfl) ?_
  refine lv_iconst (v := 0) hx hb dw_empty_1 (by decide) ?_
  refine lv_aload_n hx hb dw_empty_2 rfl (lv_at hl 0 rfl) ?_
  refine lv_iload_n hx hb dw_empty_3 rfl (lv_at hl 1 rfl) ?_
  refine q_utry hfl (j := 85) (ro := 0) (idx := 72) (x := 0) (hpc := 15) (as := [.inl a]) (rest := [.int 0, .ref aO]) (A0 := q_AL ad aO) ⟨hx, hb, hml, hown, hts⟩ hSt.1 (by decide) (by decide) rfl hq rfl rfl (q_inAt lw_empty rfl) (Nat.le_refl _) (Nat.le_refl _) (Nat.le_refl _) (Nat.le_refl _) hP hS (fun q z => Or.inl z) (fun U hU hW => ⟨q_Sta_at hSt va_S.rf hU hW, q_Thr_at hThr hP va_S.rf hU hW⟩) hl.1 rfl (Nat.le_of_ble_eq_true rfl) dw_empty_4 hes ?_ (fun ex H1 locs1 hP1 hz hk hS1 => ?_)
  · intro U g ex ce z1 z2 z3 z4 z5 z6 hpl
    refine q_fg_pass (x := e1) (own := "CashRecyclerLaw") (X := q_exN 0) (Y := "java/lang/IllegalStateException") hpl z4 (by rw [z5]; exact hown) (by simp [covers, f1, z6]) (by rw [f1.2.2.2]; decide) (by rw [f1.2.2.2]; exact hts _ (q_inAt cl_15 rfl)) (by first | exact z1 | exact z1) z2 z3 (hNc _ (by decide +kernel) _ (by decide +kernel) (by decide +kernel)) (fun vm1 z4 => ?_)
    have key := q_fg_hit (e := e) (U := (U.setVm vm1)) (f := g) (a := ex) (x := e2) (t := []) (own := "CashRecyclerLaw") (X := q_exN 0) (args := _) hpl z4 (by rw [z5]; exact hown) (by simp [covers, f2, z6]) (by rw [f2.2.2.2]; decide) (by rw [f2.2.2.2]; exact hts _ (q_inAt cl_13 rfl)) z1 z2 z3 (hThr.1.1 _ (by decide +kernel))
    rw [f2.2.2.1] at key
    exact key
  · have hJ1 : va_P D qCl (q_J ad cI cZ cQ aO cL h' o) H1 := q_J_mk hP1 (by rw [hk aO (Array.getElem?_eq_some_iff.mp (q_J_O hJ)).1 hO]; exact q_J_O hJ)
    refine lv_astore_n hx hb dw_empty_15 rfl hl (by decide) rfl (fun ls9 hl9 => ?_)
    refine lv_iconst (v := 2) hx hb dw_empty_16 (by decide) ?_
    exact W.iret hx hb hr (fun t ht _ => ⟨⟨2, (), rfl, rfl, by show va_P _ _ _ t.heap; rw [ht]; exact hJ1⟩, hS1.F ht⟩) hS1.2.2 dw_empty_17
theorem dw_notes_0 : decode method_20_code 0 = .ok (.aload_n 3, 1) := by decide +kernel
theorem dw_notes_1 : decode method_20_code 1 = .ok (.iconst 0, 1) := by decide +kernel
theorem dw_notes_2 : decode method_20_code 2 = .ok (.aload_n 0, 1) := by decide +kernel
theorem dw_notes_3 : decode method_20_code 3 = .ok (.iload_n 1, 1) := by decide +kernel
theorem dw_notes_4 : decode method_20_code 4 = .ok (.iload_n 2, 1) := by decide +kernel
theorem dw_notes_5 : decode method_20_code 5 = .ok (.invokevirtual 75, 3) := by decide +kernel
theorem dw_notes_8 : decode method_20_code 8 = .ok (.i2l, 1) := by decide +kernel
theorem dw_notes_9 : decode method_20_code 9 = .ok (.lastore, 1) := by decide +kernel
theorem dw_notes_10 : decode method_20_code 10 = .ok (.goto 7, 3) := by decide +kernel
theorem dw_notes_13 : decode method_20_code 13 = .ok (.astore 4, 2) := by decide +kernel
theorem dw_notes_15 : decode method_20_code 15 = .ok (.iconst 1, 1) := by decide +kernel
theorem dw_notes_16 : decode method_20_code 16 = .ok (.ireturn, 1) := by decide +kernel
theorem dw_notes_17 : decode method_20_code 17 = .ok (.iconst 0, 1) := by decide +kernel
theorem dw_notes_18 : decode method_20_code 18 = .ok (.ireturn, 1) := by decide +kernel
theorem lw_notes : lw_tbl[722]? = some (.methodLink "CashRecyclerLaw" 75 (qmY 88)) := by decide +kernel
abbrev yw_notes : MethodName := ⟨"CashRecyclerLaw", "notes", "(LCashRecycler;II[J)I"⟩
def ws_notes : List Cond := .codeWith yw_notes method_20_code 5 (some .int) [(0, 10, 13, 13)] :: q_WS
def rw_notes : Room := { frames := qmF 88 + 1, cells := 1, slots := 6, locals := 8 + (qmL 88 + 11) + qmW 88 }
set_option maxHeartbeats 4000000 in
theorem w_notes_r {l : Launch} {D : va_G} {ad : Nat → Nat} {cI cZ cQ : ClassId} {aO : Nat} {cL : ClassId} {h h' : HP} {o : Int64} {a b : Int32} {v : Int32} (hq : Ec 88 [.inr 0, .inl a, .inl b] h (.inl (some v), h')) : q_MetL l D ad cI cZ cQ aO cL yw_notes ws_notes rw_notes [.ref (ad 0), .int a, .int b, .ref aO] h o 0 h' v.toInt64 := by
  refine va_MetW (cc := method_20_code) (maxL := 5) (ret := some .int) q_pl rfl ?_
  intro p e s m args below meth c s₁ B hml hv
  obtain ⟨rfl, hJ, hSt, hThr, hKL, hNc, hO⟩ := hv
  have hx := B.exec
  have hb := B.bytes
  have hr := B.returns
  have hts0 := atoms_spec (ws := ws_notes) B.pre
  have hts : ∀ w ∈ q_WS, w.before _ s = true := fun w hw => hts0 w (List.mem_cons_of_mem _ hw)
  have hown : s.vm.findClass "CashRecyclerLaw" = some m.cls := findClass_of_methodNamed B.named
  have hlk := B.notSynchronized
  have hl := lv_entry ([.ref (ad 0), .int a, .int b, .ref aO]) (n := 5) (Nat.le_of_ble_eq_true rfl)
  rw [lg_entry_eq]
  generalize (lg_sl ([.ref (ad 0), .int a, .int b, .ref aO]) ++ List.replicate (5 - (lg_sl ([.ref (ad 0), .int a, .int b, .ref aO])).length) Slot.unset).toArray = ls at hl ⊢
  have hl : lv_has ls 5 [(0, .ref (ad 0)), (1, .int a), (2, .int b), (3, .ref aO)] := hl
  have hP := q_J_W hJ
  have hS : va_S (q_AL ad aO) s.heap s.heap [] := va_S.rf
  refine lv_aload_n hx hb dw_notes_0 rfl (lv_at hl 3 rfl) ?_
  refine lv_iconst (v := 0) hx hb dw_notes_1 (by decide) ?_
  refine lv_aload_n hx hb dw_notes_2 rfl (lv_at hl 0 rfl) ?_
  refine lv_iload_n hx hb dw_notes_3 rfl (lv_at hl 1 rfl) ?_
  refine lv_iload_n hx hb dw_notes_4 rfl (lv_at hl 2 rfl) ?_
  refine q_ucall (j := 88) (ro := 0) (idx := 75) (as := [.inl a, .inl b]) (rest := [.int 0, .ref aO]) (A0 := q_AL ad aO) ⟨hx, hb, hml, hown, hts⟩ hSt.1 (by decide) (by decide) rfl hq rfl rfl (q_inAt lw_notes rfl) (Nat.le_refl _) (Nat.le_refl _) (Nat.zero_le _) (Nat.zero_le _) hP hS (fun q z => Or.inl z) (fun U hU hW => q_Sta_at hSt va_S.rf hU hW) hl.1 rfl (Nat.le_of_ble_eq_true rfl) dw_notes_5 (fun H1 locs1 hP1 hz hk hS1 => ?_)
  have hJ1 : va_P D qCl (q_J ad cI cZ cQ aO cL h' o) H1 := q_J_mk hP1 (by rw [hk aO (Array.getElem?_eq_some_iff.mp (q_J_O hJ)).1 hO]; exact q_J_O hJ)
  refine lv_i2l (v := v.toInt64) hx hb dw_notes_8 rfl ?_
  refine va_last (D := D) (cl := qCl) (H0 := s.heap) (A := q_AL ad aO) hx hb hKL hJ1 (q_J_D hSt.2.2.2.2 hO (fun _ z => z)) hS1 47 0 q_J_47 rfl q_in01 dw_notes_9 (fun H2 locs2 hP2 hD2 hS2 => ?_)
  have hJ2 : va_P D qCl (q_J ad cI cZ cQ aO cL h' v.toInt64) H2 := q_J_set (by rfl) hP2
  refine lv_goto hx hb dw_notes_10 rfl ?_
  refine lv_iconst (v := 0) hx hb dw_notes_17 (by decide) ?_
  refine W.widen (k := 1) (n := 6) (by omega) (by omega) ?_
  exact W.iret hx hb hr (fun t ht _ => ⟨⟨0, (), rfl, rfl, by show va_P _ _ _ t.heap; rw [ht]; exact hJ2⟩, hS2.F ht⟩) hS2.2.2 dw_notes_18
set_option maxHeartbeats 4000000 in
theorem w_notes_t0 {l : Launch} {D : va_G} {ad : Nat → Nat} {cI cZ cQ : ClassId} {aO : Nat} {cL : ClassId} {h h' : HP} {o : Int64} {a b : Int32} (hfl : ∀ e : Env, l.admits e → e.platform.stackTraces = false) (hq : Ec 88 [.inr 0, .inl a, .inl b] h (.inr 0, h')) : q_MetL l D ad cI cZ cQ aO cL yw_notes ws_notes rw_notes [.ref (ad 0), .int a, .int b, .ref aO] h o 1 h' o := by
  refine va_MetW (cc := method_20_code) (maxL := 5) (ret := some .int) q_pl rfl ?_
  intro p e s m args below meth c s₁ B hml hv
  obtain ⟨rfl, hJ, hSt, hThr, hKL, hNc, hO⟩ := hv
  have hx := B.exec
  have hb := B.bytes
  have hr := B.returns
  have hts0 := atoms_spec (ws := ws_notes) B.pre
  have hts : ∀ w ∈ q_WS, w.before _ s = true := fun w hw => hts0 w (List.mem_cons_of_mem _ hw)
  have hown : s.vm.findClass "CashRecyclerLaw" = some m.cls := findClass_of_methodNamed B.named
  have hlk := B.notSynchronized
  have hl := lv_entry ([.ref (ad 0), .int a, .int b, .ref aO]) (n := 5) (Nat.le_of_ble_eq_true rfl)
  rw [lg_entry_eq]
  generalize (lg_sl ([.ref (ad 0), .int a, .int b, .ref aO]) ++ List.replicate (5 - (lg_sl ([.ref (ad 0), .int a, .int b, .ref aO])).length) Slot.unset).toArray = ls at hl ⊢
  have hl : lv_has ls 5 [(0, .ref (ad 0)), (1, .int a), (2, .int b), (3, .ref aO)] := hl
  have hP := q_J_W hJ
  have hS : va_S (q_AL ad aO) s.heap s.heap [] := va_S.rf
  obtain ⟨m9, meth9, c9, g1, g2, g3, -, -, g4, -⟩ := Cond.codeWith_spec (hts0 _ List.mem_cons_self)
  cases B.named.symm.trans g1
  cases B.method.symm.trans g2
  cases (Stand.of_body B).code.symm.trans g3
  obtain ⟨e1, hes, f1⟩ := q_es1 g4
  simp only [Prod.mk.injEq] at f1
  refine lv_aload_n hx hb dw_notes_0 rfl (lv_at hl 3 rfl) ?_
  refine lv_iconst (v := 0) hx hb dw_notes_1 (by decide) ?_
  refine lv_aload_n hx hb dw_notes_2 rfl (lv_at hl 0 rfl) ?_
  refine lv_iload_n hx hb dw_notes_3 rfl (lv_at hl 1 rfl) ?_
  refine lv_iload_n hx hb dw_notes_4 rfl (lv_at hl 2 rfl) ?_
  refine q_utry hfl (j := 88) (ro := 0) (idx := 75) (x := 0) (hpc := 13) (as := [.inl a, .inl b]) (rest := [.int 0, .ref aO]) (A0 := q_AL ad aO) ⟨hx, hb, hml, hown, hts⟩ hSt.1 (by decide) (by decide) rfl hq rfl rfl (q_inAt lw_notes rfl) (Nat.le_refl _) (Nat.le_refl _) (Nat.le_refl _) (Nat.le_refl _) hP hS (fun q z => Or.inl z) (fun U hU hW => ⟨q_Sta_at hSt va_S.rf hU hW, q_Thr_at hThr hP va_S.rf hU hW⟩) hl.1 rfl (Nat.le_of_ble_eq_true rfl) dw_notes_5 hes ?_ (fun ex H1 locs1 hP1 hz hk hS1 => ?_)
  · intro U g ex ce z1 z2 z3 z4 z5 z6 hpl
    have key := q_fg_hit (e := e) (U := U) (f := g) (a := ex) (x := e1) (t := []) (own := "CashRecyclerLaw") (X := q_exN 0) (args := _) hpl z4 (by rw [z5]; exact hown) (by simp [covers, f1, z6]) (by rw [f1.2.2.2]; decide) (by rw [f1.2.2.2]; exact hts _ (q_inAt cl_13 rfl)) z1 z2 z3 (hThr.1.1 _ (by decide +kernel))
    rw [f1.2.2.1] at key
    exact key
  · have hJ1 : va_P D qCl (q_J ad cI cZ cQ aO cL h' o) H1 := q_J_mk hP1 (by rw [hk aO (Array.getElem?_eq_some_iff.mp (q_J_O hJ)).1 hO]; exact q_J_O hJ)
    refine lv_astore hx hb dw_notes_13 hl (by decide) rfl (fun ls9 hl9 => ?_)
    refine lv_iconst (v := 1) hx hb dw_notes_15 (by decide) ?_
    exact W.iret hx hb hr (fun t ht _ => ⟨⟨1, (), rfl, rfl, by show va_P _ _ _ t.heap; rw [ht]; exact hJ1⟩, hS1.F ht⟩) hS1.2.2 dw_notes_16
theorem dw_cassette_0 : decode method_21_code 0 = .ok (.aload_n 3, 1) := by decide +kernel
theorem dw_cassette_1 : decode method_21_code 1 = .ok (.iconst 0, 1) := by decide +kernel
theorem dw_cassette_2 : decode method_21_code 2 = .ok (.aload_n 0, 1) := by decide +kernel
theorem dw_cassette_3 : decode method_21_code 3 = .ok (.iload_n 1, 1) := by decide +kernel
theorem dw_cassette_4 : decode method_21_code 4 = .ok (.iload_n 2, 1) := by decide +kernel
theorem dw_cassette_5 : decode method_21_code 5 = .ok (.invokevirtual 78, 3) := by decide +kernel
theorem dw_cassette_8 : decode method_21_code 8 = .ok (.i2l, 1) := by decide +kernel
theorem dw_cassette_9 : decode method_21_code 9 = .ok (.lastore, 1) := by decide +kernel
theorem dw_cassette_10 : decode method_21_code 10 = .ok (.goto 7, 3) := by decide +kernel
theorem dw_cassette_13 : decode method_21_code 13 = .ok (.astore 4, 2) := by decide +kernel
theorem dw_cassette_15 : decode method_21_code 15 = .ok (.iconst 1, 1) := by decide +kernel
theorem dw_cassette_16 : decode method_21_code 16 = .ok (.ireturn, 1) := by decide +kernel
theorem dw_cassette_17 : decode method_21_code 17 = .ok (.iconst 0, 1) := by decide +kernel
theorem dw_cassette_18 : decode method_21_code 18 = .ok (.ireturn, 1) := by decide +kernel
theorem lw_cassette : lw_tbl[729]? = some (.methodLink "CashRecyclerLaw" 78 (qmY 89)) := by decide +kernel
abbrev yw_cassette : MethodName := ⟨"CashRecyclerLaw", "cassette", "(LCashRecycler;II[J)I"⟩
def ws_cassette : List Cond := .codeWith yw_cassette method_21_code 5 (some .int) [(0, 10, 13, 13)] :: q_WS
def rw_cassette : Room := { frames := qmF 89 + 1, cells := 1, slots := 6, locals := 8 + (qmL 89 + 11) + qmW 89 }
set_option maxHeartbeats 4000000 in
theorem w_cassette_r {l : Launch} {D : va_G} {ad : Nat → Nat} {cI cZ cQ : ClassId} {aO : Nat} {cL : ClassId} {h h' : HP} {o : Int64} {a b : Int32} {v : Int32} (hq : Ec 89 [.inr 0, .inl a, .inl b] h (.inl (some v), h')) : q_MetL l D ad cI cZ cQ aO cL yw_cassette ws_cassette rw_cassette [.ref (ad 0), .int a, .int b, .ref aO] h o 0 h' v.toInt64 := by
  refine va_MetW (cc := method_21_code) (maxL := 5) (ret := some .int) q_pl rfl ?_
  intro p e s m args below meth c s₁ B hml hv
  obtain ⟨rfl, hJ, hSt, hThr, hKL, hNc, hO⟩ := hv
  have hx := B.exec
  have hb := B.bytes
  have hr := B.returns
  have hts0 := atoms_spec (ws := ws_cassette) B.pre
  have hts : ∀ w ∈ q_WS, w.before _ s = true := fun w hw => hts0 w (List.mem_cons_of_mem _ hw)
  have hown : s.vm.findClass "CashRecyclerLaw" = some m.cls := findClass_of_methodNamed B.named
  have hlk := B.notSynchronized
  have hl := lv_entry ([.ref (ad 0), .int a, .int b, .ref aO]) (n := 5) (Nat.le_of_ble_eq_true rfl)
  rw [lg_entry_eq]
  generalize (lg_sl ([.ref (ad 0), .int a, .int b, .ref aO]) ++ List.replicate (5 - (lg_sl ([.ref (ad 0), .int a, .int b, .ref aO])).length) Slot.unset).toArray = ls at hl ⊢
  have hl : lv_has ls 5 [(0, .ref (ad 0)), (1, .int a), (2, .int b), (3, .ref aO)] := hl
  have hP := q_J_W hJ
  have hS : va_S (q_AL ad aO) s.heap s.heap [] := va_S.rf
  refine lv_aload_n hx hb dw_cassette_0 rfl (lv_at hl 3 rfl) ?_
  refine lv_iconst (v := 0) hx hb dw_cassette_1 (by decide) ?_
  refine lv_aload_n hx hb dw_cassette_2 rfl (lv_at hl 0 rfl) ?_
  refine lv_iload_n hx hb dw_cassette_3 rfl (lv_at hl 1 rfl) ?_
  refine lv_iload_n hx hb dw_cassette_4 rfl (lv_at hl 2 rfl) ?_
  refine q_ucall (j := 89) (ro := 0) (idx := 78) (as := [.inl a, .inl b]) (rest := [.int 0, .ref aO]) (A0 := q_AL ad aO) ⟨hx, hb, hml, hown, hts⟩ hSt.1 (by decide) (by decide) rfl hq rfl rfl (q_inAt lw_cassette rfl) (Nat.le_refl _) (Nat.le_refl _) (Nat.zero_le _) (Nat.zero_le _) hP hS (fun q z => Or.inl z) (fun U hU hW => q_Sta_at hSt va_S.rf hU hW) hl.1 rfl (Nat.le_of_ble_eq_true rfl) dw_cassette_5 (fun H1 locs1 hP1 hz hk hS1 => ?_)
  have hJ1 : va_P D qCl (q_J ad cI cZ cQ aO cL h' o) H1 := q_J_mk hP1 (by rw [hk aO (Array.getElem?_eq_some_iff.mp (q_J_O hJ)).1 hO]; exact q_J_O hJ)
  refine lv_i2l (v := v.toInt64) hx hb dw_cassette_8 rfl ?_
  refine va_last (D := D) (cl := qCl) (H0 := s.heap) (A := q_AL ad aO) hx hb hKL hJ1 (q_J_D hSt.2.2.2.2 hO (fun _ z => z)) hS1 47 0 q_J_47 rfl q_in01 dw_cassette_9 (fun H2 locs2 hP2 hD2 hS2 => ?_)
  have hJ2 : va_P D qCl (q_J ad cI cZ cQ aO cL h' v.toInt64) H2 := q_J_set (by rfl) hP2
  refine lv_goto hx hb dw_cassette_10 rfl ?_
  refine lv_iconst (v := 0) hx hb dw_cassette_17 (by decide) ?_
  refine W.widen (k := 1) (n := 6) (by omega) (by omega) ?_
  exact W.iret hx hb hr (fun t ht _ => ⟨⟨0, (), rfl, rfl, by show va_P _ _ _ t.heap; rw [ht]; exact hJ2⟩, hS2.F ht⟩) hS2.2.2 dw_cassette_18
set_option maxHeartbeats 4000000 in
theorem w_cassette_t0 {l : Launch} {D : va_G} {ad : Nat → Nat} {cI cZ cQ : ClassId} {aO : Nat} {cL : ClassId} {h h' : HP} {o : Int64} {a b : Int32} (hfl : ∀ e : Env, l.admits e → e.platform.stackTraces = false) (hq : Ec 89 [.inr 0, .inl a, .inl b] h (.inr 0, h')) : q_MetL l D ad cI cZ cQ aO cL yw_cassette ws_cassette rw_cassette [.ref (ad 0), .int a, .int b, .ref aO] h o 1 h' o := by
  refine va_MetW (cc := method_21_code) (maxL := 5) (ret := some .int) q_pl rfl ?_
  intro p e s m args below meth c s₁ B hml hv
  obtain ⟨rfl, hJ, hSt, hThr, hKL, hNc, hO⟩ := hv
  have hx := B.exec
  have hb := B.bytes
  have hr := B.returns
  have hts0 := atoms_spec (ws := ws_cassette) B.pre
  have hts : ∀ w ∈ q_WS, w.before _ s = true := fun w hw => hts0 w (List.mem_cons_of_mem _ hw)
  have hown : s.vm.findClass "CashRecyclerLaw" = some m.cls := findClass_of_methodNamed B.named
  have hlk := B.notSynchronized
  have hl := lv_entry ([.ref (ad 0), .int a, .int b, .ref aO]) (n := 5) (Nat.le_of_ble_eq_true rfl)
  rw [lg_entry_eq]
  generalize (lg_sl ([.ref (ad 0), .int a, .int b, .ref aO]) ++ List.replicate (5 - (lg_sl ([.ref (ad 0), .int a, .int b, .ref aO])).length) Slot.unset).toArray = ls at hl ⊢
  have hl : lv_has ls 5 [(0, .ref (ad 0)), (1, .int a), (2, .int b), (3, .ref aO)] := hl
  have hP := q_J_W hJ
  have hS : va_S (q_AL ad aO) s.heap s.heap [] := va_S.rf
  obtain ⟨m9, meth9, c9, g1, g2, g3, -, -, g4, -⟩ := Cond.codeWith_spec (hts0 _ List.mem_cons_self)
  cases B.named.symm.trans g1
  cases B.method.symm.trans g2
  cases (Stand.of_body B).code.symm.trans g3
  obtain ⟨e1, hes, f1⟩ := q_es1 g4
  simp only [Prod.mk.injEq] at f1
  refine lv_aload_n hx hb dw_cassette_0 rfl (lv_at hl 3 rfl) ?_
  refine lv_iconst (v := 0) hx hb dw_cassette_1 (by decide) ?_
  refine lv_aload_n hx hb dw_cassette_2 rfl (lv_at hl 0 rfl) ?_
  refine lv_iload_n hx hb dw_cassette_3 rfl (lv_at hl 1 rfl) ?_
  refine lv_iload_n hx hb dw_cassette_4 rfl (lv_at hl 2 rfl) ?_
  refine q_utry hfl (j := 89) (ro := 0) (idx := 78) (x := 0) (hpc := 13) (as := [.inl a, .inl b]) (rest := [.int 0, .ref aO]) (A0 := q_AL ad aO) ⟨hx, hb, hml, hown, hts⟩ hSt.1 (by decide) (by decide) rfl hq rfl rfl (q_inAt lw_cassette rfl) (Nat.le_refl _) (Nat.le_refl _) (Nat.le_refl _) (Nat.le_refl _) hP hS (fun q z => Or.inl z) (fun U hU hW => ⟨q_Sta_at hSt va_S.rf hU hW, q_Thr_at hThr hP va_S.rf hU hW⟩) hl.1 rfl (Nat.le_of_ble_eq_true rfl) dw_cassette_5 hes ?_ (fun ex H1 locs1 hP1 hz hk hS1 => ?_)
  · intro U g ex ce z1 z2 z3 z4 z5 z6 hpl
    have key := q_fg_hit (e := e) (U := U) (f := g) (a := ex) (x := e1) (t := []) (own := "CashRecyclerLaw") (X := q_exN 0) (args := _) hpl z4 (by rw [z5]; exact hown) (by simp [covers, f1, z6]) (by rw [f1.2.2.2]; decide) (by rw [f1.2.2.2]; exact hts _ (q_inAt cl_13 rfl)) z1 z2 z3 (hThr.1.1 _ (by decide +kernel))
    rw [f1.2.2.1] at key
    exact key
  · have hJ1 : va_P D qCl (q_J ad cI cZ cQ aO cL h' o) H1 := q_J_mk hP1 (by rw [hk aO (Array.getElem?_eq_some_iff.mp (q_J_O hJ)).1 hO]; exact q_J_O hJ)
    refine lv_astore hx hb dw_cassette_13 hl (by decide) rfl (fun ls9 hl9 => ?_)
    refine lv_iconst (v := 1) hx hb dw_cassette_15 (by decide) ?_
    exact W.iret hx hb hr (fun t ht _ => ⟨⟨1, (), rfl, rfl, by show va_P _ _ _ t.heap; rw [ht]; exact hJ1⟩, hS1.F ht⟩) hS1.2.2 dw_cassette_16
theorem dw_belt_0 : decode method_22_code 0 = .ok (.aload_n 3, 1) := by decide +kernel
theorem dw_belt_1 : decode method_22_code 1 = .ok (.iconst 0, 1) := by decide +kernel
theorem dw_belt_2 : decode method_22_code 2 = .ok (.aload_n 0, 1) := by decide +kernel
theorem dw_belt_3 : decode method_22_code 3 = .ok (.iload_n 1, 1) := by decide +kernel
theorem dw_belt_4 : decode method_22_code 4 = .ok (.iload_n 2, 1) := by decide +kernel
theorem dw_belt_5 : decode method_22_code 5 = .ok (.invokevirtual 81, 3) := by decide +kernel
theorem dw_belt_8 : decode method_22_code 8 = .ok (.i2l, 1) := by decide +kernel
theorem dw_belt_9 : decode method_22_code 9 = .ok (.lastore, 1) := by decide +kernel
theorem dw_belt_10 : decode method_22_code 10 = .ok (.goto 7, 3) := by decide +kernel
theorem dw_belt_13 : decode method_22_code 13 = .ok (.astore 4, 2) := by decide +kernel
theorem dw_belt_15 : decode method_22_code 15 = .ok (.iconst 1, 1) := by decide +kernel
theorem dw_belt_16 : decode method_22_code 16 = .ok (.ireturn, 1) := by decide +kernel
theorem dw_belt_17 : decode method_22_code 17 = .ok (.iconst 0, 1) := by decide +kernel
theorem dw_belt_18 : decode method_22_code 18 = .ok (.ireturn, 1) := by decide +kernel
theorem lw_belt : lw_tbl[736]? = some (.methodLink "CashRecyclerLaw" 81 (qmY 90)) := by decide +kernel
abbrev yw_belt : MethodName := ⟨"CashRecyclerLaw", "belt", "(LCashRecycler;II[J)I"⟩
def ws_belt : List Cond := .codeWith yw_belt method_22_code 5 (some .int) [(0, 10, 13, 13)] :: q_WS
def rw_belt : Room := { frames := qmF 90 + 1, cells := 1, slots := 6, locals := 8 + (qmL 90 + 11) + qmW 90 }
set_option maxHeartbeats 4000000 in
theorem w_belt_r {l : Launch} {D : va_G} {ad : Nat → Nat} {cI cZ cQ : ClassId} {aO : Nat} {cL : ClassId} {h h' : HP} {o : Int64} {a b : Int32} {v : Int32} (hq : Ec 90 [.inr 0, .inl a, .inl b] h (.inl (some v), h')) : q_MetL l D ad cI cZ cQ aO cL yw_belt ws_belt rw_belt [.ref (ad 0), .int a, .int b, .ref aO] h o 0 h' v.toInt64 := by
  refine va_MetW (cc := method_22_code) (maxL := 5) (ret := some .int) q_pl rfl ?_
  intro p e s m args below meth c s₁ B hml hv
  obtain ⟨rfl, hJ, hSt, hThr, hKL, hNc, hO⟩ := hv
  have hx := B.exec
  have hb := B.bytes
  have hr := B.returns
  have hts0 := atoms_spec (ws := ws_belt) B.pre
  have hts : ∀ w ∈ q_WS, w.before _ s = true := fun w hw => hts0 w (List.mem_cons_of_mem _ hw)
  have hown : s.vm.findClass "CashRecyclerLaw" = some m.cls := findClass_of_methodNamed B.named
  have hlk := B.notSynchronized
  have hl := lv_entry ([.ref (ad 0), .int a, .int b, .ref aO]) (n := 5) (Nat.le_of_ble_eq_true rfl)
  rw [lg_entry_eq]
  generalize (lg_sl ([.ref (ad 0), .int a, .int b, .ref aO]) ++ List.replicate (5 - (lg_sl ([.ref (ad 0), .int a, .int b, .ref aO])).length) Slot.unset).toArray = ls at hl ⊢
  have hl : lv_has ls 5 [(0, .ref (ad 0)), (1, .int a), (2, .int b), (3, .ref aO)] := hl
  have hP := q_J_W hJ
  have hS : va_S (q_AL ad aO) s.heap s.heap [] := va_S.rf
  refine lv_aload_n hx hb dw_belt_0 rfl (lv_at hl 3 rfl) ?_
  refine lv_iconst (v := 0) hx hb dw_belt_1 (by decide) ?_
  refine lv_aload_n hx hb dw_belt_2 rfl (lv_at hl 0 rfl) ?_
  refine lv_iload_n hx hb dw_belt_3 rfl (lv_at hl 1 rfl) ?_
  refine lv_iload_n hx hb dw_belt_4 rfl (lv_at hl 2 rfl) ?_
  refine q_ucall (j := 90) (ro := 0) (idx := 81) (as := [.inl a, .inl b]) (rest := [.int 0, .ref aO]) (A0 := q_AL ad aO) ⟨hx, hb, hml, hown, hts⟩ hSt.1 (by decide) (by decide) rfl hq rfl rfl (q_inAt lw_belt rfl) (Nat.le_refl _) (Nat.le_refl _) (Nat.zero_le _) (Nat.zero_le _) hP hS (fun q z => Or.inl z) (fun U hU hW => q_Sta_at hSt va_S.rf hU hW) hl.1 rfl (Nat.le_of_ble_eq_true rfl) dw_belt_5 (fun H1 locs1 hP1 hz hk hS1 => ?_)
  have hJ1 : va_P D qCl (q_J ad cI cZ cQ aO cL h' o) H1 := q_J_mk hP1 (by rw [hk aO (Array.getElem?_eq_some_iff.mp (q_J_O hJ)).1 hO]; exact q_J_O hJ)
  refine lv_i2l (v := v.toInt64) hx hb dw_belt_8 rfl ?_
  refine va_last (D := D) (cl := qCl) (H0 := s.heap) (A := q_AL ad aO) hx hb hKL hJ1 (q_J_D hSt.2.2.2.2 hO (fun _ z => z)) hS1 47 0 q_J_47 rfl q_in01 dw_belt_9 (fun H2 locs2 hP2 hD2 hS2 => ?_)
  have hJ2 : va_P D qCl (q_J ad cI cZ cQ aO cL h' v.toInt64) H2 := q_J_set (by rfl) hP2
  refine lv_goto hx hb dw_belt_10 rfl ?_
  refine lv_iconst (v := 0) hx hb dw_belt_17 (by decide) ?_
  refine W.widen (k := 1) (n := 6) (by omega) (by omega) ?_
  exact W.iret hx hb hr (fun t ht _ => ⟨⟨0, (), rfl, rfl, by show va_P _ _ _ t.heap; rw [ht]; exact hJ2⟩, hS2.F ht⟩) hS2.2.2 dw_belt_18
set_option maxHeartbeats 4000000 in
theorem w_belt_t0 {l : Launch} {D : va_G} {ad : Nat → Nat} {cI cZ cQ : ClassId} {aO : Nat} {cL : ClassId} {h h' : HP} {o : Int64} {a b : Int32} (hfl : ∀ e : Env, l.admits e → e.platform.stackTraces = false) (hq : Ec 90 [.inr 0, .inl a, .inl b] h (.inr 0, h')) : q_MetL l D ad cI cZ cQ aO cL yw_belt ws_belt rw_belt [.ref (ad 0), .int a, .int b, .ref aO] h o 1 h' o := by
  refine va_MetW (cc := method_22_code) (maxL := 5) (ret := some .int) q_pl rfl ?_
  intro p e s m args below meth c s₁ B hml hv
  obtain ⟨rfl, hJ, hSt, hThr, hKL, hNc, hO⟩ := hv
  have hx := B.exec
  have hb := B.bytes
  have hr := B.returns
  have hts0 := atoms_spec (ws := ws_belt) B.pre
  have hts : ∀ w ∈ q_WS, w.before _ s = true := fun w hw => hts0 w (List.mem_cons_of_mem _ hw)
  have hown : s.vm.findClass "CashRecyclerLaw" = some m.cls := findClass_of_methodNamed B.named
  have hlk := B.notSynchronized
  have hl := lv_entry ([.ref (ad 0), .int a, .int b, .ref aO]) (n := 5) (Nat.le_of_ble_eq_true rfl)
  rw [lg_entry_eq]
  generalize (lg_sl ([.ref (ad 0), .int a, .int b, .ref aO]) ++ List.replicate (5 - (lg_sl ([.ref (ad 0), .int a, .int b, .ref aO])).length) Slot.unset).toArray = ls at hl ⊢
  have hl : lv_has ls 5 [(0, .ref (ad 0)), (1, .int a), (2, .int b), (3, .ref aO)] := hl
  have hP := q_J_W hJ
  have hS : va_S (q_AL ad aO) s.heap s.heap [] := va_S.rf
  obtain ⟨m9, meth9, c9, g1, g2, g3, -, -, g4, -⟩ := Cond.codeWith_spec (hts0 _ List.mem_cons_self)
  cases B.named.symm.trans g1
  cases B.method.symm.trans g2
  cases (Stand.of_body B).code.symm.trans g3
  obtain ⟨e1, hes, f1⟩ := q_es1 g4
  simp only [Prod.mk.injEq] at f1
  refine lv_aload_n hx hb dw_belt_0 rfl (lv_at hl 3 rfl) ?_
  refine lv_iconst (v := 0) hx hb dw_belt_1 (by decide) ?_
  refine lv_aload_n hx hb dw_belt_2 rfl (lv_at hl 0 rfl) ?_
  refine lv_iload_n hx hb dw_belt_3 rfl (lv_at hl 1 rfl) ?_
  refine lv_iload_n hx hb dw_belt_4 rfl (lv_at hl 2 rfl) ?_
  refine q_utry hfl (j := 90) (ro := 0) (idx := 81) (x := 0) (hpc := 13) (as := [.inl a, .inl b]) (rest := [.int 0, .ref aO]) (A0 := q_AL ad aO) ⟨hx, hb, hml, hown, hts⟩ hSt.1 (by decide) (by decide) rfl hq rfl rfl (q_inAt lw_belt rfl) (Nat.le_refl _) (Nat.le_refl _) (Nat.le_refl _) (Nat.le_refl _) hP hS (fun q z => Or.inl z) (fun U hU hW => ⟨q_Sta_at hSt va_S.rf hU hW, q_Thr_at hThr hP va_S.rf hU hW⟩) hl.1 rfl (Nat.le_of_ble_eq_true rfl) dw_belt_5 hes ?_ (fun ex H1 locs1 hP1 hz hk hS1 => ?_)
  · intro U g ex ce z1 z2 z3 z4 z5 z6 hpl
    have key := q_fg_hit (e := e) (U := U) (f := g) (a := ex) (x := e1) (t := []) (own := "CashRecyclerLaw") (X := q_exN 0) (args := _) hpl z4 (by rw [z5]; exact hown) (by simp [covers, f1, z6]) (by rw [f1.2.2.2]; decide) (by rw [f1.2.2.2]; exact hts _ (q_inAt cl_13 rfl)) z1 z2 z3 (hThr.1.1 _ (by decide +kernel))
    rw [f1.2.2.1] at key
    exact key
  · have hJ1 : va_P D qCl (q_J ad cI cZ cQ aO cL h' o) H1 := q_J_mk hP1 (by rw [hk aO (Array.getElem?_eq_some_iff.mp (q_J_O hJ)).1 hO]; exact q_J_O hJ)
    refine lv_astore hx hb dw_belt_13 hl (by decide) rfl (fun ls9 hl9 => ?_)
    refine lv_iconst (v := 1) hx hb dw_belt_15 (by decide) ?_
    exact W.iret hx hb hr (fun t ht _ => ⟨⟨1, (), rfl, rfl, by show va_P _ _ _ t.heap; rw [ht]; exact hJ1⟩, hS1.F ht⟩) hS1.2.2 dw_belt_16
