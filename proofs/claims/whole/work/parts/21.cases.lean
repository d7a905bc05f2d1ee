/-! THE LAW'S CASES, written by our own program (wip/whole/gen_law.py): from a case's first instruction to the loop's end, given what the small method, the reference's method and thrown() come to. -/
theorem dl_148 : decode code 148 = .ok (.aload_n 1, 1) := by decide +kernel
theorem dl_149 : decode code 149 = .ok (.aload_n 0, 1) := by decide +kernel
theorem dl_150 : decode code 150 = .ok (.iload 4, 2) := by decide +kernel
theorem dl_152 : decode code 152 = .ok (.iconst 1, 1) := by decide +kernel
theorem dl_153 : decode code 153 = .ok (.iadd, 1) := by decide +kernel
theorem dl_154 : decode code 154 = .ok (.iaload, 1) := by decide +kernel
theorem dl_155 : decode code 155 = .ok (.aload_n 3, 1) := by decide +kernel
theorem dl_156 : decode code 156 = .ok (.invokestatic 88, 3) := by decide +kernel
theorem dl_159 : decode code 159 = .ok (.istore 5, 2) := by decide +kernel
theorem dl_161 : decode code 161 = .ok (.aload_n 2, 1) := by decide +kernel
theorem dl_162 : decode code 162 = .ok (.aload_n 0, 1) := by decide +kernel
theorem dl_163 : decode code 163 = .ok (.iload 4, 2) := by decide +kernel
theorem dl_165 : decode code 165 = .ok (.iconst 1, 1) := by decide +kernel
theorem dl_166 : decode code 166 = .ok (.iadd, 1) := by decide +kernel
theorem dl_167 : decode code 167 = .ok (.iaload, 1) := by decide +kernel
theorem dl_168 : decode code 168 = .ok (.invokevirtual 93, 3) := by decide +kernel
theorem dl_171 : decode code 171 = .ok (.istore 6, 2) := by decide +kernel
theorem dl_173 : decode code 173 = .ok (.aload_n 2, 1) := by decide +kernel
theorem dl_174 : decode code 174 = .ok (.invokevirtual 94, 3) := by decide +kernel
theorem dl_177 : decode code 177 = .ok (.iload 5, 2) := by decide +kernel
theorem dl_179 : decode code 179 = .ok (.if_icmp .eq 5, 3) := by decide +kernel
theorem dl_184 : decode code 184 = .ok (.iload 5, 2) := by decide +kernel
theorem dl_186 : decode code 186 = .ok (.ifCond .ne 15, 3) := by decide +kernel
theorem dl_189 : decode code 189 = .ok (.aload_n 3, 1) := by decide +kernel
theorem dl_190 : decode code 190 = .ok (.iconst 0, 1) := by decide +kernel
theorem dl_191 : decode code 191 = .ok (.laload, 1) := by decide +kernel
theorem dl_192 : decode code 192 = .ok (.iload 6, 2) := by decide +kernel
theorem dl_194 : decode code 194 = .ok (.i2l, 1) := by decide +kernel
theorem dl_195 : decode code 195 = .ok (.lcmp, 1) := by decide +kernel
theorem dl_196 : decode code 196 = .ok (.ifCond .eq 5, 3) := by decide +kernel
theorem dl_201 : decode code 201 = .ok (.goto 1013, 3) := by decide +kernel
theorem q_nI2 (a : Nat) : nI a + 2 = nI (a + 2) := nI_add a 2
theorem q_cmp0 (x : Int64) : lg_cmp x x = 0 := by simp [lg_cmp]
theorem ll_93 : lw_tbl[826]? = some (.methodLink "CashRecyclerLaw" 93 (qmY 96)) := by decide +kernel
theorem ll_94 : lw_tbl[822]? = some (.methodLink "CashRecyclerLaw" 94 (qmY 92)) := by decide +kernel
theorem lc_insert_w : lw_tbl[294]? = some (.methodLink "CashRecyclerLaw" 88 yw_insert) ∧ lw_tbl[295]? = some (.static yw_insert) ∧ lw_tbl[296]? = some (.codeWith yw_insert method_3_code 4 (some .int) [(0, 9, 12, 13), (0, 9, 15, 15)]) ∧ (parseMethodDescriptor yw_insert.desc).map (fun d => d.parameters.length) = some 3 := by decide +kernel
set_option maxHeartbeats 4000000 in
theorem lc_insert {p : Program} {l : Launch} {e : Env} {s : State} {m : MethodId} {below : List Frame} {meth : Method} {c : Code} {H : Heap} {locs : List Loc} {cells slots : Nat} {Q : State → Prop} {D : va_G} {ad : Nat → Nat} {cI cZ cQ cL : ClassId} {aO b Ln i : Nat} {xs : Nat → Int32} {ls : Array Slot} {h h1 h2 : HP} {o o1 : Int64} (hx : p.tables.exec = Jvm.exec) (hb : c.code = code) (hml : c.maxLocals = 7) (hown : s.vm.findClass "CashRecyclerLaw" = some m.cls) (hts : ∀ w ∈ q_WS, w.before #[Value.ref b] s = true) (hX : va_X b Ln xs s s.heap) (hbl : b < s.heap.size) (hL : q_Law D ad cI cZ cQ aO cL s) (hi : i + 2 < Ln) (hLn : Ln ≤ 1536) (hc : cells + 1 ≤ 664929) (hs : slots + 6 ≤ 7101316) (hl : lv_has ls 7 [(0, .ref b), (1, .ref (ad 0)), (2, .ref (ad 30)), (3, .ref aO), (4, .int (nI i))]) (hJ : va_P D qCl (q_J ad cI cZ cQ aO cL h o) H) (hS : va_S (q_A0 s) s.heap H locs) {k : Int32} {v : Int32} (hW : q_MetL l D ad cI cZ cQ aO cL yw_insert ws_insert rw_insert [.ref (ad 0), .int (xs (i + 1)), .ref aO] h o k h1 o1) (hM : Ec 96 [.inr 30, .inl (xs (i + 1))] h1 (.inl (some v), h2)) (hth : h2 30 0 = k) (hT : Ec 92 [.inr 30] h2 (.inl (some (h2 30 0)), h2)) (hout : k = 0 → o1 = v.toInt64) (kk : ∀ (ls' : Array Slot) (H' : Heap) (locs' : List Loc), lv_has ls' 7 [(0, .ref b), (1, .ref (ad 0)), (2, .ref (ad 30)), (3, .ref aO), (4, .int (nI i))] → va_P D qCl (q_J ad cI cZ cQ aO cL h2 o1) H' → va_S (q_A0 s) s.heap H' locs' → W p l e room_1 s m #[Value.ref b] below meth c H' locs' (cells + 1) (slots + 6) Q (F0 m 1214 ls' [])) : W p l e room_1 s m #[Value.ref b] below meth c H locs cells slots Q (F0 m 148 ls []) := by
  refine lv_aload_n hx hb dl_148 rfl (lv_at hl 1 rfl) ?_
  refine lv_aload_n hx hb dl_149 rfl (lv_at hl 0 rfl) ?_
  refine lv_iload hx hb dl_150 (lv_at hl 4 rfl) ?_
  refine lv_iconst (v := 1) hx hb dl_152 (by decide) ?_
  refine lv_iadd hx hb dl_153 ?_
  rw [nI_1]
  refine va_sld hx hb hX hbl (fun z => by have : s.heap.size ≤ b := z; omega) hS (nI_in (by omega) (by omega)) dl_154 ?_
  rw [nI_clamp (show i + 1 < 2 ^ 31 by omega)]
  refine lv_aload_n hx hb dl_155 rfl (lv_at hl 3 rfl) ?_
  refine q_lcall (idx := 88) ⟨hx, hb, hml, hown, hts⟩ hL hW rfl rfl (by decide +kernel) (by decide +kernel) (q_inAt lc_insert_w.2.2.1 rfl) (q_inAt lc_insert_w.2.1 rfl) (q_inAt lc_insert_w.1 rfl) rfl lc_insert_w.2.2.2 hJ hS hc hs hl.1 rfl dl_156 (fun H1 locs1 hJ1 hS1 => ?_)
  refine lv_istore hx hb dl_159 hl (by decide) rfl (fun ls5 hl => ?_)
  have hl : lv_has ls5 7 [(5, .int k), (0, .ref b), (1, .ref (ad 0)), (2, .ref (ad 30)), (3, .ref aO), (4, .int (nI i))] := hl
  refine lv_aload_n hx hb dl_161 rfl (lv_at hl 3 rfl) ?_
  refine lv_aload_n hx hb dl_162 rfl (lv_at hl 1 rfl) ?_
  refine lv_iload hx hb dl_163 (lv_at hl 5 rfl) ?_
  refine lv_iconst (v := 1) hx hb dl_165 (by decide) ?_
  refine lv_iadd hx hb dl_166 ?_
  rw [nI_1]
  refine va_sld hx hb hX hbl (fun z => by have : s.heap.size ≤ b := z; omega) hS1 (nI_in (by omega) (by omega)) dl_167 ?_
  rw [nI_clamp (show i + 1 < 2 ^ 31 by omega)]
  refine q_ucall (j := 96) (ro := 30) (idx := 93) (as := [.inl (xs (i + 1))]) (rest := []) (A0 := q_A0 s) ⟨hx, hb, hml, hown, hts⟩ hL.1.1 (by decide) (by decide) rfl hM rfl rfl (q_inAt ll_93 rfl) (by decide +kernel) (by decide +kernel) (by show (cells + 1) ≤ 664929; omega) (by show (slots + 6) ≤ 7101316; omega) (q_J_W hJ1) hS1 (fun q z => hL.2.2.2.2.2 q (Or.inl z)) (fun U hU hWU => q_Law_sta hL hS1 hU hWU) hl.1 rfl (Nat.le_of_ble_eq_true rfl) dl_168 (fun G0 gl0 hG0 gz0 gk0 hSg0 => ?_)
  have hJg0 : va_P D qCl (q_J ad cI cZ cQ aO cL h2 o1) G0 := q_J_mk hG0 (by rw [gk0 aO (Array.getElem?_eq_some_iff.mp (q_J_O hJ1)).1 hL.2.2.2.2.1]; exact q_J_O hJ1)
  refine lv_istore hx hb dl_171 hl (by decide) rfl (fun ls6 hl => ?_)
  have hl : lv_has ls6 7 [(6, .int v), (5, .int k), (0, .ref b), (1, .ref (ad 0)), (2, .ref (ad 30)), (3, .ref aO), (4, .int (nI i))] := hl
  refine lv_aload_n hx hb dl_173 rfl (lv_at hl 4 rfl) ?_
  refine q_ucall (j := 92) (ro := 30) (idx := 94) (as := []) (rest := []) (A0 := q_A0 s) ⟨hx, hb, hml, hown, hts⟩ hL.1.1 (by decide) (by decide) rfl hT rfl rfl (q_inAt ll_94 rfl) (by decide +kernel) (by decide +kernel) (by show (cells + 1) ≤ 664929; omega) (by show (slots + 6) ≤ 7101316; omega) (q_J_W hJg0) hSg0 (fun q z => hL.2.2.2.2.2 q (Or.inl z)) (fun U hU hWU => q_Law_sta hL hSg0 hU hWU) hl.1 rfl (Nat.le_of_ble_eq_true rfl) dl_174 (fun G1 gl1 hG1 gz1 gk1 hSg1 => ?_)
  have hJg1 : va_P D qCl (q_J ad cI cZ cQ aO cL h2 o1) G1 := q_J_mk hG1 (by rw [gk1 aO (Array.getElem?_eq_some_iff.mp (q_J_O hJg0)).1 hL.2.2.2.2.1]; exact q_J_O hJg0)
  refine lv_iload hx hb dl_177 (lv_at hl 1 rfl) ?_
  refine lv_icmp_eq hx hb dl_179 rfl (fun _ => ?_) (fun hc9 => absurd hth hc9)
  refine lv_iload hx hb dl_184 (lv_at hl 1 rfl) ?_
  refine lv_if_ne hx hb dl_186 rfl (fun hk0 => ?_) (fun hk0 => ?_)
  · refine lv_goto hx hb dl_201 rfl ?_
    exact kk _ _ _ (lv_sub hl [2, 3, 4, 5, 6] rfl) hJg1 hSg1
  · have ho := hout hk0
    refine lv_aload_n hx hb dl_189 rfl (lv_at hl 5 rfl) ?_
    refine lv_iconst (v := 0) hx hb dl_190 (by decide) ?_
    refine va_lald (D := D) (cl := qCl) hx hb hL.2.2.1 hJg1 47 0 q_J_47 rfl q_in01 dl_191 ?_
    show W _ _ _ _ _ _ _ _ _ _ _ _ _ _ _ (F0 m _ _ [.long o1])
    rw [ho]
    refine lv_iload hx hb dl_192 (lv_at hl 0 rfl) ?_
    refine lv_i2l (v := v.toInt64) hx hb dl_194 rfl ?_
    refine W.lcmp hx hb dl_195 ?_
    rw [q_cmp0]
    refine lv_if_eq hx hb dl_196 rfl (fun _ => ?_) (fun hc9 => absurd rfl hc9)
    refine lv_goto hx hb dl_201 rfl ?_
    exact kk _ _ _ (lv_sub hl [2, 3, 4, 5, 6] rfl) hJg1 hSg1
