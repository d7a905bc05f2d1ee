/-! THE LAW'S CASES, written by our own program (wip/whole/gen_law.py): from a case's first instruction to the loop's end, given what the small method, the reference's method and thrown() come to. -/
theorem q_nI2 (a : Nat) : nI a + 2 = nI (a + 2) := nI_add a 2
theorem q_cmp0 (x : Int64) : lg_cmp x x = 0 := by simp [lg_cmp]
theorem ll_93 : lw_tbl[826]? = some (.methodLink "CashRecyclerLaw" 93 (qmY 96)) := by decide +kernel
theorem ll_94 : lw_tbl[822]? = some (.methodLink "CashRecyclerLaw" 94 (qmY 92)) := by decide +kernel
theorem lc_insert_w : lw_tbl[294]? = some (.methodLink "CashRecyclerLaw" 88 yw_insert) ∧ lw_tbl[295]? = some (.static yw_insert) ∧ lw_tbl[296]? = some (.codeWith yw_insert method_3_code 4 (some .int) [(0, 9, 12, 13), (0, 9, 15, 15)]) ∧ (parseMethodDescriptor yw_insert.desc).map (fun d => d.parameters.length) = some 3 := by decide +kernel
set_option maxHeartbeats 4000000 in
theorem lc_insert {p : Program} {l : Launch} {e : Env} {s : State} {m : MethodId} {below : List Frame} {meth : Method} {c : Code} {H : Heap} {locs : List Loc} {cells slots : Nat} {Q : State → Prop} {D : va_G} {ad : Nat → Nat} {cI cZ cQ cL : ClassId} {aO b Ln i : Nat} {xs : Nat → Int32} {ls : Array Slot} {h h1 h2 : HP} {o o1 : Int64} (hx : p.tables.exec = Jvm.exec) (hb : c.code = code) (hml : c.maxLocals = 7) (hown : s.vm.findClass "CashRecyclerLaw" = some m.cls) (hts : ∀ w ∈ q_WS, w.before #[Value.ref b] s = true) (hX : va_X b Ln xs s s.heap) (hbl : b < s.heap.size) (hL : q_Law D ad cI cZ cQ aO cL s) (hi : i + 2 < Ln) (hLn : Ln ≤ 1536) (hc : cells + 1 ≤ 664929) (hs : slots + 6 ≤ 7101316) (hl : lv_has ls 7 [(0, .ref b), (1, .ref (ad 0)), (2, .ref (ad 30)), (3, .ref aO), (4, .int (nI i))]) (hJ : va_P D qCl (q_J ad cI cZ cQ aO cL h o) H) (hS : va_S (q_A0 s) s.heap H locs) {k : Int32} {v : Int32} (hW : q_MetL l D ad cI cZ cQ aO cL yw_insert ws_insert rw_insert [.ref (ad 0), .int (xs (i + 1)), .ref aO] h o k h1 o1) (hM : Ec 96 [.inr 30, .inl (xs (i + 1))] h1 (.inl (some v), h2)) (hth : h2 30 0 = k) (hT : Ec 92 [.inr 30] h2 (.inl (some (h2 30 0)), h2)) (hout : k = 0 → o1 = v.toInt64) (kk : ∀ (ls' : Array Slot) (H' : Heap) (locs' : List Loc), lv_has ls' 7 [(0, .ref b), (1, .ref (ad 0)), (2, .ref (ad 30)), (3, .ref aO), (4, .int (nI i))] → va_P D qCl (q_J ad cI cZ cQ aO cL h2 o1) H' → va_S (q_A0 s) s.heap H' locs' → W p l e room_1 s m #[Value.ref b] below meth c H' locs' (cells + 1) (slots + 6) Q (F0 m 1214 ls' [])) : W p l e room_1 s m #[Value.ref b] below meth c H locs cells slots Q (F0 m 148 ls []) := by
  refine lv_aload_n hx hb dl_148 rfl (lv_at hl 1 rfl) ?_
  refine lv_aload_n hx hb dl_149 rfl (lv_at hl 0 rfl) ?_
  refine lv_iload hx hb dl_150 (lv_at hl 4 rfl) ?_
  refine lv_iconst (v := 1) hx hb dl_152 (by decide) ?_
  refine lv_iadd hx hb dl_153 ?_
  rw [nI_1]
  refine va_sld hx hb hX hbl (fun z => by have : s.heap.size ≤ b := z; omega) hS (nI_in (by omega) (by omega)) dl_154 ?_
  rw [nI_clamp (show i + 1 < 2 ^ 31 by omega)]
  refine lv_aload_n hx hb dl_155 rfl (lv_at hl 3 rfl) ?_
  refine q_lcall (idx := 88) ⟨hx, hb, hml, hown, hts⟩ hL hW rfl rfl (by decide +kernel) (by decide +kernel) (q_inAt lc_insert_w.2.2.1 rfl) (q_inAt lc_insert_w.2.1 rfl) (q_inAt lc_insert_w.1 rfl) rfl lc_insert_w.2.2.2 hJ hS hc hs hl.1 rfl dl_156 (fun H1 locs1 hJ1 hS1 => ?_)
  refine lv_istore hx hb dl_159 hl (by decide) rfl (fun ls5 hl => ?_)
  have hl : lv_has ls5 7 [(5, .int k), (0, .ref b), (1, .ref (ad 0)), (2, .ref (ad 30)), (3, .ref aO), (4, .int (nI i))] := hl
  refine lv_aload_n hx hb dl_161 rfl (lv_at hl 3 rfl) ?_
  refine lv_aload_n hx hb dl_162 rfl (lv_at hl 1 rfl) ?_
  refine lv_iload hx hb dl_163 (lv_at hl 5 rfl) ?_
  refine lv_iconst (v := 1) hx hb dl_165 (by decide) ?_
  refine lv_iadd hx hb dl_166 ?_
  rw [nI_1]
  refine va_sld hx hb hX hbl (fun z => by have : s.heap.size ≤ b := z; omega) hS1 (nI_in (by omega) (by omega)) dl_167 ?_
  rw [nI_clamp (show i + 1 < 2 ^ 31 by omega)]
  refine q_ucall (j := 96) (ro := 30) (idx := 93) (as := [.inl (xs (i + 1))]) (rest := []) (A0 := q_A0 s) ⟨hx, hb, hml, hown, hts⟩ hL.1.1 (by decide) (by decide) rfl hM rfl rfl (q_inAt ll_93 rfl) (by decide +kernel) (by decide +kernel) (by show (cells + 1) ≤ 664929; omega) (by show (slots + 6) ≤ 7101316; omega) (q_J_W hJ1) hS1 (fun q z => hL.2.2.2.2.2 q (Or.inl z)) (fun U hU hWU => q_Law_sta hL hS1 hU hWU) hl.1 rfl (Nat.le_of_ble_eq_true rfl) dl_168 (fun G0 gl0 hG0 gz0 gk0 hSg0 => ?_)
  have hJg0 : va_P D qCl (q_J ad cI cZ cQ aO cL h2 o1) G0 := q_J_mk hG0 (by rw [gk0 aO (Array.getElem?_eq_some_iff.mp (q_J_O hJ1)).1 hL.2.2.2.2.1]; exact q_J_O hJ1)
  refine lv_istore hx hb dl_171 hl (by decide) rfl (fun ls6 hl => ?_)
  have hl : lv_has ls6 7 [(6, .int v), (5, .int k), (0, .ref b), (1, .ref (ad 0)), (2, .ref (ad 30)), (3, .ref aO), (4, .int (nI i))] := hl
  refine lv_aload_n hx hb dl_173 rfl (lv_at hl 4 rfl) ?_
  refine q_ucall (j := 92) (ro := 30) (idx := 94) (as := []) (rest := []) (A0 := q_A0 s) ⟨hx, hb, hml, hown, hts⟩ hL.1.1 (by decide) (by decide) rfl hT rfl rfl (q_inAt ll_94 rfl) (by decide +kernel) (by decide +kernel) (by show (cells + 1) ≤ 664929; omega) (by show (slots + 6) ≤ 7101316; omega) (q_J_W hJg0) hSg0 (fun q z => hL.2.2.2.2.2 q (Or.inl z)) (fun U hU hWU => q_Law_sta hL hSg0 hU hWU) hl.1 rfl (Nat.le_of_ble_eq_true rfl) dl_174 (fun G1 gl1 hG1 gz1 gk1 hSg1 => ?_)
  have hJg1 : va_P D qCl (q_J ad cI cZ cQ aO cL h2 o1) G1 := q_J_mk hG1 (by rw [gk1 aO (Array.getElem?_eq_some_iff.mp (q_J_O hJg0)).1 hL.2.2.2.2.1]; exact q_J_O hJg0)
  refine lv_iload hx hb dl_177 (lv_at hl 1 rfl) ?_
  refine lv_icmp_eq hx hb dl_179 rfl (fun _ => ?_) (fun hc9 => absurd hth hc9)
  refine lv_iload hx hb dl_184 (lv_at hl 1 rfl) ?_
  refine lv_if_ne hx hb dl_186 rfl (fun hk0 => ?_) (fun hk0 => ?_)
  · refine lv_goto hx hb dl_201 rfl ?_
    exact kk _ _ _ (lv_sub hl [2, 3, 4, 5, 6] rfl) hJg1 hSg1
  · have ho := hout hk0
    refine lv_aload_n hx hb dl_189 rfl (lv_at hl 5 rfl) ?_
    refine lv_iconst (v := 0) hx hb dl_190 (by decide) ?_
    refine va_lald (D := D) (cl := qCl) hx hb hL.2.2.1 hJg1 47 0 q_J_47 rfl q_in01 dl_191 ?_
    show W _ _ _ _ _ _ _ _ _ _ _ _ _ _ _ (F0 m _ _ [.long o1])
    rw [ho]
    refine lv_iload hx hb dl_192 (lv_at hl 0 rfl) ?_
    refine lv_i2l (v := v.toInt64) hx hb dl_194 rfl ?_
    refine W.lcmp hx hb dl_195 ?_
    rw [q_cmp0]
    refine lv_if_eq hx hb dl_196 rfl (fun _ => ?_) (fun hc9 => absurd rfl hc9)
    refine lv_goto hx hb dl_201 rfl ?_
    exact kk _ _ _ (lv_sub hl [2, 3, 4, 5, 6] rfl) hJg1 hSg1
theorem ll_99 : lw_tbl[830]? = some (.methodLink "CashRecyclerLaw" 99 (qmY 97)) := by decide +kernel
theorem lc_verdict_w : lw_tbl[382]? = some (.methodLink "CashRecyclerLaw" 97 yw_verdict) ∧ lw_tbl[383]? = some (.static yw_verdict) ∧ lw_tbl[384]? = some (.codeWith yw_verdict method_4_code 4 (some .int) [(0, 9, 12, 13), (0, 9, 15, 15)]) ∧ (parseMethodDescriptor yw_verdict.desc).map (fun d => d.parameters.length) = some 3 := by decide +kernel
set_option maxHeartbeats 4000000 in
theorem lc_verdict {p : Program} {l : Launch} {e : Env} {s : State} {m : MethodId} {below : List Frame} {meth : Method} {c : Code} {H : Heap} {locs : List Loc} {cells slots : Nat} {Q : State → Prop} {D : va_G} {ad : Nat → Nat} {cI cZ cQ cL : ClassId} {aO b Ln i : Nat} {xs : Nat → Int32} {ls : Array Slot} {h h1 h2 : HP} {o o1 : Int64} (hx : p.tables.exec = Jvm.exec) (hb : c.code = code) (hml : c.maxLocals = 7) (hown : s.vm.findClass "CashRecyclerLaw" = some m.cls) (hts : ∀ w ∈ q_WS, w.before #[Value.ref b] s = true) (hX : va_X b Ln xs s s.heap) (hbl : b < s.heap.size) (hL : q_Law D ad cI cZ cQ aO cL s) (hi : i + 2 < Ln) (hLn : Ln ≤ 1536) (hc : cells + 1 ≤ 664929) (hs : slots + 6 ≤ 7101316) (hl : lv_has ls 7 [(0, .ref b), (1, .ref (ad 0)), (2, .ref (ad 30)), (3, .ref aO), (4, .int (nI i))]) (hJ : va_P D qCl (q_J ad cI cZ cQ aO cL h o) H) (hS : va_S (q_A0 s) s.heap H locs) {k : Int32} {v : Int32} (hW : q_MetL l D ad cI cZ cQ aO cL yw_verdict ws_verdict rw_verdict [.ref (ad 0), .int (xs (i + 1)), .ref aO] h o k h1 o1) (hM : Ec 97 [.inr 30, .inl (xs (i + 1))] h1 (.inl (some v), h2)) (hth : h2 30 0 = k) (hT : Ec 92 [.inr 30] h2 (.inl (some (h2 30 0)), h2)) (hout : k = 0 → o1 = v.toInt64) (kk : ∀ (ls' : Array Slot) (H' : Heap) (locs' : List Loc), lv_has ls' 7 [(0, .ref b), (1, .ref (ad 0)), (2, .ref (ad 30)), (3, .ref aO), (4, .int (nI i))] → va_P D qCl (q_J ad cI cZ cQ aO cL h2 o1) H' → va_S (q_A0 s) s.heap H' locs' → W p l e room_1 s m #[Value.ref b] below meth c H' locs' (cells + 1) (slots + 6) Q (F0 m 1214 ls' [])) : W p l e room_1 s m #[Value.ref b] below meth c H locs cells slots Q (F0 m 204 ls []) := by
  refine lv_aload_n hx hb dl_204 rfl (lv_at hl 1 rfl) ?_
  refine lv_aload_n hx hb dl_205 rfl (lv_at hl 0 rfl) ?_
  refine lv_iload hx hb dl_206 (lv_at hl 4 rfl) ?_
  refine lv_iconst (v := 1) hx hb dl_208 (by decide) ?_
  refine lv_iadd hx hb dl_209 ?_
  rw [nI_1]
  refine va_sld hx hb hX hbl (fun z => by have : s.heap.size ≤ b := z; omega) hS (nI_in (by omega) (by omega)) dl_210 ?_
  rw [nI_clamp (show i + 1 < 2 ^ 31 by omega)]
  refine lv_aload_n hx hb dl_211 rfl (lv_at hl 3 rfl) ?_
  refine q_lcall (idx := 97) ⟨hx, hb, hml, hown, hts⟩ hL hW rfl rfl (by decide +kernel) (by decide +kernel) (q_inAt lc_verdict_w.2.2.1 rfl) (q_inAt lc_verdict_w.2.1 rfl) (q_inAt lc_verdict_w.1 rfl) rfl lc_verdict_w.2.2.2 hJ hS hc hs hl.1 rfl dl_212 (fun H1 locs1 hJ1 hS1 => ?_)
  refine lv_istore hx hb dl_215 hl (by decide) rfl (fun ls5 hl => ?_)
  have hl : lv_has ls5 7 [(5, .int k), (0, .ref b), (1, .ref (ad 0)), (2, .ref (ad 30)), (3, .ref aO), (4, .int (nI i))] := hl
  refine lv_aload_n hx hb dl_217 rfl (lv_at hl 3 rfl) ?_
  refine lv_aload_n hx hb dl_218 rfl (lv_at hl 1 rfl) ?_
  refine lv_iload hx hb dl_219 (lv_at hl 5 rfl) ?_
  refine lv_iconst (v := 1) hx hb dl_221 (by decide) ?_
  refine lv_iadd hx hb dl_222 ?_
  rw [nI_1]
  refine va_sld hx hb hX hbl (fun z => by have : s.heap.size ≤ b := z; omega) hS1 (nI_in (by omega) (by omega)) dl_223 ?_
  rw [nI_clamp (show i + 1 < 2 ^ 31 by omega)]
  refine q_ucall (j := 97) (ro := 30) (idx := 99) (as := [.inl (xs (i + 1))]) (rest := []) (A0 := q_A0 s) ⟨hx, hb, hml, hown, hts⟩ hL.1.1 (by decide) (by decide) rfl hM rfl rfl (q_inAt ll_99 rfl) (by decide +kernel) (by decide +kernel) (by show (cells + 1) ≤ 664929; omega) (by show (slots + 6) ≤ 7101316; omega) (q_J_W hJ1) hS1 (fun q z => hL.2.2.2.2.2 q (Or.inl z)) (fun U hU hWU => q_Law_sta hL hS1 hU hWU) hl.1 rfl (Nat.le_of_ble_eq_true rfl) dl_224 (fun G0 gl0 hG0 gz0 gk0 hSg0 => ?_)
  have hJg0 : va_P D qCl (q_J ad cI cZ cQ aO cL h2 o1) G0 := q_J_mk hG0 (by rw [gk0 aO (Array.getElem?_eq_some_iff.mp (q_J_O hJ1)).1 hL.2.2.2.2.1]; exact q_J_O hJ1)
  refine lv_istore hx hb dl_227 hl (by decide) rfl (fun ls6 hl => ?_)
  have hl : lv_has ls6 7 [(6, .int v), (5, .int k), (0, .ref b), (1, .ref (ad 0)), (2, .ref (ad 30)), (3, .ref aO), (4, .int (nI i))] := hl
  refine lv_aload_n hx hb dl_229 rfl (lv_at hl 4 rfl) ?_
  refine q_ucall (j := 92) (ro := 30) (idx := 94) (as := []) (rest := []) (A0 := q_A0 s) ⟨hx, hb, hml, hown, hts⟩ hL.1.1 (by decide) (by decide) rfl hT rfl rfl (q_inAt ll_94 rfl) (by decide +kernel) (by decide +kernel) (by show (cells + 1) ≤ 664929; omega) (by show (slots + 6) ≤ 7101316; omega) (q_J_W hJg0) hSg0 (fun q z => hL.2.2.2.2.2 q (Or.inl z)) (fun U hU hWU => q_Law_sta hL hSg0 hU hWU) hl.1 rfl (Nat.le_of_ble_eq_true rfl) dl_230 (fun G1 gl1 hG1 gz1 gk1 hSg1 => ?_)
  have hJg1 : va_P D qCl (q_J ad cI cZ cQ aO cL h2 o1) G1 := q_J_mk hG1 (by rw [gk1 aO (Array.getElem?_eq_some_iff.mp (q_J_O hJg0)).1 hL.2.2.2.2.1]; exact q_J_O hJg0)
  refine lv_iload hx hb dl_233 (lv_at hl 1 rfl) ?_
  refine lv_icmp_eq hx hb dl_235 rfl (fun _ => ?_) (fun hc9 => absurd hth hc9)
  refine lv_iload hx hb dl_240 (lv_at hl 1 rfl) ?_
  refine lv_if_ne hx hb dl_242 rfl (fun hk0 => ?_) (fun hk0 => ?_)
  · refine lv_goto hx hb dl_257 rfl ?_
    exact kk _ _ _ (lv_sub hl [2, 3, 4, 5, 6] rfl) hJg1 hSg1
  · have ho := hout hk0
    refine lv_aload_n hx hb dl_245 rfl (lv_at hl 5 rfl) ?_
    refine lv_iconst (v := 0) hx hb dl_246 (by decide) ?_
    refine va_lald (D := D) (cl := qCl) hx hb hL.2.2.1 hJg1 47 0 q_J_47 rfl q_in01 dl_247 ?_
    show W _ _ _ _ _ _ _ _ _ _ _ _ _ _ _ (F0 m _ _ [.long o1])
    rw [ho]
    refine lv_iload hx hb dl_248 (lv_at hl 0 rfl) ?_
    refine lv_i2l (v := v.toInt64) hx hb dl_250 rfl ?_
    refine W.lcmp hx hb dl_251 ?_
    rw [q_cmp0]
    refine lv_if_eq hx hb dl_252 rfl (fun _ => ?_) (fun hc9 => absurd rfl hc9)
    refine lv_goto hx hb dl_257 rfl ?_
    exact kk _ _ _ (lv_sub hl [2, 3, 4, 5, 6] rfl) hJg1 hSg1
theorem ll_103 : lw_tbl[834]? = some (.methodLink "CashRecyclerLaw" 103 (qmY 98)) := by decide +kernel
theorem lc_deposit_w : lw_tbl[397]? = some (.methodLink "CashRecyclerLaw" 100 yw_deposit) ∧ lw_tbl[398]? = some (.static yw_deposit) ∧ lw_tbl[399]? = some (.codeWith yw_deposit method_5_code 2 (some .int) [(0, 4, 7, 15)]) ∧ (parseMethodDescriptor yw_deposit.desc).map (fun d => d.parameters.length) = some 1 := by decide +kernel
set_option maxHeartbeats 4000000 in
theorem lc_deposit {p : Program} {l : Launch} {e : Env} {s : State} {m : MethodId} {below : List Frame} {meth : Method} {c : Code} {H : Heap} {locs : List Loc} {cells slots : Nat} {Q : State → Prop} {D : va_G} {ad : Nat → Nat} {cI cZ cQ cL : ClassId} {aO b Ln i : Nat} {xs : Nat → Int32} {ls : Array Slot} {h h1 h2 : HP} {o o1 : Int64} (hx : p.tables.exec = Jvm.exec) (hb : c.code = code) (hml : c.maxLocals = 7) (hown : s.vm.findClass "CashRecyclerLaw" = some m.cls) (hts : ∀ w ∈ q_WS, w.before #[Value.ref b] s = true) (hX : va_X b Ln xs s s.heap) (hbl : b < s.heap.size) (hL : q_Law D ad cI cZ cQ aO cL s) (hi : i + 2 < Ln) (hLn : Ln ≤ 1536) (hc : cells + 1 ≤ 664929) (hs : slots + 6 ≤ 7101316) (hl : lv_has ls 7 [(0, .ref b), (1, .ref (ad 0)), (2, .ref (ad 30)), (3, .ref aO), (4, .int (nI i))]) (hJ : va_P D qCl (q_J ad cI cZ cQ aO cL h o) H) (hS : va_S (q_A0 s) s.heap H locs) {k : Int32} (hW : q_MetL l D ad cI cZ cQ aO cL yw_deposit ws_deposit rw_deposit [.ref (ad 0)] h o k h1 o1) (hM : Ec 98 [.inr 30] h1 (.inl none, h2)) (hth : h2 30 0 = k) (hT : Ec 92 [.inr 30] h2 (.inl (some (h2 30 0)), h2)) (kk : ∀ (ls' : Array Slot) (H' : Heap) (locs' : List Loc), lv_has ls' 7 [(0, .ref b), (1, .ref (ad 0)), (2, .ref (ad 30)), (3, .ref aO), (4, .int (nI i))] → va_P D qCl (q_J ad cI cZ cQ aO cL h2 o1) H' → va_S (q_A0 s) s.heap H' locs' → W p l e room_1 s m #[Value.ref b] below meth c H' locs' (cells + 1) (slots + 6) Q (F0 m 1214 ls' [])) : W p l e room_1 s m #[Value.ref b] below meth c H locs cells slots Q (F0 m 260 ls []) := by
  refine lv_aload_n hx hb dl_260 rfl (lv_at hl 1 rfl) ?_
  refine q_lcall (idx := 100) ⟨hx, hb, hml, hown, hts⟩ hL hW rfl rfl (by decide +kernel) (by decide +kernel) (q_inAt lc_deposit_w.2.2.1 rfl) (q_inAt lc_deposit_w.2.1 rfl) (q_inAt lc_deposit_w.1 rfl) rfl lc_deposit_w.2.2.2 hJ hS hc hs hl.1 rfl dl_261 (fun H1 locs1 hJ1 hS1 => ?_)
  refine lv_istore hx hb dl_264 hl (by decide) rfl (fun ls5 hl => ?_)
  have hl : lv_has ls5 7 [(5, .int k), (0, .ref b), (1, .ref (ad 0)), (2, .ref (ad 30)), (3, .ref aO), (4, .int (nI i))] := hl
  refine lv_aload_n hx hb dl_266 rfl (lv_at hl 3 rfl) ?_
  refine q_ucall (j := 98) (ro := 30) (idx := 103) (as := []) (rest := []) (A0 := q_A0 s) ⟨hx, hb, hml, hown, hts⟩ hL.1.1 (by decide) (by decide) rfl hM rfl rfl (q_inAt ll_103 rfl) (by decide +kernel) (by decide +kernel) (by show (cells + 1) ≤ 664929; omega) (by show (slots + 6) ≤ 7101316; omega) (q_J_W hJ1) hS1 (fun q z => hL.2.2.2.2.2 q (Or.inl z)) (fun U hU hWU => q_Law_sta hL hS1 hU hWU) hl.1 rfl (Nat.le_of_ble_eq_true rfl) dl_267 (fun G0 gl0 hG0 gz0 gk0 hSg0 => ?_)
  have hJg0 : va_P D qCl (q_J ad cI cZ cQ aO cL h2 o1) G0 := q_J_mk hG0 (by rw [gk0 aO (Array.getElem?_eq_some_iff.mp (q_J_O hJ1)).1 hL.2.2.2.2.1]; exact q_J_O hJ1)
  refine lv_aload_n hx hb dl_270 rfl (lv_at hl 3 rfl) ?_
  refine q_ucall (j := 92) (ro := 30) (idx := 94) (as := []) (rest := []) (A0 := q_A0 s) ⟨hx, hb, hml, hown, hts⟩ hL.1.1 (by decide) (by decide) rfl hT rfl rfl (q_inAt ll_94 rfl) (by decide +kernel) (by decide +kernel) (by show (cells + 1) ≤ 664929; omega) (by show (slots + 6) ≤ 7101316; omega) (q_J_W hJg0) hSg0 (fun q z => hL.2.2.2.2.2 q (Or.inl z)) (fun U hU hWU => q_Law_sta hL hSg0 hU hWU) hl.1 rfl (Nat.le_of_ble_eq_true rfl) dl_271 (fun G1 gl1 hG1 gz1 gk1 hSg1 => ?_)
  have hJg1 : va_P D qCl (q_J ad cI cZ cQ aO cL h2 o1) G1 := q_J_mk hG1 (by rw [gk1 aO (Array.getElem?_eq_some_iff.mp (q_J_O hJg0)).1 hL.2.2.2.2.1]; exact q_J_O hJg0)
  refine lv_iload hx hb dl_274 (lv_at hl 0 rfl) ?_
  refine lv_icmp_eq hx hb dl_276 rfl (fun _ => ?_) (fun hc9 => absurd hth hc9)
  refine lv_goto hx hb dl_281 rfl ?_
  exact kk _ _ _ (lv_sub hl [1, 2, 3, 4, 5] rfl) hJg1 hSg1
theorem ll_106 : lw_tbl[841]? = some (.methodLink "CashRecyclerLaw" 106 (qmY 99)) := by decide +kernel
theorem lc_confirm_w : lw_tbl[409]? = some (.methodLink "CashRecyclerLaw" 104 yw_confirm) ∧ lw_tbl[410]? = some (.static yw_confirm) ∧ lw_tbl[411]? = some (.codeWith yw_confirm method_6_code 2 (some .int) [(0, 4, 7, 15)]) ∧ (parseMethodDescriptor yw_confirm.desc).map (fun d => d.parameters.length) = some 1 := by decide +kernel
set_option maxHeartbeats 4000000 in
theorem lc_confirm {p : Program} {l : Launch} {e : Env} {s : State} {m : MethodId} {below : List Frame} {meth : Method} {c : Code} {H : Heap} {locs : List Loc} {cells slots : Nat} {Q : State → Prop} {D : va_G} {ad : Nat → Nat} {cI cZ cQ cL : ClassId} {aO b Ln i : Nat} {xs : Nat → Int32} {ls : Array Slot} {h h1 h2 : HP} {o o1 : Int64} (hx : p.tables.exec = Jvm.exec) (hb : c.code = code) (hml : c.maxLocals = 7) (hown : s.vm.findClass "CashRecyclerLaw" = some m.cls) (hts : ∀ w ∈ q_WS, w.before #[Value.ref b] s = true) (hX : va_X b Ln xs s s.heap) (hbl : b < s.heap.size) (hL : q_Law D ad cI cZ cQ aO cL s) (hi : i + 2 < Ln) (hLn : Ln ≤ 1536) (hc : cells + 1 ≤ 664929) (hs : slots + 6 ≤ 7101316) (hl : lv_has ls 7 [(0, .ref b), (1, .ref (ad 0)), (2, .ref (ad 30)), (3, .ref aO), (4, .int (nI i))]) (hJ : va_P D qCl (q_J ad cI cZ cQ aO cL h o) H) (hS : va_S (q_A0 s) s.heap H locs) {k : Int32} (hW : q_MetL l D ad cI cZ cQ aO cL yw_confirm ws_confirm rw_confirm [.ref (ad 0)] h o k h1 o1) (hM : Ec 99 [.inr 30] h1 (.inl none, h2)) (hth : h2 30 0 = k) (hT : Ec 92 [.inr 30] h2 (.inl (some (h2 30 0)), h2)) (kk : ∀ (ls' : Array Slot) (H' : Heap) (locs' : List Loc), lv_has ls' 7 [(0, .ref b), (1, .ref (ad 0)), (2, .ref (ad 30)), (3, .ref aO), (4, .int (nI i))] → va_P D qCl (q_J ad cI cZ cQ aO cL h2 o1) H' → va_S (q_A0 s) s.heap H' locs' → W p l e room_1 s m #[Value.ref b] below meth c H' locs' (cells + 1) (slots + 6) Q (F0 m 1214 ls' [])) : W p l e room_1 s m #[Value.ref b] below meth c H locs cells slots Q (F0 m 284 ls []) := by
  refine lv_aload_n hx hb dl_284 rfl (lv_at hl 1 rfl) ?_
  refine q_lcall (idx := 104) ⟨hx, hb, hml, hown, hts⟩ hL hW rfl rfl (by decide +kernel) (by decide +kernel) (q_inAt lc_confirm_w.2.2.1 rfl) (q_inAt lc_confirm_w.2.1 rfl) (q_inAt lc_confirm_w.1 rfl) rfl lc_confirm_w.2.2.2 hJ hS hc hs hl.1 rfl dl_285 (fun H1 locs1 hJ1 hS1 => ?_)
  refine lv_istore hx hb dl_288 hl (by decide) rfl (fun ls5 hl => ?_)
  have hl : lv_has ls5 7 [(5, .int k), (0, .ref b), (1, .ref (ad 0)), (2, .ref (ad 30)), (3, .ref aO), (4, .int (nI i))] := hl
  refine lv_aload_n hx hb dl_290 rfl (lv_at hl 3 rfl) ?_
  refine q_ucall (j := 99) (ro := 30) (idx := 106) (as := []) (rest := []) (A0 := q_A0 s) ⟨hx, hb, hml, hown, hts⟩ hL.1.1 (by decide) (by decide) rfl hM rfl rfl (q_inAt ll_106 rfl) (by decide +kernel) (by decide +kernel) (by show (cells + 1) ≤ 664929; omega) (by show (slots + 6) ≤ 7101316; omega) (q_J_W hJ1) hS1 (fun q z => hL.2.2.2.2.2 q (Or.inl z)) (fun U hU hWU => q_Law_sta hL hS1 hU hWU) hl.1 rfl (Nat.le_of_ble_eq_true rfl) dl_291 (fun G0 gl0 hG0 gz0 gk0 hSg0 => ?_)
  have hJg0 : va_P D qCl (q_J ad cI cZ cQ aO cL h2 o1) G0 := q_J_mk hG0 (by rw [gk0 aO (Array.getElem?_eq_some_iff.mp (q_J_O hJ1)).1 hL.2.2.2.2.1]; exact q_J_O hJ1)
  refine lv_aload_n hx hb dl_294 rfl (lv_at hl 3 rfl) ?_
  refine q_ucall (j := 92) (ro := 30) (idx := 94) (as := []) (rest := []) (A0 := q_A0 s) ⟨hx, hb, hml, hown, hts⟩ hL.1.1 (by decide) (by decide) rfl hT rfl rfl (q_inAt ll_94 rfl) (by decide +kernel) (by decide +kernel) (by show (cells + 1) ≤ 664929; omega) (by show (slots + 6) ≤ 7101316; omega) (q_J_W hJg0) hSg0 (fun q z => hL.2.2.2.2.2 q (Or.inl z)) (fun U hU hWU => q_Law_sta hL hSg0 hU hWU) hl.1 rfl (Nat.le_of_ble_eq_true rfl) dl_295 (fun G1 gl1 hG1 gz1 gk1 hSg1 => ?_)
  have hJg1 : va_P D qCl (q_J ad cI cZ cQ aO cL h2 o1) G1 := q_J_mk hG1 (by rw [gk1 aO (Array.getElem?_eq_some_iff.mp (q_J_O hJg0)).1 hL.2.2.2.2.1]; exact q_J_O hJg0)
  refine lv_iload hx hb dl_298 (lv_at hl 0 rfl) ?_
  refine lv_icmp_eq hx hb dl_300 rfl (fun _ => ?_) (fun hc9 => absurd hth hc9)
  refine lv_goto hx hb dl_305 rfl ?_
  exact kk _ _ _ (lv_sub hl [1, 2, 3, 4, 5] rfl) hJg1 hSg1
theorem ll_109 : lw_tbl[845]? = some (.methodLink "CashRecyclerLaw" 109 (qmY 100)) := by decide +kernel
theorem lc_giveBack_w : lw_tbl[416]? = some (.methodLink "CashRecyclerLaw" 107 yw_giveBack) ∧ lw_tbl[417]? = some (.static yw_giveBack) ∧ lw_tbl[418]? = some (.codeWith yw_giveBack method_7_code 2 (some .int) [(0, 4, 7, 15)]) ∧ (parseMethodDescriptor yw_giveBack.desc).map (fun d => d.parameters.length) = some 1 := by decide +kernel
set_option maxHeartbeats 4000000 in
theorem lc_giveBack {p : Program} {l : Launch} {e : Env} {s : State} {m : MethodId} {below : List Frame} {meth : Method} {c : Code} {H : Heap} {locs : List Loc} {cells slots : Nat} {Q : State → Prop} {D : va_G} {ad : Nat → Nat} {cI cZ cQ cL : ClassId} {aO b Ln i : Nat} {xs : Nat → Int32} {ls : Array Slot} {h h1 h2 : HP} {o o1 : Int64} (hx : p.tables.exec = Jvm.exec) (hb : c.code = code) (hml : c.maxLocals = 7) (hown : s.vm.findClass "CashRecyclerLaw" = some m.cls) (hts : ∀ w ∈ q_WS, w.before #[Value.ref b] s = true) (hX : va_X b Ln xs s s.heap) (hbl : b < s.heap.size) (hL : q_Law D ad cI cZ cQ aO cL s) (hi : i + 2 < Ln) (hLn : Ln ≤ 1536) (hc : cells + 1 ≤ 664929) (hs : slots + 6 ≤ 7101316) (hl : lv_has ls 7 [(0, .ref b), (1, .ref (ad 0)), (2, .ref (ad 30)), (3, .ref aO), (4, .int (nI i))]) (hJ : va_P D qCl (q_J ad cI cZ cQ aO cL h o) H) (hS : va_S (q_A0 s) s.heap H locs) {k : Int32} (hW : q_MetL l D ad cI cZ cQ aO cL yw_giveBack ws_giveBack rw_giveBack [.ref (ad 0)] h o k h1 o1) (hM : Ec 100 [.inr 30] h1 (.inl none, h2)) (hth : h2 30 0 = k) (hT : Ec 92 [.inr 30] h2 (.inl (some (h2 30 0)), h2)) (kk : ∀ (ls' : Array Slot) (H' : Heap) (locs' : List Loc), lv_has ls' 7 [(0, .ref b), (1, .ref (ad 0)), (2, .ref (ad 30)), (3, .ref aO), (4, .int (nI i))] → va_P D qCl (q_J ad cI cZ cQ aO cL h2 o1) H' → va_S (q_A0 s) s.heap H' locs' → W p l e room_1 s m #[Value.ref b] below meth c H' locs' (cells + 1) (slots + 6) Q (F0 m 1214 ls' [])) : W p l e room_1 s m #[Value.ref b] below meth c H locs cells slots Q (F0 m 308 ls []) := by
  refine lv_aload_n hx hb dl_308 rfl (lv_at hl 1 rfl) ?_
  refine q_lcall (idx := 107) ⟨hx, hb, hml, hown, hts⟩ hL hW rfl rfl (by decide +kernel) (by decide +kernel) (q_inAt lc_giveBack_w.2.2.1 rfl) (q_inAt lc_giveBack_w.2.1 rfl) (q_inAt lc_giveBack_w.1 rfl) rfl lc_giveBack_w.2.2.2 hJ hS hc hs hl.1 rfl dl_309 (fun H1 locs1 hJ1 hS1 => ?_)
  refine lv_istore hx hb dl_312 hl (by decide) rfl (fun ls5 hl => ?_)
  have hl : lv_has ls5 7 [(5, .int k), (0, .ref b), (1, .ref (ad 0)), (2, .ref (ad 30)), (3, .ref aO), (4, .int (nI i))] := hl
  refine lv_aload_n hx hb dl_314 rfl (lv_at hl 3 rfl) ?_
  refine q_ucall (j := 100) (ro := 30) (idx := 109) (as := []) (rest := []) (A0 := q_A0 s) ⟨hx, hb, hml, hown, hts⟩ hL.1.1 (by decide) (by decide) rfl hM rfl rfl (q_inAt ll_109 rfl) (by decide +kernel) (by decide +kernel) (by show (cells + 1) ≤ 664929; omega) (by show (slots + 6) ≤ 7101316; omega) (q_J_W hJ1) hS1 (fun q z => hL.2.2.2.2.2 q (Or.inl z)) (fun U hU hWU => q_Law_sta hL hS1 hU hWU) hl.1 rfl (Nat.le_of_ble_eq_true rfl) dl_315 (fun G0 gl0 hG0 gz0 gk0 hSg0 => ?_)
  have hJg0 : va_P D qCl (q_J ad cI cZ cQ aO cL h2 o1) G0 := q_J_mk hG0 (by rw [gk0 aO (Array.getElem?_eq_some_iff.mp (q_J_O hJ1)).1 hL.2.2.2.2.1]; exact q_J_O hJ1)
  refine lv_aload_n hx hb dl_318 rfl (lv_at hl 3 rfl) ?_
  refine q_ucall (j := 92) (ro := 30) (idx := 94) (as := []) (rest := []) (A0 := q_A0 s) ⟨hx, hb, hml, hown, hts⟩ hL.1.1 (by decide) (by decide) rfl hT rfl rfl (q_inAt ll_94 rfl) (by decide +kernel) (by decide +kernel) (by show (cells + 1) ≤ 664929; omega) (by show (slots + 6) ≤ 7101316; omega) (q_J_W hJg0) hSg0 (fun q z => hL.2.2.2.2.2 q (Or.inl z)) (fun U hU hWU => q_Law_sta hL hSg0 hU hWU) hl.1 rfl (Nat.le_of_ble_eq_true rfl) dl_319 (fun G1 gl1 hG1 gz1 gk1 hSg1 => ?_)
  have hJg1 : va_P D qCl (q_J ad cI cZ cQ aO cL h2 o1) G1 := q_J_mk hG1 (by rw [gk1 aO (Array.getElem?_eq_some_iff.mp (q_J_O hJg0)).1 hL.2.2.2.2.1]; exact q_J_O hJg0)
  refine lv_iload hx hb dl_322 (lv_at hl 0 rfl) ?_
  refine lv_icmp_eq hx hb dl_324 rfl (fun _ => ?_) (fun hc9 => absurd hth hc9)
  refine lv_goto hx hb dl_329 rfl ?_
  exact kk _ _ _ (lv_sub hl [1, 2, 3, 4, 5] rfl) hJg1 hSg1
theorem ll_112 : lw_tbl[849]? = some (.methodLink "CashRecyclerLaw" 112 (qmY 104)) := by decide +kernel
theorem lc_payout_w : lw_tbl[423]? = some (.methodLink "CashRecyclerLaw" 110 yw_payout) ∧ lw_tbl[424]? = some (.static yw_payout) ∧ lw_tbl[425]? = some (.codeWith yw_payout method_8_code 4 (some .int) [(0, 9, 12, 13), (0, 9, 15, 15), (0, 9, 18, 32)]) ∧ (parseMethodDescriptor yw_payout.desc).map (fun d => d.parameters.length) = some 3 := by decide +kernel
set_option maxHeartbeats 4000000 in
theorem lc_payout {p : Program} {l : Launch} {e : Env} {s : State} {m : MethodId} {below : List Frame} {meth : Method} {c : Code} {H : Heap} {locs : List Loc} {cells slots : Nat} {Q : State → Prop} {D : va_G} {ad : Nat → Nat} {cI cZ cQ cL : ClassId} {aO b Ln i : Nat} {xs : Nat → Int32} {ls : Array Slot} {h h1 h2 : HP} {o o1 : Int64} (hx : p.tables.exec = Jvm.exec) (hb : c.code = code) (hml : c.maxLocals = 7) (hown : s.vm.findClass "CashRecyclerLaw" = some m.cls) (hts : ∀ w ∈ q_WS, w.before #[Value.ref b] s = true) (hX : va_X b Ln xs s s.heap) (hbl : b < s.heap.size) (hL : q_Law D ad cI cZ cQ aO cL s) (hi : i + 2 < Ln) (hLn : Ln ≤ 1536) (hc : cells + 1 ≤ 664929) (hs : slots + 6 ≤ 7101316) (hl : lv_has ls 7 [(0, .ref b), (1, .ref (ad 0)), (2, .ref (ad 30)), (3, .ref aO), (4, .int (nI i))]) (hJ : va_P D qCl (q_J ad cI cZ cQ aO cL h o) H) (hS : va_S (q_A0 s) s.heap H locs) {k : Int32} {v : Int32} (hW : q_MetL l D ad cI cZ cQ aO cL yw_payout ws_payout rw_payout [.ref (ad 0), .int (xs (i + 1)), .ref aO] h o k h1 o1) (hM : Ec 104 [.inr 30, .inl (xs (i + 1))] h1 (.inl (some v), h2)) (hth : h2 30 0 = k) (hT : Ec 92 [.inr 30] h2 (.inl (some (h2 30 0)), h2)) (hout : k = 0 → o1 = v.toInt64) (kk : ∀ (ls' : Array Slot) (H' : Heap) (locs' : List Loc), lv_has ls' 7 [(0, .ref b), (1, .ref (ad 0)), (2, .ref (ad 30)), (3, .ref aO), (4, .int (nI i))] → va_P D qCl (q_J ad cI cZ cQ aO cL h2 o1) H' → va_S (q_A0 s) s.heap H' locs' → W p l e room_1 s m #[Value.ref b] below meth c H' locs' (cells + 1) (slots + 6) Q (F0 m 1214 ls' [])) : W p l e room_1 s m #[Value.ref b] below meth c H locs cells slots Q (F0 m 332 ls []) := by
  refine lv_aload_n hx hb dl_332 rfl (lv_at hl 1 rfl) ?_
  refine lv_aload_n hx hb dl_333 rfl (lv_at hl 0 rfl) ?_
  refine lv_iload hx hb dl_334 (lv_at hl 4 rfl) ?_
  refine lv_iconst (v := 1) hx hb dl_336 (by decide) ?_
  refine lv_iadd hx hb dl_337 ?_
  rw [nI_1]
  refine va_sld hx hb hX hbl (fun z => by have : s.heap.size ≤ b := z; omega) hS (nI_in (by omega) (by omega)) dl_338 ?_
  rw [nI_clamp (show i + 1 < 2 ^ 31 by omega)]
  refine lv_aload_n hx hb dl_339 rfl (lv_at hl 3 rfl) ?_
  refine q_lcall (idx := 110) ⟨hx, hb, hml, hown, hts⟩ hL hW rfl rfl (by decide +kernel) (by decide +kernel) (q_inAt lc_payout_w.2.2.1 rfl) (q_inAt lc_payout_w.2.1 rfl) (q_inAt lc_payout_w.1 rfl) rfl lc_payout_w.2.2.2 hJ hS hc hs hl.1 rfl dl_340 (fun H1 locs1 hJ1 hS1 => ?_)
  refine lv_istore hx hb dl_343 hl (by decide) rfl (fun ls5 hl => ?_)
  have hl : lv_has ls5 7 [(5, .int k), (0, .ref b), (1, .ref (ad 0)), (2, .ref (ad 30)), (3, .ref aO), (4, .int (nI i))] := hl
  refine lv_aload_n hx hb dl_345 rfl (lv_at hl 3 rfl) ?_
  refine lv_aload_n hx hb dl_346 rfl (lv_at hl 1 rfl) ?_
  refine lv_iload hx hb dl_347 (lv_at hl 5 rfl) ?_
  refine lv_iconst (v := 1) hx hb dl_349 (by decide) ?_
  refine lv_iadd hx hb dl_350 ?_
  rw [nI_1]
  refine va_sld hx hb hX hbl (fun z => by have : s.heap.size ≤ b := z; omega) hS1 (nI_in (by omega) (by omega)) dl_351 ?_
  rw [nI_clamp (show i + 1 < 2 ^ 31 by omega)]
  refine q_ucall (j := 104) (ro := 30) (idx := 112) (as := [.inl (xs (i + 1))]) (rest := []) (A0 := q_A0 s) ⟨hx, hb, hml, hown, hts⟩ hL.1.1 (by decide) (by decide) rfl hM rfl rfl (q_inAt ll_112 rfl) (by decide +kernel) (by decide +kernel) (by show (cells + 1) ≤ 664929; omega) (by show (slots + 6) ≤ 7101316; omega) (q_J_W hJ1) hS1 (fun q z => hL.2.2.2.2.2 q (Or.inl z)) (fun U hU hWU => q_Law_sta hL hS1 hU hWU) hl.1 rfl (Nat.le_of_ble_eq_true rfl) dl_352 (fun G0 gl0 hG0 gz0 gk0 hSg0 => ?_)
  have hJg0 : va_P D qCl (q_J ad cI cZ cQ aO cL h2 o1) G0 := q_J_mk hG0 (by rw [gk0 aO (Array.getElem?_eq_some_iff.mp (q_J_O hJ1)).1 hL.2.2.2.2.1]; exact q_J_O hJ1)
  refine lv_istore hx hb dl_355 hl (by decide) rfl (fun ls6 hl => ?_)
  have hl : lv_has ls6 7 [(6, .int v), (5, .int k), (0, .ref b), (1, .ref (ad 0)), (2, .ref (ad 30)), (3, .ref aO), (4, .int (nI i))] := hl
  refine lv_aload_n hx hb dl_357 rfl (lv_at hl 4 rfl) ?_
  refine q_ucall (j := 92) (ro := 30) (idx := 94) (as := []) (rest := []) (A0 := q_A0 s) ⟨hx, hb, hml, hown, hts⟩ hL.1.1 (by decide) (by decide) rfl hT rfl rfl (q_inAt ll_94 rfl) (by decide +kernel) (by decide +kernel) (by show (cells + 1) ≤ 664929; omega) (by show (slots + 6) ≤ 7101316; omega) (q_J_W hJg0) hSg0 (fun q z => hL.2.2.2.2.2 q (Or.inl z)) (fun U hU hWU => q_Law_sta hL hSg0 hU hWU) hl.1 rfl (Nat.le_of_ble_eq_true rfl) dl_358 (fun G1 gl1 hG1 gz1 gk1 hSg1 => ?_)
  have hJg1 : va_P D qCl (q_J ad cI cZ cQ aO cL h2 o1) G1 := q_J_mk hG1 (by rw [gk1 aO (Array.getElem?_eq_some_iff.mp (q_J_O hJg0)).1 hL.2.2.2.2.1]; exact q_J_O hJg0)
  refine lv_iload hx hb dl_361 (lv_at hl 1 rfl) ?_
  refine lv_icmp_eq hx hb dl_363 rfl (fun _ => ?_) (fun hc9 => absurd hth hc9)
  refine lv_iload hx hb dl_368 (lv_at hl 1 rfl) ?_
  refine lv_if_ne hx hb dl_370 rfl (fun hk0 => ?_) (fun hk0 => ?_)
  · refine lv_goto hx hb dl_385 rfl ?_
    exact kk _ _ _ (lv_sub hl [2, 3, 4, 5, 6] rfl) hJg1 hSg1
  · have ho := hout hk0
    refine lv_aload_n hx hb dl_373 rfl (lv_at hl 5 rfl) ?_
    refine lv_iconst (v := 0) hx hb dl_374 (by decide) ?_
    refine va_lald (D := D) (cl := qCl) hx hb hL.2.2.1 hJg1 47 0 q_J_47 rfl q_in01 dl_375 ?_
    show W _ _ _ _ _ _ _ _ _ _ _ _ _ _ _ (F0 m _ _ [.long o1])
    rw [ho]
    refine lv_iload hx hb dl_376 (lv_at hl 0 rfl) ?_
    refine lv_i2l (v := v.toInt64) hx hb dl_378 rfl ?_
    refine W.lcmp hx hb dl_379 ?_
    rw [q_cmp0]
    refine lv_if_eq hx hb dl_380 rfl (fun _ => ?_) (fun hc9 => absurd rfl hc9)
    refine lv_goto hx hb dl_385 rfl ?_
    exact kk _ _ _ (lv_sub hl [2, 3, 4, 5, 6] rfl) hJg1 hSg1
theorem ll_116 : lw_tbl[865]? = some (.methodLink "CashRecyclerLaw" 116 (qmY 105)) := by decide +kernel
theorem lc_plan_w : lw_tbl[466]? = some (.methodLink "CashRecyclerLaw" 113 yw_plan) ∧ lw_tbl[467]? = some (.static yw_plan) ∧ lw_tbl[468]? = some (.codeWith yw_plan method_9_code 5 (some .int) [(0, 10, 13, 13)]) ∧ (parseMethodDescriptor yw_plan.desc).map (fun d => d.parameters.length) = some 4 := by decide +kernel
set_option maxHeartbeats 4000000 in
theorem lc_plan {p : Program} {l : Launch} {e : Env} {s : State} {m : MethodId} {below : List Frame} {meth : Method} {c : Code} {H : Heap} {locs : List Loc} {cells slots : Nat} {Q : State → Prop} {D : va_G} {ad : Nat → Nat} {cI cZ cQ cL : ClassId} {aO b Ln i : Nat} {xs : Nat → Int32} {ls : Array Slot} {h h1 h2 : HP} {o o1 : Int64} (hx : p.tables.exec = Jvm.exec) (hb : c.code = code) (hml : c.maxLocals = 7) (hown : s.vm.findClass "CashRecyclerLaw" = some m.cls) (hts : ∀ w ∈ q_WS, w.before #[Value.ref b] s = true) (hX : va_X b Ln xs s s.heap) (hbl : b < s.heap.size) (hL : q_Law D ad cI cZ cQ aO cL s) (hi : i + 2 < Ln) (hLn : Ln ≤ 1536) (hc : cells + 1 ≤ 664929) (hs : slots + 6 ≤ 7101316) (hl : lv_has ls 7 [(0, .ref b), (1, .ref (ad 0)), (2, .ref (ad 30)), (3, .ref aO), (4, .int (nI i))]) (hJ : va_P D qCl (q_J ad cI cZ cQ aO cL h o) H) (hS : va_S (q_A0 s) s.heap H locs) {k : Int32} {v : Int32} (hW : q_MetL l D ad cI cZ cQ aO cL yw_plan ws_plan rw_plan [.ref (ad 0), .int (xs (i + 1)), .int (xs (i + 2)), .ref aO] h o k h1 o1) (hM : Ec 105 [.inr 30, .inl (xs (i + 1)), .inl (xs (i + 2))] h1 (.inl (some v), h2)) (hth : h2 30 0 = k) (hT : Ec 92 [.inr 30] h2 (.inl (some (h2 30 0)), h2)) (hout : k = 0 → o1 = v.toInt64) (kk : ∀ (ls' : Array Slot) (H' : Heap) (locs' : List Loc), lv_has ls' 7 [(0, .ref b), (1, .ref (ad 0)), (2, .ref (ad 30)), (3, .ref aO), (4, .int (nI i))] → va_P D qCl (q_J ad cI cZ cQ aO cL h2 o1) H' → va_S (q_A0 s) s.heap H' locs' → W p l e room_1 s m #[Value.ref b] below meth c H' locs' (cells + 1) (slots + 6) Q (F0 m 1214 ls' [])) : W p l e room_1 s m #[Value.ref b] below meth c H locs cells slots Q (F0 m 388 ls []) := by
  refine lv_aload_n hx hb dl_388 rfl (lv_at hl 1 rfl) ?_
  refine lv_aload_n hx hb dl_389 rfl (lv_at hl 0 rfl) ?_
  refine lv_iload hx hb dl_390 (lv_at hl 4 rfl) ?_
  refine lv_iconst (v := 1) hx hb dl_392 (by decide) ?_
  refine lv_iadd hx hb dl_393 ?_
  rw [nI_1]
  refine va_sld hx hb hX hbl (fun z => by have : s.heap.size ≤ b := z; omega) hS (nI_in (by omega) (by omega)) dl_394 ?_
  rw [nI_clamp (show i + 1 < 2 ^ 31 by omega)]
  refine lv_aload_n hx hb dl_395 rfl (lv_at hl 0 rfl) ?_
  refine lv_iload hx hb dl_396 (lv_at hl 4 rfl) ?_
  refine lv_iconst (v := 2) hx hb dl_398 (by decide) ?_
  refine lv_iadd hx hb dl_399 ?_
  rw [q_nI2]
  refine va_sld hx hb hX hbl (fun z => by have : s.heap.size ≤ b := z; omega) hS (nI_in (by omega) (by omega)) dl_400 ?_
  rw [nI_clamp (show i + 2 < 2 ^ 31 by omega)]
  refine lv_aload_n hx hb dl_401 rfl (lv_at hl 3 rfl) ?_
  refine q_lcall (idx := 113) ⟨hx, hb, hml, hown, hts⟩ hL hW rfl rfl (by decide +kernel) (by decide +kernel) (q_inAt lc_plan_w.2.2.1 rfl) (q_inAt lc_plan_w.2.1 rfl) (q_inAt lc_plan_w.1 rfl) rfl lc_plan_w.2.2.2 hJ hS hc hs hl.1 rfl dl_402 (fun H1 locs1 hJ1 hS1 => ?_)
  refine lv_istore hx hb dl_405 hl (by decide) rfl (fun ls5 hl => ?_)
  have hl : lv_has ls5 7 [(5, .int k), (0, .ref b), (1, .ref (ad 0)), (2, .ref (ad 30)), (3, .ref aO), (4, .int (nI i))] := hl
  refine lv_aload_n hx hb dl_407 rfl (lv_at hl 3 rfl) ?_
  refine lv_aload_n hx hb dl_408 rfl (lv_at hl 1 rfl) ?_
  refine lv_iload hx hb dl_409 (lv_at hl 5 rfl) ?_
  refine lv_iconst (v := 1) hx hb dl_411 (by decide) ?_
  refine lv_iadd hx hb dl_412 ?_
  rw [nI_1]
  refine va_sld hx hb hX hbl (fun z => by have : s.heap.size ≤ b := z; omega) hS1 (nI_in (by omega) (by omega)) dl_413 ?_
  rw [nI_clamp (show i + 1 < 2 ^ 31 by omega)]
  refine lv_aload_n hx hb dl_414 rfl (lv_at hl 1 rfl) ?_
  refine lv_iload hx hb dl_415 (lv_at hl 5 rfl) ?_
  refine lv_iconst (v := 2) hx hb dl_417 (by decide) ?_
  refine lv_iadd hx hb dl_418 ?_
  rw [q_nI2]
  refine va_sld hx hb hX hbl (fun z => by have : s.heap.size ≤ b := z; omega) hS1 (nI_in (by omega) (by omega)) dl_419 ?_
  rw [nI_clamp (show i + 2 < 2 ^ 31 by omega)]
  refine q_ucall (j := 105) (ro := 30) (idx := 116) (as := [.inl (xs (i + 1)), .inl (xs (i + 2))]) (rest := []) (A0 := q_A0 s) ⟨hx, hb, hml, hown, hts⟩ hL.1.1 (by decide) (by decide) rfl hM rfl rfl (q_inAt ll_116 rfl) (by decide +kernel) (by decide +kernel) (by show (cells + 1) ≤ 664929; omega) (by show (slots + 6) ≤ 7101316; omega) (q_J_W hJ1) hS1 (fun q z => hL.2.2.2.2.2 q (Or.inl z)) (fun U hU hWU => q_Law_sta hL hS1 hU hWU) hl.1 rfl (Nat.le_of_ble_eq_true rfl) dl_420 (fun G0 gl0 hG0 gz0 gk0 hSg0 => ?_)
  have hJg0 : va_P D qCl (q_J ad cI cZ cQ aO cL h2 o1) G0 := q_J_mk hG0 (by rw [gk0 aO (Array.getElem?_eq_some_iff.mp (q_J_O hJ1)).1 hL.2.2.2.2.1]; exact q_J_O hJ1)
  refine lv_istore hx hb dl_423 hl (by decide) rfl (fun ls6 hl => ?_)
  have hl : lv_has ls6 7 [(6, .int v), (5, .int k), (0, .ref b), (1, .ref (ad 0)), (2, .ref (ad 30)), (3, .ref aO), (4, .int (nI i))] := hl
  refine lv_aload_n hx hb dl_425 rfl (lv_at hl 4 rfl) ?_
  refine q_ucall (j := 92) (ro := 30) (idx := 94) (as := []) (rest := []) (A0 := q_A0 s) ⟨hx, hb, hml, hown, hts⟩ hL.1.1 (by decide) (by decide) rfl hT rfl rfl (q_inAt ll_94 rfl) (by decide +kernel) (by decide +kernel) (by show (cells + 1) ≤ 664929; omega) (by show (slots + 6) ≤ 7101316; omega) (q_J_W hJg0) hSg0 (fun q z => hL.2.2.2.2.2 q (Or.inl z)) (fun U hU hWU => q_Law_sta hL hSg0 hU hWU) hl.1 rfl (Nat.le_of_ble_eq_true rfl) dl_426 (fun G1 gl1 hG1 gz1 gk1 hSg1 => ?_)
  have hJg1 : va_P D qCl (q_J ad cI cZ cQ aO cL h2 o1) G1 := q_J_mk hG1 (by rw [gk1 aO (Array.getElem?_eq_some_iff.mp (q_J_O hJg0)).1 hL.2.2.2.2.1]; exact q_J_O hJg0)
  refine lv_iload hx hb dl_429 (lv_at hl 1 rfl) ?_
  refine lv_icmp_eq hx hb dl_431 rfl (fun _ => ?_) (fun hc9 => absurd hth hc9)
  refine lv_iload hx hb dl_436 (lv_at hl 1 rfl) ?_
  refine lv_if_ne hx hb dl_438 rfl (fun hk0 => ?_) (fun hk0 => ?_)
  · refine lv_goto hx hb dl_453 rfl ?_
    exact kk _ _ _ (lv_sub hl [2, 3, 4, 5, 6] rfl) hJg1 hSg1
  · have ho := hout hk0
    refine lv_aload_n hx hb dl_441 rfl (lv_at hl 5 rfl) ?_
    refine lv_iconst (v := 0) hx hb dl_442 (by decide) ?_
    refine va_lald (D := D) (cl := qCl) hx hb hL.2.2.1 hJg1 47 0 q_J_47 rfl q_in01 dl_443 ?_
    show W _ _ _ _ _ _ _ _ _ _ _ _ _ _ _ (F0 m _ _ [.long o1])
    rw [ho]
    refine lv_iload hx hb dl_444 (lv_at hl 0 rfl) ?_
    refine lv_i2l (v := v.toInt64) hx hb dl_446 rfl ?_
    refine W.lcmp hx hb dl_447 ?_
    rw [q_cmp0]
    refine lv_if_eq hx hb dl_448 rfl (fun _ => ?_) (fun hc9 => absurd rfl hc9)
    refine lv_goto hx hb dl_453 rfl ?_
    exact kk _ _ _ (lv_sub hl [2, 3, 4, 5, 6] rfl) hJg1 hSg1
theorem ll_119 : lw_tbl[869]? = some (.methodLink "CashRecyclerLaw" 119 (qmY 114)) := by decide +kernel
theorem lc_step_w : lw_tbl[480]? = some (.methodLink "CashRecyclerLaw" 117 yw_step) ∧ lw_tbl[481]? = some (.static yw_step) ∧ lw_tbl[482]? = some (.codeWith yw_step method_10_code 4 (some .int) [(0, 9, 12, 13)]) ∧ (parseMethodDescriptor yw_step.desc).map (fun d => d.parameters.length) = some 3 := by decide +kernel
set_option maxHeartbeats 4000000 in
theorem lc_step {p : Program} {l : Launch} {e : Env} {s : State} {m : MethodId} {below : List Frame} {meth : Method} {c : Code} {H : Heap} {locs : List Loc} {cells slots : Nat} {Q : State → Prop} {D : va_G} {ad : Nat → Nat} {cI cZ cQ cL : ClassId} {aO b Ln i : Nat} {xs : Nat → Int32} {ls : Array Slot} {h h1 h2 : HP} {o o1 : Int64} (hx : p.tables.exec = Jvm.exec) (hb : c.code = code) (hml : c.maxLocals = 7) (hown : s.vm.findClass "CashRecyclerLaw" = some m.cls) (hts : ∀ w ∈ q_WS, w.before #[Value.ref b] s = true) (hX : va_X b Ln xs s s.heap) (hbl : b < s.heap.size) (hL : q_Law D ad cI cZ cQ aO cL s) (hi : i + 2 < Ln) (hLn : Ln ≤ 1536) (hc : cells + 1 ≤ 664929) (hs : slots + 6 ≤ 7101316) (hl : lv_has ls 7 [(0, .ref b), (1, .ref (ad 0)), (2, .ref (ad 30)), (3, .ref aO), (4, .int (nI i))]) (hJ : va_P D qCl (q_J ad cI cZ cQ aO cL h o) H) (hS : va_S (q_A0 s) s.heap H locs) {k : Int32} {v : Int32} (hW : q_MetL l D ad cI cZ cQ aO cL yw_step ws_step rw_step [.ref (ad 0), .int (xs (i + 1)), .ref aO] h o k h1 o1) (hM : Ec 114 [.inr 30, .inl (xs (i + 1))] h1 (.inl (some v), h2)) (hth : h2 30 0 = k) (hT : Ec 92 [.inr 30] h2 (.inl (some (h2 30 0)), h2)) (hout : k = 0 → o1 = v.toInt64) (kk : ∀ (ls' : Array Slot) (H' : Heap) (locs' : List Loc), lv_has ls' 7 [(0, .ref b), (1, .ref (ad 0)), (2, .ref (ad 30)), (3, .ref aO), (4, .int (nI i))] → va_P D qCl (q_J ad cI cZ cQ aO cL h2 o1) H' → va_S (q_A0 s) s.heap H' locs' → W p l e room_1 s m #[Value.ref b] below meth c H' locs' (cells + 1) (slots + 6) Q (F0 m 1214 ls' [])) : W p l e room_1 s m #[Value.ref b] below meth c H locs cells slots Q (F0 m 456 ls []) := by
  refine lv_aload_n hx hb dl_456 rfl (lv_at hl 1 rfl) ?_
  refine lv_aload_n hx hb dl_457 rfl (lv_at hl 0 rfl) ?_
  refine lv_iload hx hb dl_458 (lv_at hl 4 rfl) ?_
  refine lv_iconst (v := 1) hx hb dl_460 (by decide) ?_
  refine lv_iadd hx hb dl_461 ?_
  rw [nI_1]
  refine va_sld hx hb hX hbl (fun z => by have : s.heap.size ≤ b := z; omega) hS (nI_in (by omega) (by omega)) dl_462 ?_
  rw [nI_clamp (show i + 1 < 2 ^ 31 by omega)]
  refine lv_aload_n hx hb dl_463 rfl (lv_at hl 3 rfl) ?_
  refine q_lcall (idx := 117) ⟨hx, hb, hml, hown, hts⟩ hL hW rfl rfl (by decide +kernel) (by decide +kernel) (q_inAt lc_step_w.2.2.1 rfl) (q_inAt lc_step_w.2.1 rfl) (q_inAt lc_step_w.1 rfl) rfl lc_step_w.2.2.2 hJ hS hc hs hl.1 rfl dl_464 (fun H1 locs1 hJ1 hS1 => ?_)
  refine lv_istore hx hb dl_467 hl (by decide) rfl (fun ls5 hl => ?_)
  have hl : lv_has ls5 7 [(5, .int k), (0, .ref b), (1, .ref (ad 0)), (2, .ref (ad 30)), (3, .ref aO), (4, .int (nI i))] := hl
  refine lv_aload_n hx hb dl_469 rfl (lv_at hl 3 rfl) ?_
  refine lv_aload_n hx hb dl_470 rfl (lv_at hl 1 rfl) ?_
  refine lv_iload hx hb dl_471 (lv_at hl 5 rfl) ?_
  refine lv_iconst (v := 1) hx hb dl_473 (by decide) ?_
  refine lv_iadd hx hb dl_474 ?_
  rw [nI_1]
  refine va_sld hx hb hX hbl (fun z => by have : s.heap.size ≤ b := z; omega) hS1 (nI_in (by omega) (by omega)) dl_475 ?_
  rw [nI_clamp (show i + 1 < 2 ^ 31 by omega)]
  refine q_ucall (j := 114) (ro := 30) (idx := 119) (as := [.inl (xs (i + 1))]) (rest := []) (A0 := q_A0 s) ⟨hx, hb, hml, hown, hts⟩ hL.1.1 (by decide) (by decide) rfl hM rfl rfl (q_inAt ll_119 rfl) (by decide +kernel) (by decide +kernel) (by show (cells + 1) ≤ 664929; omega) (by show (slots + 6) ≤ 7101316; omega) (q_J_W hJ1) hS1 (fun q z => hL.2.2.2.2.2 q (Or.inl z)) (fun U hU hWU => q_Law_sta hL hS1 hU hWU) hl.1 rfl (Nat.le_of_ble_eq_true rfl) dl_476 (fun G0 gl0 hG0 gz0 gk0 hSg0 => ?_)
  have hJg0 : va_P D qCl (q_J ad cI cZ cQ aO cL h2 o1) G0 := q_J_mk hG0 (by rw [gk0 aO (Array.getElem?_eq_some_iff.mp (q_J_O hJ1)).1 hL.2.2.2.2.1]; exact q_J_O hJ1)
  refine lv_istore hx hb dl_479 hl (by decide) rfl (fun ls6 hl => ?_)
  have hl : lv_has ls6 7 [(6, .int v), (5, .int k), (0, .ref b), (1, .ref (ad 0)), (2, .ref (ad 30)), (3, .ref aO), (4, .int (nI i))] := hl
  refine lv_aload_n hx hb dl_481 rfl (lv_at hl 4 rfl) ?_
  refine q_ucall (j := 92) (ro := 30) (idx := 94) (as := []) (rest := []) (A0 := q_A0 s) ⟨hx, hb, hml, hown, hts⟩ hL.1.1 (by decide) (by decide) rfl hT rfl rfl (q_inAt ll_94 rfl) (by decide +kernel) (by decide +kernel) (by show (cells + 1) ≤ 664929; omega) (by show (slots + 6) ≤ 7101316; omega) (q_J_W hJg0) hSg0 (fun q z => hL.2.2.2.2.2 q (Or.inl z)) (fun U hU hWU => q_Law_sta hL hSg0 hU hWU) hl.1 rfl (Nat.le_of_ble_eq_true rfl) dl_482 (fun G1 gl1 hG1 gz1 gk1 hSg1 => ?_)
  have hJg1 : va_P D qCl (q_J ad cI cZ cQ aO cL h2 o1) G1 := q_J_mk hG1 (by rw [gk1 aO (Array.getElem?_eq_some_iff.mp (q_J_O hJg0)).1 hL.2.2.2.2.1]; exact q_J_O hJg0)
  refine lv_iload hx hb dl_485 (lv_at hl 1 rfl) ?_
  refine lv_icmp_eq hx hb dl_487 rfl (fun _ => ?_) (fun hc9 => absurd hth hc9)
  refine lv_iload hx hb dl_492 (lv_at hl 1 rfl) ?_
  refine lv_if_ne hx hb dl_494 rfl (fun hk0 => ?_) (fun hk0 => ?_)
  · refine lv_goto hx hb dl_509 rfl ?_
    exact kk _ _ _ (lv_sub hl [2, 3, 4, 5, 6] rfl) hJg1 hSg1
  · have ho := hout hk0
    refine lv_aload_n hx hb dl_497 rfl (lv_at hl 5 rfl) ?_
    refine lv_iconst (v := 0) hx hb dl_498 (by decide) ?_
    refine va_lald (D := D) (cl := qCl) hx hb hL.2.2.1 hJg1 47 0 q_J_47 rfl q_in01 dl_499 ?_
    show W _ _ _ _ _ _ _ _ _ _ _ _ _ _ _ (F0 m _ _ [.long o1])
    rw [ho]
    refine lv_iload hx hb dl_500 (lv_at hl 0 rfl) ?_
    refine lv_i2l (v := v.toInt64) hx hb dl_502 rfl ?_
    refine W.lcmp hx hb dl_503 ?_
    rw [q_cmp0]
    refine lv_if_eq hx hb dl_504 rfl (fun _ => ?_) (fun hc9 => absurd rfl hc9)
    refine lv_goto hx hb dl_509 rfl ?_
    exact kk _ _ _ (lv_sub hl [2, 3, 4, 5, 6] rfl) hJg1 hSg1
theorem ll_120 : lw_tbl[194]? = some (.methodLink "CashRecyclerLaw" 120 (qmY 69)) := by decide +kernel
theorem ll_123 : lw_tbl[912]? = some (.methodLink "CashRecyclerLaw" 123 (qmY 115)) := by decide +kernel
set_option maxHeartbeats 4000000 in
theorem lc_taken {p : Program} {l : Launch} {e : Env} {s : State} {m : MethodId} {below : List Frame} {meth : Method} {c : Code} {H : Heap} {locs : List Loc} {cells slots : Nat} {Q : State → Prop} {D : va_G} {ad : Nat → Nat} {cI cZ cQ cL : ClassId} {aO b Ln i : Nat} {xs : Nat → Int32} {ls : Array Slot} {h h1 h2 : HP} {o o1 : Int64} (hx : p.tables.exec = Jvm.exec) (hb : c.code = code) (hml : c.maxLocals = 7) (hown : s.vm.findClass "CashRecyclerLaw" = some m.cls) (hts : ∀ w ∈ q_WS, w.before #[Value.ref b] s = true) (hX : va_X b Ln xs s s.heap) (hbl : b < s.heap.size) (hL : q_Law D ad cI cZ cQ aO cL s) (hi : i + 2 < Ln) (hLn : Ln ≤ 1536) (hc : cells + 1 ≤ 664929) (hs : slots + 6 ≤ 7101316) (hl : lv_has ls 7 [(0, .ref b), (1, .ref (ad 0)), (2, .ref (ad 30)), (3, .ref aO), (4, .int (nI i))]) (hJ : va_P D qCl (q_J ad cI cZ cQ aO cL h o) H) (hS : va_S (q_A0 s) s.heap H locs) {v : Int32} (hC : Ec 69 [.inr 0] h (.inl (some v), h1)) (hM : Ec 115 [.inr 30] h1 (.inl (some v), h2)) (kk : ∀ (ls' : Array Slot) (H' : Heap) (locs' : List Loc), lv_has ls' 7 [(0, .ref b), (1, .ref (ad 0)), (2, .ref (ad 30)), (3, .ref aO), (4, .int (nI i))] → va_P D qCl (q_J ad cI cZ cQ aO cL h2 o) H' → va_S (q_A0 s) s.heap H' locs' → W p l e room_1 s m #[Value.ref b] below meth c H' locs' (cells + 1) (slots + 6) Q (F0 m 1214 ls' [])) : W p l e room_1 s m #[Value.ref b] below meth c H locs cells slots Q (F0 m 512 ls []) := by
  refine lv_aload_n hx hb dl_512 rfl (lv_at hl 1 rfl) ?_
  refine q_ucall (j := 69) (ro := 0) (idx := 120) (as := []) (rest := []) (A0 := q_A0 s) ⟨hx, hb, hml, hown, hts⟩ hL.1.1 (by decide) (by decide) rfl hC rfl rfl (q_inAt ll_120 rfl) (by decide +kernel) (by decide +kernel) (by show cells ≤ 664929; omega) (by show slots ≤ 7101316; omega) (q_J_W hJ) hS (fun q z => hL.2.2.2.2.2 q (Or.inl z)) (fun U hU hWU => q_Law_sta hL hS hU hWU) hl.1 rfl (Nat.le_of_ble_eq_true rfl) dl_513 (fun G0 gl0 hG0 gz0 gk0 hSg0 => ?_)
  have hJg0 : va_P D qCl (q_J ad cI cZ cQ aO cL h1 o) G0 := q_J_mk hG0 (by rw [gk0 aO (Array.getElem?_eq_some_iff.mp (q_J_O hJ)).1 hL.2.2.2.2.1]; exact q_J_O hJ)
  refine lv_aload_n hx hb dl_516 rfl (lv_at hl 2 rfl) ?_
  refine q_ucall (j := 115) (ro := 30) (idx := 123) (as := []) (rest := [.int v]) (A0 := q_A0 s) ⟨hx, hb, hml, hown, hts⟩ hL.1.1 (by decide) (by decide) rfl hM rfl rfl (q_inAt ll_123 rfl) (by decide +kernel) (by decide +kernel) (by show cells ≤ 664929; omega) (by show slots ≤ 7101316; omega) (q_J_W hJg0) hSg0 (fun q z => hL.2.2.2.2.2 q (Or.inl z)) (fun U hU hWU => q_Law_sta hL hSg0 hU hWU) hl.1 rfl (Nat.le_of_ble_eq_true rfl) dl_517 (fun G1 gl1 hG1 gz1 gk1 hSg1 => ?_)
  have hJg1 : va_P D qCl (q_J ad cI cZ cQ aO cL h2 o) G1 := q_J_mk hG1 (by rw [gk1 aO (Array.getElem?_eq_some_iff.mp (q_J_O hJg0)).1 hL.2.2.2.2.1]; exact q_J_O hJg0)
  refine lv_icmp_eq hx hb dl_520 rfl (fun _ => ?_) (fun hc9 => absurd rfl hc9)
  refine W.widen (k := cells + 1) (n := slots + 6) (by omega) (by omega) ?_
  exact kk _ _ _ hl hJg1 hSg1
theorem ll_127 : lw_tbl[916]? = some (.methodLink "CashRecyclerLaw" 127 (qmY 116)) := by decide +kernel
theorem lc_stick_w : lw_tbl[621]? = some (.methodLink "CashRecyclerLaw" 124 yw_stick) ∧ lw_tbl[622]? = some (.static yw_stick) ∧ lw_tbl[623]? = some (.codeWith yw_stick method_11_code 3 (some .int) [(0, 5, 8, 13), (0, 5, 11, 45)]) ∧ (parseMethodDescriptor yw_stick.desc).map (fun d => d.parameters.length) = some 2 := by decide +kernel
set_option maxHeartbeats 4000000 in
theorem lc_stick {p : Program} {l : Launch} {e : Env} {s : State} {m : MethodId} {below : List Frame} {meth : Method} {c : Code} {H : Heap} {locs : List Loc} {cells slots : Nat} {Q : State → Prop} {D : va_G} {ad : Nat → Nat} {cI cZ cQ cL : ClassId} {aO b Ln i : Nat} {xs : Nat → Int32} {ls : Array Slot} {h h1 h2 : HP} {o o1 : Int64} (hx : p.tables.exec = Jvm.exec) (hb : c.code = code) (hml : c.maxLocals = 7) (hown : s.vm.findClass "CashRecyclerLaw" = some m.cls) (hts : ∀ w ∈ q_WS, w.before #[Value.ref b] s = true) (hX : va_X b Ln xs s s.heap) (hbl : b < s.heap.size) (hL : q_Law D ad cI cZ cQ aO cL s) (hi : i + 2 < Ln) (hLn : Ln ≤ 1536) (hc : cells + 1 ≤ 664929) (hs : slots + 6 ≤ 7101316) (hl : lv_has ls 7 [(0, .ref b), (1, .ref (ad 0)), (2, .ref (ad 30)), (3, .ref aO), (4, .int (nI i))]) (hJ : va_P D qCl (q_J ad cI cZ cQ aO cL h o) H) (hS : va_S (q_A0 s) s.heap H locs) {k : Int32} (hW : q_MetL l D ad cI cZ cQ aO cL yw_stick ws_stick rw_stick [.ref (ad 0), .int (xs (i + 1))] h o k h1 o1) (hM : Ec 116 [.inr 30, .inl (xs (i + 1))] h1 (.inl none, h2)) (hth : h2 30 0 = k) (hT : Ec 92 [.inr 30] h2 (.inl (some (h2 30 0)), h2)) (kk : ∀ (ls' : Array Slot) (H' : Heap) (locs' : List Loc), lv_has ls' 7 [(0, .ref b), (1, .ref (ad 0)), (2, .ref (ad 30)), (3, .ref aO), (4, .int (nI i))] → va_P D qCl (q_J ad cI cZ cQ aO cL h2 o1) H' → va_S (q_A0 s) s.heap H' locs' → W p l e room_1 s m #[Value.ref b] below meth c H' locs' (cells + 1) (slots + 6) Q (F0 m 1214 ls' [])) : W p l e room_1 s m #[Value.ref b] below meth c H locs cells slots Q (F0 m 525 ls []) := by
  refine lv_aload_n hx hb dl_525 rfl (lv_at hl 1 rfl) ?_
  refine lv_aload_n hx hb dl_526 rfl (lv_at hl 0 rfl) ?_
  refine lv_iload hx hb dl_527 (lv_at hl 4 rfl) ?_
  refine lv_iconst (v := 1) hx hb dl_529 (by decide) ?_
  refine lv_iadd hx hb dl_530 ?_
  rw [nI_1]
  refine va_sld hx hb hX hbl (fun z => by have : s.heap.size ≤ b := z; omega) hS (nI_in (by omega) (by omega)) dl_531 ?_
  rw [nI_clamp (show i + 1 < 2 ^ 31 by omega)]
  refine q_lcall (idx := 124) ⟨hx, hb, hml, hown, hts⟩ hL hW rfl rfl (by decide +kernel) (by decide +kernel) (q_inAt lc_stick_w.2.2.1 rfl) (q_inAt lc_stick_w.2.1 rfl) (q_inAt lc_stick_w.1 rfl) rfl lc_stick_w.2.2.2 hJ hS hc hs hl.1 rfl dl_532 (fun H1 locs1 hJ1 hS1 => ?_)
  refine lv_istore hx hb dl_535 hl (by decide) rfl (fun ls5 hl => ?_)
  have hl : lv_has ls5 7 [(5, .int k), (0, .ref b), (1, .ref (ad 0)), (2, .ref (ad 30)), (3, .ref aO), (4, .int (nI i))] := hl
  refine lv_aload_n hx hb dl_537 rfl (lv_at hl 3 rfl) ?_
  refine lv_aload_n hx hb dl_538 rfl (lv_at hl 1 rfl) ?_
  refine lv_iload hx hb dl_539 (lv_at hl 5 rfl) ?_
  refine lv_iconst (v := 1) hx hb dl_541 (by decide) ?_
  refine lv_iadd hx hb dl_542 ?_
  rw [nI_1]
  refine va_sld hx hb hX hbl (fun z => by have : s.heap.size ≤ b := z; omega) hS1 (nI_in (by omega) (by omega)) dl_543 ?_
  rw [nI_clamp (show i + 1 < 2 ^ 31 by omega)]
  refine q_ucall (j := 116) (ro := 30) (idx := 127) (as := [.inl (xs (i + 1))]) (rest := []) (A0 := q_A0 s) ⟨hx, hb, hml, hown, hts⟩ hL.1.1 (by decide) (by decide) rfl hM rfl rfl (q_inAt ll_127 rfl) (by decide +kernel) (by decide +kernel) (by show (cells + 1) ≤ 664929; omega) (by show (slots + 6) ≤ 7101316; omega) (q_J_W hJ1) hS1 (fun q z => hL.2.2.2.2.2 q (Or.inl z)) (fun U hU hWU => q_Law_sta hL hS1 hU hWU) hl.1 rfl (Nat.le_of_ble_eq_true rfl) dl_544 (fun G0 gl0 hG0 gz0 gk0 hSg0 => ?_)
  have hJg0 : va_P D qCl (q_J ad cI cZ cQ aO cL h2 o1) G0 := q_J_mk hG0 (by rw [gk0 aO (Array.getElem?_eq_some_iff.mp (q_J_O hJ1)).1 hL.2.2.2.2.1]; exact q_J_O hJ1)
  refine lv_aload_n hx hb dl_547 rfl (lv_at hl 3 rfl) ?_
  refine q_ucall (j := 92) (ro := 30) (idx := 94) (as := []) (rest := []) (A0 := q_A0 s) ⟨hx, hb, hml, hown, hts⟩ hL.1.1 (by decide) (by decide) rfl hT rfl rfl (q_inAt ll_94 rfl) (by decide +kernel) (by decide +kernel) (by show (cells + 1) ≤ 664929; omega) (by show (slots + 6) ≤ 7101316; omega) (q_J_W hJg0) hSg0 (fun q z => hL.2.2.2.2.2 q (Or.inl z)) (fun U hU hWU => q_Law_sta hL hSg0 hU hWU) hl.1 rfl (Nat.le_of_ble_eq_true rfl) dl_548 (fun G1 gl1 hG1 gz1 gk1 hSg1 => ?_)
  have hJg1 : va_P D qCl (q_J ad cI cZ cQ aO cL h2 o1) G1 := q_J_mk hG1 (by rw [gk1 aO (Array.getElem?_eq_some_iff.mp (q_J_O hJg0)).1 hL.2.2.2.2.1]; exact q_J_O hJg0)
  refine lv_iload hx hb dl_551 (lv_at hl 0 rfl) ?_
  refine lv_icmp_eq hx hb dl_553 rfl (fun _ => ?_) (fun hc9 => absurd hth hc9)
  refine lv_goto hx hb dl_558 rfl ?_
  exact kk _ _ _ (lv_sub hl [1, 2, 3, 4, 5] rfl) hJg1 hSg1
theorem ll_130 : lw_tbl[920]? = some (.methodLink "CashRecyclerLaw" 130 (qmY 117)) := by decide +kernel
theorem lc_open_w : lw_tbl[651]? = some (.methodLink "CashRecyclerLaw" 128 yw_open) ∧ lw_tbl[652]? = some (.static yw_open) ∧ lw_tbl[653]? = some (.codeWith yw_open method_12_code 2 (some .int) [(0, 4, 7, 15)]) ∧ (parseMethodDescriptor yw_open.desc).map (fun d => d.parameters.length) = some 1 := by decide +kernel
set_option maxHeartbeats 4000000 in
theorem lc_open {p : Program} {l : Launch} {e : Env} {s : State} {m : MethodId} {below : List Frame} {meth : Method} {c : Code} {H : Heap} {locs : List Loc} {cells slots : Nat} {Q : State → Prop} {D : va_G} {ad : Nat → Nat} {cI cZ cQ cL : ClassId} {aO b Ln i : Nat} {xs : Nat → Int32} {ls : Array Slot} {h h1 h2 : HP} {o o1 : Int64} (hx : p.tables.exec = Jvm.exec) (hb : c.code = code) (hml : c.maxLocals = 7) (hown : s.vm.findClass "CashRecyclerLaw" = some m.cls) (hts : ∀ w ∈ q_WS, w.before #[Value.ref b] s = true) (hX : va_X b Ln xs s s.heap) (hbl : b < s.heap.size) (hL : q_Law D ad cI cZ cQ aO cL s) (hi : i + 2 < Ln) (hLn : Ln ≤ 1536) (hc : cells + 1 ≤ 664929) (hs : slots + 6 ≤ 7101316) (hl : lv_has ls 7 [(0, .ref b), (1, .ref (ad 0)), (2, .ref (ad 30)), (3, .ref aO), (4, .int (nI i))]) (hJ : va_P D qCl (q_J ad cI cZ cQ aO cL h o) H) (hS : va_S (q_A0 s) s.heap H locs) {k : Int32} (hW : q_MetL l D ad cI cZ cQ aO cL yw_open ws_open rw_open [.ref (ad 0)] h o k h1 o1) (hM : Ec 117 [.inr 30] h1 (.inl none, h2)) (hth : h2 30 0 = k) (hT : Ec 92 [.inr 30] h2 (.inl (some (h2 30 0)), h2)) (kk : ∀ (ls' : Array Slot) (H' : Heap) (locs' : List Loc), lv_has ls' 7 [(0, .ref b), (1, .ref (ad 0)), (2, .ref (ad 30)), (3, .ref aO), (4, .int (nI i))] → va_P D qCl (q_J ad cI cZ cQ aO cL h2 o1) H' → va_S (q_A0 s) s.heap H' locs' → W p l e room_1 s m #[Value.ref b] below meth c H' locs' (cells + 1) (slots + 6) Q (F0 m 1214 ls' [])) : W p l e room_1 s m #[Value.ref b] below meth c H locs cells slots Q (F0 m 561 ls []) := by
  refine lv_aload_n hx hb dl_561 rfl (lv_at hl 1 rfl) ?_
  refine q_lcall (idx := 128) ⟨hx, hb, hml, hown, hts⟩ hL hW rfl rfl (by decide +kernel) (by decide +kernel) (q_inAt lc_open_w.2.2.1 rfl) (q_inAt lc_open_w.2.1 rfl) (q_inAt lc_open_w.1 rfl) rfl lc_open_w.2.2.2 hJ hS hc hs hl.1 rfl dl_562 (fun H1 locs1 hJ1 hS1 => ?_)
  refine lv_istore hx hb dl_565 hl (by decide) rfl (fun ls5 hl => ?_)
  have hl : lv_has ls5 7 [(5, .int k), (0, .ref b), (1, .ref (ad 0)), (2, .ref (ad 30)), (3, .ref aO), (4, .int (nI i))] := hl
  refine lv_aload_n hx hb dl_567 rfl (lv_at hl 3 rfl) ?_
  refine q_ucall (j := 117) (ro := 30) (idx := 130) (as := []) (rest := []) (A0 := q_A0 s) ⟨hx, hb, hml, hown, hts⟩ hL.1.1 (by decide) (by decide) rfl hM rfl rfl (q_inAt ll_130 rfl) (by decide +kernel) (by decide +kernel) (by show (cells + 1) ≤ 664929; omega) (by show (slots + 6) ≤ 7101316; omega) (q_J_W hJ1) hS1 (fun q z => hL.2.2.2.2.2 q (Or.inl z)) (fun U hU hWU => q_Law_sta hL hS1 hU hWU) hl.1 rfl (Nat.le_of_ble_eq_true rfl) dl_568 (fun G0 gl0 hG0 gz0 gk0 hSg0 => ?_)
  have hJg0 : va_P D qCl (q_J ad cI cZ cQ aO cL h2 o1) G0 := q_J_mk hG0 (by rw [gk0 aO (Array.getElem?_eq_some_iff.mp (q_J_O hJ1)).1 hL.2.2.2.2.1]; exact q_J_O hJ1)
  refine lv_aload_n hx hb dl_571 rfl (lv_at hl 3 rfl) ?_
  refine q_ucall (j := 92) (ro := 30) (idx := 94) (as := []) (rest := []) (A0 := q_A0 s) ⟨hx, hb, hml, hown, hts⟩ hL.1.1 (by decide) (by decide) rfl hT rfl rfl (q_inAt ll_94 rfl) (by decide +kernel) (by decide +kernel) (by show (cells + 1) ≤ 664929; omega) (by show (slots + 6) ≤ 7101316; omega) (q_J_W hJg0) hSg0 (fun q z => hL.2.2.2.2.2 q (Or.inl z)) (fun U hU hWU => q_Law_sta hL hSg0 hU hWU) hl.1 rfl (Nat.le_of_ble_eq_true rfl) dl_572 (fun G1 gl1 hG1 gz1 gk1 hSg1 => ?_)
  have hJg1 : va_P D qCl (q_J ad cI cZ cQ aO cL h2 o1) G1 := q_J_mk hG1 (by rw [gk1 aO (Array.getElem?_eq_some_iff.mp (q_J_O hJg0)).1 hL.2.2.2.2.1]; exact q_J_O hJg0)
  refine lv_iload hx hb dl_575 (lv_at hl 0 rfl) ?_
  refine lv_icmp_eq hx hb dl_577 rfl (fun _ => ?_) (fun hc9 => absurd hth hc9)
  refine lv_goto hx hb dl_582 rfl ?_
  exact kk _ _ _ (lv_sub hl [1, 2, 3, 4, 5] rfl) hJg1 hSg1
theorem ll_133 : lw_tbl[924]? = some (.methodLink "CashRecyclerLaw" 133 (qmY 118)) := by decide +kernel
theorem lc_remove_w : lw_tbl[658]? = some (.methodLink "CashRecyclerLaw" 131 yw_remove) ∧ lw_tbl[659]? = some (.static yw_remove) ∧ lw_tbl[660]? = some (.codeWith yw_remove method_13_code 4 (some .int) [(0, 9, 12, 15), (0, 9, 15, 13), (0, 9, 18, 45)]) ∧ (parseMethodDescriptor yw_remove.desc).map (fun d => d.parameters.length) = some 3 := by decide +kernel
set_option maxHeartbeats 4000000 in
theorem lc_remove {p : Program} {l : Launch} {e : Env} {s : State} {m : MethodId} {below : List Frame} {meth : Method} {c : Code} {H : Heap} {locs : List Loc} {cells slots : Nat} {Q : State → Prop} {D : va_G} {ad : Nat → Nat} {cI cZ cQ cL : ClassId} {aO b Ln i : Nat} {xs : Nat → Int32} {ls : Array Slot} {h h1 h2 : HP} {o o1 : Int64} (hx : p.tables.exec = Jvm.exec) (hb : c.code = code) (hml : c.maxLocals = 7) (hown : s.vm.findClass "CashRecyclerLaw" = some m.cls) (hts : ∀ w ∈ q_WS, w.before #[Value.ref b] s = true) (hX : va_X b Ln xs s s.heap) (hbl : b < s.heap.size) (hL : q_Law D ad cI cZ cQ aO cL s) (hi : i + 2 < Ln) (hLn : Ln ≤ 1536) (hc : cells + 1 ≤ 664929) (hs : slots + 6 ≤ 7101316) (hl : lv_has ls 7 [(0, .ref b), (1, .ref (ad 0)), (2, .ref (ad 30)), (3, .ref aO), (4, .int (nI i))]) (hJ : va_P D qCl (q_J ad cI cZ cQ aO cL h o) H) (hS : va_S (q_A0 s) s.heap H locs) {k : Int32} {v : Int32} (hW : q_MetL l D ad cI cZ cQ aO cL yw_remove ws_remove rw_remove [.ref (ad 0), .int (xs (i + 1)), .ref aO] h o k h1 o1) (hM : Ec 118 [.inr 30, .inl (xs (i + 1))] h1 (.inl (some v), h2)) (hth : h2 30 0 = k) (hT : Ec 92 [.inr 30] h2 (.inl (some (h2 30 0)), h2)) (hout : k = 0 → o1 = v.toInt64) (kk : ∀ (ls' : Array Slot) (H' : Heap) (locs' : List Loc), lv_has ls' 7 [(0, .ref b), (1, .ref (ad 0)), (2, .ref (ad 30)), (3, .ref aO), (4, .int (nI i))] → va_P D qCl (q_J ad cI cZ cQ aO cL h2 o1) H' → va_S (q_A0 s) s.heap H' locs' → W p l e room_1 s m #[Value.ref b] below meth c H' locs' (cells + 1) (slots + 6) Q (F0 m 1214 ls' [])) : W p l e room_1 s m #[Value.ref b] below meth c H locs cells slots Q (F0 m 585 ls []) := by
  refine lv_aload_n hx hb dl_585 rfl (lv_at hl 1 rfl) ?_
  refine lv_aload_n hx hb dl_586 rfl (lv_at hl 0 rfl) ?_
  refine lv_iload hx hb dl_587 (lv_at hl 4 rfl) ?_
  refine lv_iconst (v := 1) hx hb dl_589 (by decide) ?_
  refine lv_iadd hx hb dl_590 ?_
  rw [nI_1]
  refine va_sld hx hb hX hbl (fun z => by have : s.heap.size ≤ b := z; omega) hS (nI_in (by omega) (by omega)) dl_591 ?_
  rw [nI_clamp (show i + 1 < 2 ^ 31 by omega)]
  refine lv_aload_n hx hb dl_592 rfl (lv_at hl 3 rfl) ?_
  refine q_lcall (idx := 131) ⟨hx, hb, hml, hown, hts⟩ hL hW rfl rfl (by decide +kernel) (by decide +kernel) (q_inAt lc_remove_w.2.2.1 rfl) (q_inAt lc_remove_w.2.1 rfl) (q_inAt lc_remove_w.1 rfl) rfl lc_remove_w.2.2.2 hJ hS hc hs hl.1 rfl dl_593 (fun H1 locs1 hJ1 hS1 => ?_)
  refine lv_istore hx hb dl_596 hl (by decide) rfl (fun ls5 hl => ?_)
  have hl : lv_has ls5 7 [(5, .int k), (0, .ref b), (1, .ref (ad 0)), (2, .ref (ad 30)), (3, .ref aO), (4, .int (nI i))] := hl
  refine lv_aload_n hx hb dl_598 rfl (lv_at hl 3 rfl) ?_
  refine lv_aload_n hx hb dl_599 rfl (lv_at hl 1 rfl) ?_
  refine lv_iload hx hb dl_600 (lv_at hl 5 rfl) ?_
  refine lv_iconst (v := 1) hx hb dl_602 (by decide) ?_
  refine lv_iadd hx hb dl_603 ?_
  rw [nI_1]
  refine va_sld hx hb hX hbl (fun z => by have : s.heap.size ≤ b := z; omega) hS1 (nI_in (by omega) (by omega)) dl_604 ?_
  rw [nI_clamp (show i + 1 < 2 ^ 31 by omega)]
  refine q_ucall (j := 118) (ro := 30) (idx := 133) (as := [.inl (xs (i + 1))]) (rest := []) (A0 := q_A0 s) ⟨hx, hb, hml, hown, hts⟩ hL.1.1 (by decide) (by decide) rfl hM rfl rfl (q_inAt ll_133 rfl) (by decide +kernel) (by decide +kernel) (by show (cells + 1) ≤ 664929; omega) (by show (slots + 6) ≤ 7101316; omega) (q_J_W hJ1) hS1 (fun q z => hL.2.2.2.2.2 q (Or.inl z)) (fun U hU hWU => q_Law_sta hL hS1 hU hWU) hl.1 rfl (Nat.le_of_ble_eq_true rfl) dl_605 (fun G0 gl0 hG0 gz0 gk0 hSg0 => ?_)
  have hJg0 : va_P D qCl (q_J ad cI cZ cQ aO cL h2 o1) G0 := q_J_mk hG0 (by rw [gk0 aO (Array.getElem?_eq_some_iff.mp (q_J_O hJ1)).1 hL.2.2.2.2.1]; exact q_J_O hJ1)
  refine lv_istore hx hb dl_608 hl (by decide) rfl (fun ls6 hl => ?_)
  have hl : lv_has ls6 7 [(6, .int v), (5, .int k), (0, .ref b), (1, .ref (ad 0)), (2, .ref (ad 30)), (3, .ref aO), (4, .int (nI i))] := hl
  refine lv_aload_n hx hb dl_610 rfl (lv_at hl 4 rfl) ?_
  refine q_ucall (j := 92) (ro := 30) (idx := 94) (as := []) (rest := []) (A0 := q_A0 s) ⟨hx, hb, hml, hown, hts⟩ hL.1.1 (by decide) (by decide) rfl hT rfl rfl (q_inAt ll_94 rfl) (by decide +kernel) (by decide +kernel) (by show (cells + 1) ≤ 664929; omega) (by show (slots + 6) ≤ 7101316; omega) (q_J_W hJg0) hSg0 (fun q z => hL.2.2.2.2.2 q (Or.inl z)) (fun U hU hWU => q_Law_sta hL hSg0 hU hWU) hl.1 rfl (Nat.le_of_ble_eq_true rfl) dl_611 (fun G1 gl1 hG1 gz1 gk1 hSg1 => ?_)
  have hJg1 : va_P D qCl (q_J ad cI cZ cQ aO cL h2 o1) G1 := q_J_mk hG1 (by rw [gk1 aO (Array.getElem?_eq_some_iff.mp (q_J_O hJg0)).1 hL.2.2.2.2.1]; exact q_J_O hJg0)
  refine lv_iload hx hb dl_614 (lv_at hl 1 rfl) ?_
  refine lv_icmp_eq hx hb dl_616 rfl (fun _ => ?_) (fun hc9 => absurd hth hc9)
  refine lv_iload hx hb dl_621 (lv_at hl 1 rfl) ?_
  refine lv_if_ne hx hb dl_623 rfl (fun hk0 => ?_) (fun hk0 => ?_)
  · refine lv_goto hx hb dl_638 rfl ?_
    exact kk _ _ _ (lv_sub hl [2, 3, 4, 5, 6] rfl) hJg1 hSg1
  · have ho := hout hk0
    refine lv_aload_n hx hb dl_626 rfl (lv_at hl 5 rfl) ?_
    refine lv_iconst (v := 0) hx hb dl_627 (by decide) ?_
    refine va_lald (D := D) (cl := qCl) hx hb hL.2.2.1 hJg1 47 0 q_J_47 rfl q_in01 dl_628 ?_
    show W _ _ _ _ _ _ _ _ _ _ _ _ _ _ _ (F0 m _ _ [.long o1])
    rw [ho]
    refine lv_iload hx hb dl_629 (lv_at hl 0 rfl) ?_
    refine lv_i2l (v := v.toInt64) hx hb dl_631 rfl ?_
    refine W.lcmp hx hb dl_632 ?_
    rw [q_cmp0]
    refine lv_if_eq hx hb dl_633 rfl (fun _ => ?_) (fun hc9 => absurd rfl hc9)
    refine lv_goto hx hb dl_638 rfl ?_
    exact kk _ _ _ (lv_sub hl [2, 3, 4, 5, 6] rfl) hJg1 hSg1
theorem ll_136 : lw_tbl[928]? = some (.methodLink "CashRecyclerLaw" 136 (qmY 119)) := by decide +kernel
theorem lc_free_w : lw_tbl[665]? = some (.methodLink "CashRecyclerLaw" 134 yw_free) ∧ lw_tbl[666]? = some (.static yw_free) ∧ lw_tbl[667]? = some (.codeWith yw_free method_14_code 4 (some .int) [(0, 16, 19, 15), (0, 16, 22, 13)]) ∧ (parseMethodDescriptor yw_free.desc).map (fun d => d.parameters.length) = some 3 := by decide +kernel
set_option maxHeartbeats 4000000 in
theorem lc_free {p : Program} {l : Launch} {e : Env} {s : State} {m : MethodId} {below : List Frame} {meth : Method} {c : Code} {H : Heap} {locs : List Loc} {cells slots : Nat} {Q : State → Prop} {D : va_G} {ad : Nat → Nat} {cI cZ cQ cL : ClassId} {aO b Ln i : Nat} {xs : Nat → Int32} {ls : Array Slot} {h h1 h2 : HP} {o o1 : Int64} (hx : p.tables.exec = Jvm.exec) (hb : c.code = code) (hml : c.maxLocals = 7) (hown : s.vm.findClass "CashRecyclerLaw" = some m.cls) (hts : ∀ w ∈ q_WS, w.before #[Value.ref b] s = true) (hX : va_X b Ln xs s s.heap) (hbl : b < s.heap.size) (hL : q_Law D ad cI cZ cQ aO cL s) (hi : i + 2 < Ln) (hLn : Ln ≤ 1536) (hc : cells + 1 ≤ 664929) (hs : slots + 6 ≤ 7101316) (hl : lv_has ls 7 [(0, .ref b), (1, .ref (ad 0)), (2, .ref (ad 30)), (3, .ref aO), (4, .int (nI i))]) (hJ : va_P D qCl (q_J ad cI cZ cQ aO cL h o) H) (hS : va_S (q_A0 s) s.heap H locs) {k : Int32} {v : Int32} (hW : q_MetL l D ad cI cZ cQ aO cL yw_free ws_free rw_free [.ref (ad 0), .int (xs (i + 1)), .ref aO] h o k h1 o1) (hM : Ec 119 [.inr 30, .inl (xs (i + 1))] h1 (.inl (some v), h2)) (hth : h2 30 0 = k) (hT : Ec 92 [.inr 30] h2 (.inl (some (h2 30 0)), h2)) (hout : k = 0 → o1 = (if v = 0 then 0 else 1)) (kk : ∀ (ls' : Array Slot) (H' : Heap) (locs' : List Loc), lv_has ls' 7 [(0, .ref b), (1, .ref (ad 0)), (2, .ref (ad 30)), (3, .ref aO), (4, .int (nI i))] → va_P D qCl (q_J ad cI cZ cQ aO cL h2 o1) H' → va_S (q_A0 s) s.heap H' locs' → W p l e room_1 s m #[Value.ref b] below meth c H' locs' (cells + 1) (slots + 6) Q (F0 m 1214 ls' [])) : W p l e room_1 s m #[Value.ref b] below meth c H locs cells slots Q (F0 m 641 ls []) := by
  refine lv_aload_n hx hb dl_641 rfl (lv_at hl 1 rfl) ?_
  refine lv_aload_n hx hb dl_642 rfl (lv_at hl 0 rfl) ?_
  refine lv_iload hx hb dl_643 (lv_at hl 4 rfl) ?_
  refine lv_iconst (v := 1) hx hb dl_645 (by decide) ?_
  refine lv_iadd hx hb dl_646 ?_
  rw [nI_1]
  refine va_sld hx hb hX hbl (fun z => by have : s.heap.size ≤ b := z; omega) hS (nI_in (by omega) (by omega)) dl_647 ?_
  rw [nI_clamp (show i + 1 < 2 ^ 31 by omega)]
  refine lv_aload_n hx hb dl_648 rfl (lv_at hl 3 rfl) ?_
  refine q_lcall (idx := 134) ⟨hx, hb, hml, hown, hts⟩ hL hW rfl rfl (by decide +kernel) (by decide +kernel) (q_inAt lc_free_w.2.2.1 rfl) (q_inAt lc_free_w.2.1 rfl) (q_inAt lc_free_w.1 rfl) rfl lc_free_w.2.2.2 hJ hS hc hs hl.1 rfl dl_649 (fun H1 locs1 hJ1 hS1 => ?_)
  refine lv_istore hx hb dl_652 hl (by decide) rfl (fun ls5 hl => ?_)
  have hl : lv_has ls5 7 [(5, .int k), (0, .ref b), (1, .ref (ad 0)), (2, .ref (ad 30)), (3, .ref aO), (4, .int (nI i))] := hl
  refine lv_aload_n hx hb dl_654 rfl (lv_at hl 3 rfl) ?_
  refine lv_aload_n hx hb dl_655 rfl (lv_at hl 1 rfl) ?_
  refine lv_iload hx hb dl_656 (lv_at hl 5 rfl) ?_
  refine lv_iconst (v := 1) hx hb dl_658 (by decide) ?_
  refine lv_iadd hx hb dl_659 ?_
  rw [nI_1]
  refine va_sld hx hb hX hbl (fun z => by have : s.heap.size ≤ b := z; omega) hS1 (nI_in (by omega) (by omega)) dl_660 ?_
  rw [nI_clamp (show i + 1 < 2 ^ 31 by omega)]
  refine q_ucall (j := 119) (ro := 30) (idx := 136) (as := [.inl (xs (i + 1))]) (rest := []) (A0 := q_A0 s) ⟨hx, hb, hml, hown, hts⟩ hL.1.1 (by decide) (by decide) rfl hM rfl rfl (q_inAt ll_136 rfl) (by decide +kernel) (by decide +kernel) (by show (cells + 1) ≤ 664929; omega) (by show (slots + 6) ≤ 7101316; omega) (q_J_W hJ1) hS1 (fun q z => hL.2.2.2.2.2 q (Or.inl z)) (fun U hU hWU => q_Law_sta hL hS1 hU hWU) hl.1 rfl (Nat.le_of_ble_eq_true rfl) dl_661 (fun G0 gl0 hG0 gz0 gk0 hSg0 => ?_)
  have hJg0 : va_P D qCl (q_J ad cI cZ cQ aO cL h2 o1) G0 := q_J_mk hG0 (by rw [gk0 aO (Array.getElem?_eq_some_iff.mp (q_J_O hJ1)).1 hL.2.2.2.2.1]; exact q_J_O hJ1)
  refine lv_istore hx hb dl_664 hl (by decide) rfl (fun ls6 hl => ?_)
  have hl : lv_has ls6 7 [(6, .int v), (5, .int k), (0, .ref b), (1, .ref (ad 0)), (2, .ref (ad 30)), (3, .ref aO), (4, .int (nI i))] := hl
  refine lv_aload_n hx hb dl_666 rfl (lv_at hl 4 rfl) ?_
  refine q_ucall (j := 92) (ro := 30) (idx := 94) (as := []) (rest := []) (A0 := q_A0 s) ⟨hx, hb, hml, hown, hts⟩ hL.1.1 (by decide) (by decide) rfl hT rfl rfl (q_inAt ll_94 rfl) (by decide +kernel) (by decide +kernel) (by show (cells + 1) ≤ 664929; omega) (by show (slots + 6) ≤ 7101316; omega) (q_J_W hJg0) hSg0 (fun q z => hL.2.2.2.2.2 q (Or.inl z)) (fun U hU hWU => q_Law_sta hL hSg0 hU hWU) hl.1 rfl (Nat.le_of_ble_eq_true rfl) dl_667 (fun G1 gl1 hG1 gz1 gk1 hSg1 => ?_)
  have hJg1 : va_P D qCl (q_J ad cI cZ cQ aO cL h2 o1) G1 := q_J_mk hG1 (by rw [gk1 aO (Array.getElem?_eq_some_iff.mp (q_J_O hJg0)).1 hL.2.2.2.2.1]; exact q_J_O hJg0)
  refine lv_iload hx hb dl_670 (lv_at hl 1 rfl) ?_
  refine lv_icmp_eq hx hb dl_672 rfl (fun _ => ?_) (fun hc9 => absurd hth hc9)
  refine lv_iload hx hb dl_677 (lv_at hl 1 rfl) ?_
  refine lv_if_ne hx hb dl_679 rfl (fun hk0 => ?_) (fun hk0 => ?_)
  · refine lv_goto hx hb dl_701 rfl ?_
    exact kk _ _ _ (lv_sub hl [2, 3, 4, 5, 6] rfl) hJg1 hSg1
  · have ho := hout hk0
    refine lv_aload_n hx hb dl_682 rfl (lv_at hl 5 rfl) ?_
    refine lv_iconst (v := 0) hx hb dl_683 (by decide) ?_
    refine va_lald (D := D) (cl := qCl) hx hb hL.2.2.1 hJg1 47 0 q_J_47 rfl q_in01 dl_684 ?_
    show W _ _ _ _ _ _ _ _ _ _ _ _ _ _ _ (F0 m _ _ [.long o1])
    rw [ho]
    refine lv_iload hx hb dl_685 (lv_at hl 0 rfl) ?_
    refine lv_if_eq hx hb dl_687 rfl (fun hv0 => ?_) (fun hv0 => ?_)
    · rw [if_pos hv0]
      refine lv_lconst (v := 0) hx hb dl_694 (by decide) ?_
      refine W.lcmp hx hb dl_695 ?_
      rw [q_cmp0]
      refine lv_if_eq hx hb dl_696 rfl (fun _ => ?_) (fun hc9 => absurd rfl hc9)
      refine lv_goto hx hb dl_701 rfl ?_
      exact kk _ _ _ (lv_sub hl [2, 3, 4, 5, 6] rfl) hJg1 hSg1
    · rw [if_neg hv0]
      refine lv_lconst (v := 1) hx hb dl_690 (by decide) ?_
      refine lv_goto hx hb dl_691 rfl ?_
      refine W.lcmp hx hb dl_695 ?_
      rw [q_cmp0]
      refine lv_if_eq hx hb dl_696 rfl (fun _ => ?_) (fun hc9 => absurd rfl hc9)
      refine lv_goto hx hb dl_701 rfl ?_
      exact kk _ _ _ (lv_sub hl [2, 3, 4, 5, 6] rfl) hJg1 hSg1
theorem ll_140 : lw_tbl[932]? = some (.methodLink "CashRecyclerLaw" 140 (qmY 123)) := by decide +kernel
theorem lc_close_w : lw_tbl[672]? = some (.methodLink "CashRecyclerLaw" 137 yw_close) ∧ lw_tbl[673]? = some (.static yw_close) ∧ lw_tbl[674]? = some (.codeWith yw_close method_15_code 3 (some .int) [(0, 8, 11, 15)]) ∧ (parseMethodDescriptor yw_close.desc).map (fun d => d.parameters.length) = some 2 := by decide +kernel
set_option maxHeartbeats 4000000 in
theorem lc_close {p : Program} {l : Launch} {e : Env} {s : State} {m : MethodId} {below : List Frame} {meth : Method} {c : Code} {H : Heap} {locs : List Loc} {cells slots : Nat} {Q : State → Prop} {D : va_G} {ad : Nat → Nat} {cI cZ cQ cL : ClassId} {aO b Ln i : Nat} {xs : Nat → Int32} {ls : Array Slot} {h h1 h2 : HP} {o o1 : Int64} (hx : p.tables.exec = Jvm.exec) (hb : c.code = code) (hml : c.maxLocals = 7) (hown : s.vm.findClass "CashRecyclerLaw" = some m.cls) (hts : ∀ w ∈ q_WS, w.before #[Value.ref b] s = true) (hX : va_X b Ln xs s s.heap) (hbl : b < s.heap.size) (hL : q_Law D ad cI cZ cQ aO cL s) (hi : i + 2 < Ln) (hLn : Ln ≤ 1536) (hc : cells + 1 ≤ 664929) (hs : slots + 6 ≤ 7101316) (hl : lv_has ls 7 [(0, .ref b), (1, .ref (ad 0)), (2, .ref (ad 30)), (3, .ref aO), (4, .int (nI i))]) (hJ : va_P D qCl (q_J ad cI cZ cQ aO cL h o) H) (hS : va_S (q_A0 s) s.heap H locs) {k : Int32} {v : Int32} (hW : q_MetL l D ad cI cZ cQ aO cL yw_close ws_close rw_close [.ref (ad 0), .ref aO] h o k h1 o1) (hM : Ec 123 [.inr 30] h1 (.inl (some v), h2)) (hth : h2 30 0 = k) (hT : Ec 92 [.inr 30] h2 (.inl (some (h2 30 0)), h2)) (hout : k = 0 → o1 = v.toInt64) (kk : ∀ (ls' : Array Slot) (H' : Heap) (locs' : List Loc), lv_has ls' 7 [(0, .ref b), (1, .ref (ad 0)), (2, .ref (ad 30)), (3, .ref aO), (4, .int (nI i))] → va_P D qCl (q_J ad cI cZ cQ aO cL h2 o1) H' → va_S (q_A0 s) s.heap H' locs' → W p l e room_1 s m #[Value.ref b] below meth c H' locs' (cells + 1) (slots + 6) Q (F0 m 1214 ls' [])) : W p l e room_1 s m #[Value.ref b] below meth c H locs cells slots Q (F0 m 704 ls []) := by
  refine lv_aload_n hx hb dl_704 rfl (lv_at hl 1 rfl) ?_
  refine lv_aload_n hx hb dl_705 rfl (lv_at hl 3 rfl) ?_
  refine q_lcall (idx := 137) ⟨hx, hb, hml, hown, hts⟩ hL hW rfl rfl (by decide +kernel) (by decide +kernel) (q_inAt lc_close_w.2.2.1 rfl) (q_inAt lc_close_w.2.1 rfl) (q_inAt lc_close_w.1 rfl) rfl lc_close_w.2.2.2 hJ hS hc hs hl.1 rfl dl_706 (fun H1 locs1 hJ1 hS1 => ?_)
  refine lv_istore hx hb dl_709 hl (by decide) rfl (fun ls5 hl => ?_)
  have hl : lv_has ls5 7 [(5, .int k), (0, .ref b), (1, .ref (ad 0)), (2, .ref (ad 30)), (3, .ref aO), (4, .int (nI i))] := hl
  refine lv_aload_n hx hb dl_711 rfl (lv_at hl 3 rfl) ?_
  refine q_ucall (j := 123) (ro := 30) (idx := 140) (as := []) (rest := []) (A0 := q_A0 s) ⟨hx, hb, hml, hown, hts⟩ hL.1.1 (by decide) (by decide) rfl hM rfl rfl (q_inAt ll_140 rfl) (by decide +kernel) (by decide +kernel) (by show (cells + 1) ≤ 664929; omega) (by show (slots + 6) ≤ 7101316; omega) (q_J_W hJ1) hS1 (fun q z => hL.2.2.2.2.2 q (Or.inl z)) (fun U hU hWU => q_Law_sta hL hS1 hU hWU) hl.1 rfl (Nat.le_of_ble_eq_true rfl) dl_712 (fun G0 gl0 hG0 gz0 gk0 hSg0 => ?_)
  have hJg0 : va_P D qCl (q_J ad cI cZ cQ aO cL h2 o1) G0 := q_J_mk hG0 (by rw [gk0 aO (Array.getElem?_eq_some_iff.mp (q_J_O hJ1)).1 hL.2.2.2.2.1]; exact q_J_O hJ1)
  refine lv_istore hx hb dl_715 hl (by decide) rfl (fun ls6 hl => ?_)
  have hl : lv_has ls6 7 [(6, .int v), (5, .int k), (0, .ref b), (1, .ref (ad 0)), (2, .ref (ad 30)), (3, .ref aO), (4, .int (nI i))] := hl
  refine lv_aload_n hx hb dl_717 rfl (lv_at hl 4 rfl) ?_
  refine q_ucall (j := 92) (ro := 30) (idx := 94) (as := []) (rest := []) (A0 := q_A0 s) ⟨hx, hb, hml, hown, hts⟩ hL.1.1 (by decide) (by decide) rfl hT rfl rfl (q_inAt ll_94 rfl) (by decide +kernel) (by decide +kernel) (by show (cells + 1) ≤ 664929; omega) (by show (slots + 6) ≤ 7101316; omega) (q_J_W hJg0) hSg0 (fun q z => hL.2.2.2.2.2 q (Or.inl z)) (fun U hU hWU => q_Law_sta hL hSg0 hU hWU) hl.1 rfl (Nat.le_of_ble_eq_true rfl) dl_718 (fun G1 gl1 hG1 gz1 gk1 hSg1 => ?_)
  have hJg1 : va_P D qCl (q_J ad cI cZ cQ aO cL h2 o1) G1 := q_J_mk hG1 (by rw [gk1 aO (Array.getElem?_eq_some_iff.mp (q_J_O hJg0)).1 hL.2.2.2.2.1]; exact q_J_O hJg0)
  refine lv_iload hx hb dl_721 (lv_at hl 1 rfl) ?_
  refine lv_icmp_eq hx hb dl_723 rfl (fun _ => ?_) (fun hc9 => absurd hth hc9)
  refine lv_iload hx hb dl_728 (lv_at hl 1 rfl) ?_
  refine lv_if_ne hx hb dl_730 rfl (fun hk0 => ?_) (fun hk0 => ?_)
  · refine lv_goto hx hb dl_745 rfl ?_
    exact kk _ _ _ (lv_sub hl [2, 3, 4, 5, 6] rfl) hJg1 hSg1
  · have ho := hout hk0
    refine lv_aload_n hx hb dl_733 rfl (lv_at hl 5 rfl) ?_
    refine lv_iconst (v := 0) hx hb dl_734 (by decide) ?_
    refine va_lald (D := D) (cl := qCl) hx hb hL.2.2.1 hJg1 47 0 q_J_47 rfl q_in01 dl_735 ?_
    show W _ _ _ _ _ _ _ _ _ _ _ _ _ _ _ (F0 m _ _ [.long o1])
    rw [ho]
    refine lv_iload hx hb dl_736 (lv_at hl 0 rfl) ?_
    refine lv_i2l (v := v.toInt64) hx hb dl_738 rfl ?_
    refine W.lcmp hx hb dl_739 ?_
    rw [q_cmp0]
    refine lv_if_eq hx hb dl_740 rfl (fun _ => ?_) (fun hc9 => absurd rfl hc9)
    refine lv_goto hx hb dl_745 rfl ?_
    exact kk _ _ _ (lv_sub hl [2, 3, 4, 5, 6] rfl) hJg1 hSg1
theorem ll_141 : lw_tbl[206]? = some (.methodLink "CashRecyclerLaw" 141 (qmY 80)) := by decide +kernel
theorem ll_144 : lw_tbl[948]? = some (.methodLink "CashRecyclerLaw" 144 (qmY 124)) := by decide +kernel
set_option maxHeartbeats 4000000 in
theorem lc_power {p : Program} {l : Launch} {e : Env} {s : State} {m : MethodId} {below : List Frame} {meth : Method} {c : Code} {H : Heap} {locs : List Loc} {cells slots : Nat} {Q : State → Prop} {D : va_G} {ad : Nat → Nat} {cI cZ cQ cL : ClassId} {aO b Ln i : Nat} {xs : Nat → Int32} {ls : Array Slot} {h h1 h2 : HP} {o o1 : Int64} (hx : p.tables.exec = Jvm.exec) (hb : c.code = code) (hml : c.maxLocals = 7) (hown : s.vm.findClass "CashRecyclerLaw" = some m.cls) (hts : ∀ w ∈ q_WS, w.before #[Value.ref b] s = true) (hX : va_X b Ln xs s s.heap) (hbl : b < s.heap.size) (hL : q_Law D ad cI cZ cQ aO cL s) (hi : i + 2 < Ln) (hLn : Ln ≤ 1536) (hc : cells + 1 ≤ 664929) (hs : slots + 6 ≤ 7101316) (hl : lv_has ls 7 [(0, .ref b), (1, .ref (ad 0)), (2, .ref (ad 30)), (3, .ref aO), (4, .int (nI i))]) (hJ : va_P D qCl (q_J ad cI cZ cQ aO cL h o) H) (hS : va_S (q_A0 s) s.heap H locs) {v : Int32} (hC : Ec 80 [.inr 0] h (.inl (some v), h1)) (hM : Ec 124 [.inr 30] h1 (.inl (some v), h2)) (kk : ∀ (ls' : Array Slot) (H' : Heap) (locs' : List Loc), lv_has ls' 7 [(0, .ref b), (1, .ref (ad 0)), (2, .ref (ad 30)), (3, .ref aO), (4, .int (nI i))] → va_P D qCl (q_J ad cI cZ cQ aO cL h2 o) H' → va_S (q_A0 s) s.heap H' locs' → W p l e room_1 s m #[Value.ref b] below meth c H' locs' (cells + 1) (slots + 6) Q (F0 m 1214 ls' [])) : W p l e room_1 s m #[Value.ref b] below meth c H locs cells slots Q (F0 m 748 ls []) := by
  refine lv_aload_n hx hb dl_748 rfl (lv_at hl 1 rfl) ?_
  refine q_ucall (j := 80) (ro := 0) (idx := 141) (as := []) (rest := []) (A0 := q_A0 s) ⟨hx, hb, hml, hown, hts⟩ hL.1.1 (by decide) (by decide) rfl hC rfl rfl (q_inAt ll_141 rfl) (by decide +kernel) (by decide +kernel) (by show cells ≤ 664929; omega) (by show slots ≤ 7101316; omega) (q_J_W hJ) hS (fun q z => hL.2.2.2.2.2 q (Or.inl z)) (fun U hU hWU => q_Law_sta hL hS hU hWU) hl.1 rfl (Nat.le_of_ble_eq_true rfl) dl_749 (fun G0 gl0 hG0 gz0 gk0 hSg0 => ?_)
  have hJg0 : va_P D qCl (q_J ad cI cZ cQ aO cL h1 o) G0 := q_J_mk hG0 (by rw [gk0 aO (Array.getElem?_eq_some_iff.mp (q_J_O hJ)).1 hL.2.2.2.2.1]; exact q_J_O hJ)
  refine lv_aload_n hx hb dl_752 rfl (lv_at hl 2 rfl) ?_
  refine q_ucall (j := 124) (ro := 30) (idx := 144) (as := []) (rest := [.int v]) (A0 := q_A0 s) ⟨hx, hb, hml, hown, hts⟩ hL.1.1 (by decide) (by decide) rfl hM rfl rfl (q_inAt ll_144 rfl) (by decide +kernel) (by decide +kernel) (by show cells ≤ 664929; omega) (by show slots ≤ 7101316; omega) (q_J_W hJg0) hSg0 (fun q z => hL.2.2.2.2.2 q (Or.inl z)) (fun U hU hWU => q_Law_sta hL hSg0 hU hWU) hl.1 rfl (Nat.le_of_ble_eq_true rfl) dl_753 (fun G1 gl1 hG1 gz1 gk1 hSg1 => ?_)
  have hJg1 : va_P D qCl (q_J ad cI cZ cQ aO cL h2 o) G1 := q_J_mk hG1 (by rw [gk1 aO (Array.getElem?_eq_some_iff.mp (q_J_O hJg0)).1 hL.2.2.2.2.1]; exact q_J_O hJg0)
  refine lv_icmp_eq hx hb dl_756 rfl (fun _ => ?_) (fun hc9 => absurd rfl hc9)
  refine W.widen (k := cells + 1) (n := slots + 6) (by omega) (by omega) ?_
  exact kk _ _ _ hl hJg1 hSg1
theorem ll_147 : lw_tbl[952]? = some (.methodLink "CashRecyclerLaw" 147 (qmY 125)) := by decide +kernel
theorem lc_service_w : lw_tbl[679]? = some (.methodLink "CashRecyclerLaw" 145 yw_service) ∧ lw_tbl[680]? = some (.static yw_service) ∧ lw_tbl[681]? = some (.codeWith yw_service method_16_code 3 (some .int) [(0, 15, 18, 15)]) ∧ (parseMethodDescriptor yw_service.desc).map (fun d => d.parameters.length) = some 2 := by decide +kernel
set_option maxHeartbeats 4000000 in
theorem lc_service {p : Program} {l : Launch} {e : Env} {s : State} {m : MethodId} {below : List Frame} {meth : Method} {c : Code} {H : Heap} {locs : List Loc} {cells slots : Nat} {Q : State → Prop} {D : va_G} {ad : Nat → Nat} {cI cZ cQ cL : ClassId} {aO b Ln i : Nat} {xs : Nat → Int32} {ls : Array Slot} {h h1 h2 : HP} {o o1 : Int64} (hx : p.tables.exec = Jvm.exec) (hb : c.code = code) (hml : c.maxLocals = 7) (hown : s.vm.findClass "CashRecyclerLaw" = some m.cls) (hts : ∀ w ∈ q_WS, w.before #[Value.ref b] s = true) (hX : va_X b Ln xs s s.heap) (hbl : b < s.heap.size) (hL : q_Law D ad cI cZ cQ aO cL s) (hi : i + 2 < Ln) (hLn : Ln ≤ 1536) (hc : cells + 1 ≤ 664929) (hs : slots + 6 ≤ 7101316) (hl : lv_has ls 7 [(0, .ref b), (1, .ref (ad 0)), (2, .ref (ad 30)), (3, .ref aO), (4, .int (nI i))]) (hJ : va_P D qCl (q_J ad cI cZ cQ aO cL h o) H) (hS : va_S (q_A0 s) s.heap H locs) {k : Int32} {v : Int32} (hW : q_MetL l D ad cI cZ cQ aO cL yw_service ws_service rw_service [.ref (ad 0), .ref aO] h o k h1 o1) (hM : Ec 125 [.inr 30] h1 (.inl (some v), h2)) (hth : h2 30 0 = k) (hT : Ec 92 [.inr 30] h2 (.inl (some (h2 30 0)), h2)) (hout : k = 0 → o1 = (if v = 0 then 0 else 1)) (kk : ∀ (ls' : Array Slot) (H' : Heap) (locs' : List Loc), lv_has ls' 7 [(0, .ref b), (1, .ref (ad 0)), (2, .ref (ad 30)), (3, .ref aO), (4, .int (nI i))] → va_P D qCl (q_J ad cI cZ cQ aO cL h2 o1) H' → va_S (q_A0 s) s.heap H' locs' → W p l e room_1 s m #[Value.ref b] below meth c H' locs' (cells + 1) (slots + 6) Q (F0 m 1214 ls' [])) : W p l e room_1 s m #[Value.ref b] below meth c H locs cells slots Q (F0 m 761 ls []) := by
  refine lv_aload_n hx hb dl_761 rfl (lv_at hl 1 rfl) ?_
  refine lv_aload_n hx hb dl_762 rfl (lv_at hl 3 rfl) ?_
  refine q_lcall (idx := 145) ⟨hx, hb, hml, hown, hts⟩ hL hW rfl rfl (by decide +kernel) (by decide +kernel) (q_inAt lc_service_w.2.2.1 rfl) (q_inAt lc_service_w.2.1 rfl) (q_inAt lc_service_w.1 rfl) rfl lc_service_w.2.2.2 hJ hS hc hs hl.1 rfl dl_763 (fun H1 locs1 hJ1 hS1 => ?_)
  refine lv_istore hx hb dl_766 hl (by decide) rfl (fun ls5 hl => ?_)
  have hl : lv_has ls5 7 [(5, .int k), (0, .ref b), (1, .ref (ad 0)), (2, .ref (ad 30)), (3, .ref aO), (4, .int (nI i))] := hl
  refine lv_aload_n hx hb dl_768 rfl (lv_at hl 3 rfl) ?_
  refine q_ucall (j := 125) (ro := 30) (idx := 147) (as := []) (rest := []) (A0 := q_A0 s) ⟨hx, hb, hml, hown, hts⟩ hL.1.1 (by decide) (by decide) rfl hM rfl rfl (q_inAt ll_147 rfl) (by decide +kernel) (by decide +kernel) (by show (cells + 1) ≤ 664929; omega) (by show (slots + 6) ≤ 7101316; omega) (q_J_W hJ1) hS1 (fun q z => hL.2.2.2.2.2 q (Or.inl z)) (fun U hU hWU => q_Law_sta hL hS1 hU hWU) hl.1 rfl (Nat.le_of_ble_eq_true rfl) dl_769 (fun G0 gl0 hG0 gz0 gk0 hSg0 => ?_)
  have hJg0 : va_P D qCl (q_J ad cI cZ cQ aO cL h2 o1) G0 := q_J_mk hG0 (by rw [gk0 aO (Array.getElem?_eq_some_iff.mp (q_J_O hJ1)).1 hL.2.2.2.2.1]; exact q_J_O hJ1)
  refine lv_istore hx hb dl_772 hl (by decide) rfl (fun ls6 hl => ?_)
  have hl : lv_has ls6 7 [(6, .int v), (5, .int k), (0, .ref b), (1, .ref (ad 0)), (2, .ref (ad 30)), (3, .ref aO), (4, .int (nI i))] := hl
  refine lv_aload_n hx hb dl_774 rfl (lv_at hl 4 rfl) ?_
  refine q_ucall (j := 92) (ro := 30) (idx := 94) (as := []) (rest := []) (A0 := q_A0 s) ⟨hx, hb, hml, hown, hts⟩ hL.1.1 (by decide) (by decide) rfl hT rfl rfl (q_inAt ll_94 rfl) (by decide +kernel) (by decide +kernel) (by show (cells + 1) ≤ 664929; omega) (by show (slots + 6) ≤ 7101316; omega) (q_J_W hJg0) hSg0 (fun q z => hL.2.2.2.2.2 q (Or.inl z)) (fun U hU hWU => q_Law_sta hL hSg0 hU hWU) hl.1 rfl (Nat.le_of_ble_eq_true rfl) dl_775 (fun G1 gl1 hG1 gz1 gk1 hSg1 => ?_)
  have hJg1 : va_P D qCl (q_J ad cI cZ cQ aO cL h2 o1) G1 := q_J_mk hG1 (by rw [gk1 aO (Array.getElem?_eq_some_iff.mp (q_J_O hJg0)).1 hL.2.2.2.2.1]; exact q_J_O hJg0)
  refine lv_iload hx hb dl_778 (lv_at hl 1 rfl) ?_
  refine lv_icmp_eq hx hb dl_780 rfl (fun _ => ?_) (fun hc9 => absurd hth hc9)
  refine lv_iload hx hb dl_785 (lv_at hl 1 rfl) ?_
  refine lv_if_ne hx hb dl_787 rfl (fun hk0 => ?_) (fun hk0 => ?_)
  · refine lv_goto hx hb dl_809 rfl ?_
    exact kk _ _ _ (lv_sub hl [2, 3, 4, 5, 6] rfl) hJg1 hSg1
  · have ho := hout hk0
    refine lv_aload_n hx hb dl_790 rfl (lv_at hl 5 rfl) ?_
    refine lv_iconst (v := 0) hx hb dl_791 (by decide) ?_
    refine va_lald (D := D) (cl := qCl) hx hb hL.2.2.1 hJg1 47 0 q_J_47 rfl q_in01 dl_792 ?_
    show W _ _ _ _ _ _ _ _ _ _ _ _ _ _ _ (F0 m _ _ [.long o1])
    rw [ho]
    refine lv_iload hx hb dl_793 (lv_at hl 0 rfl) ?_
    refine lv_if_eq hx hb dl_795 rfl (fun hv0 => ?_) (fun hv0 => ?_)
    · rw [if_pos hv0]
      refine lv_lconst (v := 0) hx hb dl_802 (by decide) ?_
      refine W.lcmp hx hb dl_803 ?_
      rw [q_cmp0]
      refine lv_if_eq hx hb dl_804 rfl (fun _ => ?_) (fun hc9 => absurd rfl hc9)
      refine lv_goto hx hb dl_809 rfl ?_
      exact kk _ _ _ (lv_sub hl [2, 3, 4, 5, 6] rfl) hJg1 hSg1
    · rw [if_neg hv0]
      refine lv_lconst (v := 1) hx hb dl_798 (by decide) ?_
      refine lv_goto hx hb dl_799 rfl ?_
      refine W.lcmp hx hb dl_803 ?_
      rw [q_cmp0]
      refine lv_if_eq hx hb dl_804 rfl (fun _ => ?_) (fun hc9 => absurd rfl hc9)
      refine lv_goto hx hb dl_809 rfl ?_
      exact kk _ _ _ (lv_sub hl [2, 3, 4, 5, 6] rfl) hJg1 hSg1
theorem ll_151 : lw_tbl[956]? = some (.methodLink "CashRecyclerLaw" 151 (qmY 126)) := by decide +kernel
theorem lc_kind_w : lw_tbl[686]? = some (.methodLink "CashRecyclerLaw" 148 yw_kind) ∧ lw_tbl[687]? = some (.static yw_kind) ∧ lw_tbl[688]? = some (.codeWith yw_kind method_17_code 4 (some .int) [(0, 6, 9, 15), (0, 6, 12, 13), (0, 6, 15, 32)]) ∧ (parseMethodDescriptor yw_kind.desc).map (fun d => d.parameters.length) = some 3 := by decide +kernel
set_option maxHeartbeats 4000000 in
theorem lc_kind {p : Program} {l : Launch} {e : Env} {s : State} {m : MethodId} {below : List Frame} {meth : Method} {c : Code} {H : Heap} {locs : List Loc} {cells slots : Nat} {Q : State → Prop} {D : va_G} {ad : Nat → Nat} {cI cZ cQ cL : ClassId} {aO b Ln i : Nat} {xs : Nat → Int32} {ls : Array Slot} {h h1 h2 : HP} {o o1 : Int64} (hx : p.tables.exec = Jvm.exec) (hb : c.code = code) (hml : c.maxLocals = 7) (hown : s.vm.findClass "CashRecyclerLaw" = some m.cls) (hts : ∀ w ∈ q_WS, w.before #[Value.ref b] s = true) (hX : va_X b Ln xs s s.heap) (hbl : b < s.heap.size) (hL : q_Law D ad cI cZ cQ aO cL s) (hi : i + 2 < Ln) (hLn : Ln ≤ 1536) (hc : cells + 1 ≤ 664929) (hs : slots + 6 ≤ 7101316) (hl : lv_has ls 7 [(0, .ref b), (1, .ref (ad 0)), (2, .ref (ad 30)), (3, .ref aO), (4, .int (nI i))]) (hJ : va_P D qCl (q_J ad cI cZ cQ aO cL h o) H) (hS : va_S (q_A0 s) s.heap H locs) {k : Int32} (hW : q_MetL l D ad cI cZ cQ aO cL yw_kind ws_kind rw_kind [.ref (ad 0), .int (xs (i + 1)), .int (xs (i + 2))] h o k h1 o1) (hM : Ec 126 [.inr 30, .inl (xs (i + 1)), .inl (xs (i + 2))] h1 (.inl none, h2)) (hth : h2 30 0 = k) (hT : Ec 92 [.inr 30] h2 (.inl (some (h2 30 0)), h2)) (kk : ∀ (ls' : Array Slot) (H' : Heap) (locs' : List Loc), lv_has ls' 7 [(0, .ref b), (1, .ref (ad 0)), (2, .ref (ad 30)), (3, .ref aO), (4, .int (nI i))] → va_P D qCl (q_J ad cI cZ cQ aO cL h2 o1) H' → va_S (q_A0 s) s.heap H' locs' → W p l e room_1 s m #[Value.ref b] below meth c H' locs' (cells + 1) (slots + 6) Q (F0 m 1214 ls' [])) : W p l e room_1 s m #[Value.ref b] below meth c H locs cells slots Q (F0 m 812 ls []) := by
  refine lv_aload_n hx hb dl_812 rfl (lv_at hl 1 rfl) ?_
  refine lv_aload_n hx hb dl_813 rfl (lv_at hl 0 rfl) ?_
  refine lv_iload hx hb dl_814 (lv_at hl 4 rfl) ?_
  refine lv_iconst (v := 1) hx hb dl_816 (by decide) ?_
  refine lv_iadd hx hb dl_817 ?_
  rw [nI_1]
  refine va_sld hx hb hX hbl (fun z => by have : s.heap.size ≤ b := z; omega) hS (nI_in (by omega) (by omega)) dl_818 ?_
  rw [nI_clamp (show i + 1 < 2 ^ 31 by omega)]
  refine lv_aload_n hx hb dl_819 rfl (lv_at hl 0 rfl) ?_
  refine lv_iload hx hb dl_820 (lv_at hl 4 rfl) ?_
  refine lv_iconst (v := 2) hx hb dl_822 (by decide) ?_
  refine lv_iadd hx hb dl_823 ?_
  rw [q_nI2]
  refine va_sld hx hb hX hbl (fun z => by have : s.heap.size ≤ b := z; omega) hS (nI_in (by omega) (by omega)) dl_824 ?_
  rw [nI_clamp (show i + 2 < 2 ^ 31 by omega)]
  refine q_lcall (idx := 148) ⟨hx, hb, hml, hown, hts⟩ hL hW rfl rfl (by decide +kernel) (by decide +kernel) (q_inAt lc_kind_w.2.2.1 rfl) (q_inAt lc_kind_w.2.1 rfl) (q_inAt lc_kind_w.1 rfl) rfl lc_kind_w.2.2.2 hJ hS hc hs hl.1 rfl dl_825 (fun H1 locs1 hJ1 hS1 => ?_)
  refine lv_istore hx hb dl_828 hl (by decide) rfl (fun ls5 hl => ?_)
  have hl : lv_has ls5 7 [(5, .int k), (0, .ref b), (1, .ref (ad 0)), (2, .ref (ad 30)), (3, .ref aO), (4, .int (nI i))] := hl
  refine lv_aload_n hx hb dl_830 rfl (lv_at hl 3 rfl) ?_
  refine lv_aload_n hx hb dl_831 rfl (lv_at hl 1 rfl) ?_
  refine lv_iload hx hb dl_832 (lv_at hl 5 rfl) ?_
  refine lv_iconst (v := 1) hx hb dl_834 (by decide) ?_
  refine lv_iadd hx hb dl_835 ?_
  rw [nI_1]
  refine va_sld hx hb hX hbl (fun z => by have : s.heap.size ≤ b := z; omega) hS1 (nI_in (by omega) (by omega)) dl_836 ?_
  rw [nI_clamp (show i + 1 < 2 ^ 31 by omega)]
  refine lv_aload_n hx hb dl_837 rfl (lv_at hl 1 rfl) ?_
  refine lv_iload hx hb dl_838 (lv_at hl 5 rfl) ?_
  refine lv_iconst (v := 2) hx hb dl_840 (by decide) ?_
  refine lv_iadd hx hb dl_841 ?_
  rw [q_nI2]
  refine va_sld hx hb hX hbl (fun z => by have : s.heap.size ≤ b := z; omega) hS1 (nI_in (by omega) (by omega)) dl_842 ?_
  rw [nI_clamp (show i + 2 < 2 ^ 31 by omega)]
  refine q_ucall (j := 126) (ro := 30) (idx := 151) (as := [.inl (xs (i + 1)), .inl (xs (i + 2))]) (rest := []) (A0 := q_A0 s) ⟨hx, hb, hml, hown, hts⟩ hL.1.1 (by decide) (by decide) rfl hM rfl rfl (q_inAt ll_151 rfl) (by decide +kernel) (by decide +kernel) (by show (cells + 1) ≤ 664929; omega) (by show (slots + 6) ≤ 7101316; omega) (q_J_W hJ1) hS1 (fun q z => hL.2.2.2.2.2 q (Or.inl z)) (fun U hU hWU => q_Law_sta hL hS1 hU hWU) hl.1 rfl (Nat.le_of_ble_eq_true rfl) dl_843 (fun G0 gl0 hG0 gz0 gk0 hSg0 => ?_)
  have hJg0 : va_P D qCl (q_J ad cI cZ cQ aO cL h2 o1) G0 := q_J_mk hG0 (by rw [gk0 aO (Array.getElem?_eq_some_iff.mp (q_J_O hJ1)).1 hL.2.2.2.2.1]; exact q_J_O hJ1)
  refine lv_aload_n hx hb dl_846 rfl (lv_at hl 3 rfl) ?_
  refine q_ucall (j := 92) (ro := 30) (idx := 94) (as := []) (rest := []) (A0 := q_A0 s) ⟨hx, hb, hml, hown, hts⟩ hL.1.1 (by decide) (by decide) rfl hT rfl rfl (q_inAt ll_94 rfl) (by decide +kernel) (by decide +kernel) (by show (cells + 1) ≤ 664929; omega) (by show (slots + 6) ≤ 7101316; omega) (q_J_W hJg0) hSg0 (fun q z => hL.2.2.2.2.2 q (Or.inl z)) (fun U hU hWU => q_Law_sta hL hSg0 hU hWU) hl.1 rfl (Nat.le_of_ble_eq_true rfl) dl_847 (fun G1 gl1 hG1 gz1 gk1 hSg1 => ?_)
  have hJg1 : va_P D qCl (q_J ad cI cZ cQ aO cL h2 o1) G1 := q_J_mk hG1 (by rw [gk1 aO (Array.getElem?_eq_some_iff.mp (q_J_O hJg0)).1 hL.2.2.2.2.1]; exact q_J_O hJg0)
  refine lv_iload hx hb dl_850 (lv_at hl 0 rfl) ?_
  refine lv_icmp_eq hx hb dl_852 rfl (fun _ => ?_) (fun hc9 => absurd hth hc9)
  refine lv_goto hx hb dl_857 rfl ?_
  exact kk _ _ _ (lv_sub hl [1, 2, 3, 4, 5] rfl) hJg1 hSg1
theorem ll_154 : lw_tbl[960]? = some (.methodLink "CashRecyclerLaw" 154 (qmY 127)) := by decide +kernel
theorem lc_refill_w : lw_tbl[701]? = some (.methodLink "CashRecyclerLaw" 152 yw_refill) ∧ lw_tbl[702]? = some (.static yw_refill) ∧ lw_tbl[703]? = some (.codeWith yw_refill method_18_code 5 (some .int) [(0, 10, 13, 15), (0, 10, 17, 13)]) ∧ (parseMethodDescriptor yw_refill.desc).map (fun d => d.parameters.length) = some 4 := by decide +kernel
set_option maxHeartbeats 4000000 in
theorem lc_refill {p : Program} {l : Launch} {e : Env} {s : State} {m : MethodId} {below : List Frame} {meth : Method} {c : Code} {H : Heap} {locs : List Loc} {cells slots : Nat} {Q : State → Prop} {D : va_G} {ad : Nat → Nat} {cI cZ cQ cL : ClassId} {aO b Ln i : Nat} {xs : Nat → Int32} {ls : Array Slot} {h h1 h2 : HP} {o o1 : Int64} (hx : p.tables.exec = Jvm.exec) (hb : c.code = code) (hml : c.maxLocals = 7) (hown : s.vm.findClass "CashRecyclerLaw" = some m.cls) (hts : ∀ w ∈ q_WS, w.before #[Value.ref b] s = true) (hX : va_X b Ln xs s s.heap) (hbl : b < s.heap.size) (hL : q_Law D ad cI cZ cQ aO cL s) (hi : i + 2 < Ln) (hLn : Ln ≤ 1536) (hc : cells + 1 ≤ 664929) (hs : slots + 6 ≤ 7101316) (hl : lv_has ls 7 [(0, .ref b), (1, .ref (ad 0)), (2, .ref (ad 30)), (3, .ref aO), (4, .int (nI i))]) (hJ : va_P D qCl (q_J ad cI cZ cQ aO cL h o) H) (hS : va_S (q_A0 s) s.heap H locs) {k : Int32} {v : Int32} (hW : q_MetL l D ad cI cZ cQ aO cL yw_refill ws_refill rw_refill [.ref (ad 0), .int (xs (i + 1)), .int (xs (i + 2)), .ref aO] h o k h1 o1) (hM : Ec 127 [.inr 30, .inl (xs (i + 1)), .inl (xs (i + 2))] h1 (.inl (some v), h2)) (hth : h2 30 0 = k) (hT : Ec 92 [.inr 30] h2 (.inl (some (h2 30 0)), h2)) (hout : k = 0 → o1 = v.toInt64) (kk : ∀ (ls' : Array Slot) (H' : Heap) (locs' : List Loc), lv_has ls' 7 [(0, .ref b), (1, .ref (ad 0)), (2, .ref (ad 30)), (3, .ref aO), (4, .int (nI i))] → va_P D qCl (q_J ad cI cZ cQ aO cL h2 o1) H' → va_S (q_A0 s) s.heap H' locs' → W p l e room_1 s m #[Value.ref b] below meth c H' locs' (cells + 1) (slots + 6) Q (F0 m 1214 ls' [])) : W p l e room_1 s m #[Value.ref b] below meth c H locs cells slots Q (F0 m 860 ls []) := by
  refine lv_aload_n hx hb dl_860 rfl (lv_at hl 1 rfl) ?_
  refine lv_aload_n hx hb dl_861 rfl (lv_at hl 0 rfl) ?_
  refine lv_iload hx hb dl_862 (lv_at hl 4 rfl) ?_
  refine lv_iconst (v := 1) hx hb dl_864 (by decide) ?_
  refine lv_iadd hx hb dl_865 ?_
  rw [nI_1]
  refine va_sld hx hb hX hbl (fun z => by have : s.heap.size ≤ b := z; omega) hS (nI_in (by omega) (by omega)) dl_866 ?_
  rw [nI_clamp (show i + 1 < 2 ^ 31 by omega)]
  refine lv_aload_n hx hb dl_867 rfl (lv_at hl 0 rfl) ?_
  refine lv_iload hx hb dl_868 (lv_at hl 4 rfl) ?_
  refine lv_iconst (v := 2) hx hb dl_870 (by decide) ?_
  refine lv_iadd hx hb dl_871 ?_
  rw [q_nI2]
  refine va_sld hx hb hX hbl (fun z => by have : s.heap.size ≤ b := z; omega) hS (nI_in (by omega) (by omega)) dl_872 ?_
  rw [nI_clamp (show i + 2 < 2 ^ 31 by omega)]
  refine lv_aload_n hx hb dl_873 rfl (lv_at hl 3 rfl) ?_
  refine q_lcall (idx := 152) ⟨hx, hb, hml, hown, hts⟩ hL hW rfl rfl (by decide +kernel) (by decide +kernel) (q_inAt lc_refill_w.2.2.1 rfl) (q_inAt lc_refill_w.2.1 rfl) (q_inAt lc_refill_w.1 rfl) rfl lc_refill_w.2.2.2 hJ hS hc hs hl.1 rfl dl_874 (fun H1 locs1 hJ1 hS1 => ?_)
  refine lv_istore hx hb dl_877 hl (by decide) rfl (fun ls5 hl => ?_)
  have hl : lv_has ls5 7 [(5, .int k), (0, .ref b), (1, .ref (ad 0)), (2, .ref (ad 30)), (3, .ref aO), (4, .int (nI i))] := hl
  refine lv_aload_n hx hb dl_879 rfl (lv_at hl 3 rfl) ?_
  refine lv_aload_n hx hb dl_880 rfl (lv_at hl 1 rfl) ?_
  refine lv_iload hx hb dl_881 (lv_at hl 5 rfl) ?_
  refine lv_iconst (v := 1) hx hb dl_883 (by decide) ?_
  refine lv_iadd hx hb dl_884 ?_
  rw [nI_1]
  refine va_sld hx hb hX hbl (fun z => by have : s.heap.size ≤ b := z; omega) hS1 (nI_in (by omega) (by omega)) dl_885 ?_
  rw [nI_clamp (show i + 1 < 2 ^ 31 by omega)]
  refine lv_aload_n hx hb dl_886 rfl (lv_at hl 1 rfl) ?_
  refine lv_iload hx hb dl_887 (lv_at hl 5 rfl) ?_
  refine lv_iconst (v := 2) hx hb dl_889 (by decide) ?_
  refine lv_iadd hx hb dl_890 ?_
  rw [q_nI2]
  refine va_sld hx hb hX hbl (fun z => by have : s.heap.size ≤ b := z; omega) hS1 (nI_in (by omega) (by omega)) dl_891 ?_
  rw [nI_clamp (show i + 2 < 2 ^ 31 by omega)]
  refine q_ucall (j := 127) (ro := 30) (idx := 154) (as := [.inl (xs (i + 1)), .inl (xs (i + 2))]) (rest := []) (A0 := q_A0 s) ⟨hx, hb, hml, hown, hts⟩ hL.1.1 (by decide) (by decide) rfl hM rfl rfl (q_inAt ll_154 rfl) (by decide +kernel) (by decide +kernel) (by show (cells + 1) ≤ 664929; omega) (by show (slots + 6) ≤ 7101316; omega) (q_J_W hJ1) hS1 (fun q z => hL.2.2.2.2.2 q (Or.inl z)) (fun U hU hWU => q_Law_sta hL hS1 hU hWU) hl.1 rfl (Nat.le_of_ble_eq_true rfl) dl_892 (fun G0 gl0 hG0 gz0 gk0 hSg0 => ?_)
  have hJg0 : va_P D qCl (q_J ad cI cZ cQ aO cL h2 o1) G0 := q_J_mk hG0 (by rw [gk0 aO (Array.getElem?_eq_some_iff.mp (q_J_O hJ1)).1 hL.2.2.2.2.1]; exact q_J_O hJ1)
  refine lv_istore hx hb dl_895 hl (by decide) rfl (fun ls6 hl => ?_)
  have hl : lv_has ls6 7 [(6, .int v), (5, .int k), (0, .ref b), (1, .ref (ad 0)), (2, .ref (ad 30)), (3, .ref aO), (4, .int (nI i))] := hl
  refine lv_aload_n hx hb dl_897 rfl (lv_at hl 4 rfl) ?_
  refine q_ucall (j := 92) (ro := 30) (idx := 94) (as := []) (rest := []) (A0 := q_A0 s) ⟨hx, hb, hml, hown, hts⟩ hL.1.1 (by decide) (by decide) rfl hT rfl rfl (q_inAt ll_94 rfl) (by decide +kernel) (by decide +kernel) (by show (cells + 1) ≤ 664929; omega) (by show (slots + 6) ≤ 7101316; omega) (q_J_W hJg0) hSg0 (fun q z => hL.2.2.2.2.2 q (Or.inl z)) (fun U hU hWU => q_Law_sta hL hSg0 hU hWU) hl.1 rfl (Nat.le_of_ble_eq_true rfl) dl_898 (fun G1 gl1 hG1 gz1 gk1 hSg1 => ?_)
  have hJg1 : va_P D qCl (q_J ad cI cZ cQ aO cL h2 o1) G1 := q_J_mk hG1 (by rw [gk1 aO (Array.getElem?_eq_some_iff.mp (q_J_O hJg0)).1 hL.2.2.2.2.1]; exact q_J_O hJg0)
  refine lv_iload hx hb dl_901 (lv_at hl 1 rfl) ?_
  refine lv_icmp_eq hx hb dl_903 rfl (fun _ => ?_) (fun hc9 => absurd hth hc9)
  refine lv_iload hx hb dl_908 (lv_at hl 1 rfl) ?_
  refine lv_if_ne hx hb dl_910 rfl (fun hk0 => ?_) (fun hk0 => ?_)
  · refine lv_goto hx hb dl_925 rfl ?_
    exact kk _ _ _ (lv_sub hl [2, 3, 4, 5, 6] rfl) hJg1 hSg1
  · have ho := hout hk0
    refine lv_aload_n hx hb dl_913 rfl (lv_at hl 5 rfl) ?_
    refine lv_iconst (v := 0) hx hb dl_914 (by decide) ?_
    refine va_lald (D := D) (cl := qCl) hx hb hL.2.2.1 hJg1 47 0 q_J_47 rfl q_in01 dl_915 ?_
    show W _ _ _ _ _ _ _ _ _ _ _ _ _ _ _ (F0 m _ _ [.long o1])
    rw [ho]
    refine lv_iload hx hb dl_916 (lv_at hl 0 rfl) ?_
    refine lv_i2l (v := v.toInt64) hx hb dl_918 rfl ?_
    refine W.lcmp hx hb dl_919 ?_
    rw [q_cmp0]
    refine lv_if_eq hx hb dl_920 rfl (fun _ => ?_) (fun hc9 => absurd rfl hc9)
    refine lv_goto hx hb dl_925 rfl ?_
    exact kk _ _ _ (lv_sub hl [2, 3, 4, 5, 6] rfl) hJg1 hSg1
theorem ll_157 : lw_tbl[964]? = some (.methodLink "CashRecyclerLaw" 157 (qmY 128)) := by decide +kernel
theorem lc_empty_w : lw_tbl[708]? = some (.methodLink "CashRecyclerLaw" 155 yw_empty) ∧ lw_tbl[709]? = some (.static yw_empty) ∧ lw_tbl[710]? = some (.codeWith yw_empty method_19_code 4 (some .int) [(0, 9, 12, 15), (0, 9, 15, 13)]) ∧ (parseMethodDescriptor yw_empty.desc).map (fun d => d.parameters.length) = some 3 := by decide +kernel
set_option maxHeartbeats 4000000 in
theorem lc_empty {p : Program} {l : Launch} {e : Env} {s : State} {m : MethodId} {below : List Frame} {meth : Method} {c : Code} {H : Heap} {locs : List Loc} {cells slots : Nat} {Q : State → Prop} {D : va_G} {ad : Nat → Nat} {cI cZ cQ cL : ClassId} {aO b Ln i : Nat} {xs : Nat → Int32} {ls : Array Slot} {h h1 h2 : HP} {o o1 : Int64} (hx : p.tables.exec = Jvm.exec) (hb : c.code = code) (hml : c.maxLocals = 7) (hown : s.vm.findClass "CashRecyclerLaw" = some m.cls) (hts : ∀ w ∈ q_WS, w.before #[Value.ref b] s = true) (hX : va_X b Ln xs s s.heap) (hbl : b < s.heap.size) (hL : q_Law D ad cI cZ cQ aO cL s) (hi : i + 2 < Ln) (hLn : Ln ≤ 1536) (hc : cells + 1 ≤ 664929) (hs : slots + 6 ≤ 7101316) (hl : lv_has ls 7 [(0, .ref b), (1, .ref (ad 0)), (2, .ref (ad 30)), (3, .ref aO), (4, .int (nI i))]) (hJ : va_P D qCl (q_J ad cI cZ cQ aO cL h o) H) (hS : va_S (q_A0 s) s.heap H locs) {k : Int32} {v : Int32} (hW : q_MetL l D ad cI cZ cQ aO cL yw_empty ws_empty rw_empty [.ref (ad 0), .int (xs (i + 1)), .ref aO] h o k h1 o1) (hM : Ec 128 [.inr 30, .inl (xs (i + 1))] h1 (.inl (some v), h2)) (hth : h2 30 0 = k) (hT : Ec 92 [.inr 30] h2 (.inl (some (h2 30 0)), h2)) (hout : k = 0 → o1 = v.toInt64) (kk : ∀ (ls' : Array Slot) (H' : Heap) (locs' : List Loc), lv_has ls' 7 [(0, .ref b), (1, .ref (ad 0)), (2, .ref (ad 30)), (3, .ref aO), (4, .int (nI i))] → va_P D qCl (q_J ad cI cZ cQ aO cL h2 o1) H' → va_S (q_A0 s) s.heap H' locs' → W p l e room_1 s m #[Value.ref b] below meth c H' locs' (cells + 1) (slots + 6) Q (F0 m 1214 ls' [])) : W p l e room_1 s m #[Value.ref b] below meth c H locs cells slots Q (F0 m 928 ls []) := by
  refine lv_aload_n hx hb dl_928 rfl (lv_at hl 1 rfl) ?_
  refine lv_aload_n hx hb dl_929 rfl (lv_at hl 0 rfl) ?_
  refine lv_iload hx hb dl_930 (lv_at hl 4 rfl) ?_
  refine lv_iconst (v := 1) hx hb dl_932 (by decide) ?_
  refine lv_iadd hx hb dl_933 ?_
  rw [nI_1]
  refine va_sld hx hb hX hbl (fun z => by have : s.heap.size ≤ b := z; omega) hS (nI_in (by omega) (by omega)) dl_934 ?_
  rw [nI_clamp (show i + 1 < 2 ^ 31 by omega)]
  refine lv_aload_n hx hb dl_935 rfl (lv_at hl 3 rfl) ?_
  refine q_lcall (idx := 155) ⟨hx, hb, hml, hown, hts⟩ hL hW rfl rfl (by decide +kernel) (by decide +kernel) (q_inAt lc_empty_w.2.2.1 rfl) (q_inAt lc_empty_w.2.1 rfl) (q_inAt lc_empty_w.1 rfl) rfl lc_empty_w.2.2.2 hJ hS hc hs hl.1 rfl dl_936 (fun H1 locs1 hJ1 hS1 => ?_)
  refine lv_istore hx hb dl_939 hl (by decide) rfl (fun ls5 hl => ?_)
  have hl : lv_has ls5 7 [(5, .int k), (0, .ref b), (1, .ref (ad 0)), (2, .ref (ad 30)), (3, .ref aO), (4, .int (nI i))] := hl
  refine lv_aload_n hx hb dl_941 rfl (lv_at hl 3 rfl) ?_
  refine lv_aload_n hx hb dl_942 rfl (lv_at hl 1 rfl) ?_
  refine lv_iload hx hb dl_943 (lv_at hl 5 rfl) ?_
  refine lv_iconst (v := 1) hx hb dl_945 (by decide) ?_
  refine lv_iadd hx hb dl_946 ?_
  rw [nI_1]
  refine va_sld hx hb hX hbl (fun z => by have : s.heap.size ≤ b := z; omega) hS1 (nI_in (by omega) (by omega)) dl_947 ?_
  rw [nI_clamp (show i + 1 < 2 ^ 31 by omega)]
  refine q_ucall (j := 128) (ro := 30) (idx := 157) (as := [.inl (xs (i + 1))]) (rest := []) (A0 := q_A0 s) ⟨hx, hb, hml, hown, hts⟩ hL.1.1 (by decide) (by decide) rfl hM rfl rfl (q_inAt ll_157 rfl) (by decide +kernel) (by decide +kernel) (by show (cells + 1) ≤ 664929; omega) (by show (slots + 6) ≤ 7101316; omega) (q_J_W hJ1) hS1 (fun q z => hL.2.2.2.2.2 q (Or.inl z)) (fun U hU hWU => q_Law_sta hL hS1 hU hWU) hl.1 rfl (Nat.le_of_ble_eq_true rfl) dl_948 (fun G0 gl0 hG0 gz0 gk0 hSg0 => ?_)
  have hJg0 : va_P D qCl (q_J ad cI cZ cQ aO cL h2 o1) G0 := q_J_mk hG0 (by rw [gk0 aO (Array.getElem?_eq_some_iff.mp (q_J_O hJ1)).1 hL.2.2.2.2.1]; exact q_J_O hJ1)
  refine lv_istore hx hb dl_951 hl (by decide) rfl (fun ls6 hl => ?_)
  have hl : lv_has ls6 7 [(6, .int v), (5, .int k), (0, .ref b), (1, .ref (ad 0)), (2, .ref (ad 30)), (3, .ref aO), (4, .int (nI i))] := hl
  refine lv_aload_n hx hb dl_953 rfl (lv_at hl 4 rfl) ?_
  refine q_ucall (j := 92) (ro := 30) (idx := 94) (as := []) (rest := []) (A0 := q_A0 s) ⟨hx, hb, hml, hown, hts⟩ hL.1.1 (by decide) (by decide) rfl hT rfl rfl (q_inAt ll_94 rfl) (by decide +kernel) (by decide +kernel) (by show (cells + 1) ≤ 664929; omega) (by show (slots + 6) ≤ 7101316; omega) (q_J_W hJg0) hSg0 (fun q z => hL.2.2.2.2.2 q (Or.inl z)) (fun U hU hWU => q_Law_sta hL hSg0 hU hWU) hl.1 rfl (Nat.le_of_ble_eq_true rfl) dl_954 (fun G1 gl1 hG1 gz1 gk1 hSg1 => ?_)
  have hJg1 : va_P D qCl (q_J ad cI cZ cQ aO cL h2 o1) G1 := q_J_mk hG1 (by rw [gk1 aO (Array.getElem?_eq_some_iff.mp (q_J_O hJg0)).1 hL.2.2.2.2.1]; exact q_J_O hJg0)
  refine lv_iload hx hb dl_957 (lv_at hl 1 rfl) ?_
  refine lv_icmp_eq hx hb dl_959 rfl (fun _ => ?_) (fun hc9 => absurd hth hc9)
  refine lv_iload hx hb dl_964 (lv_at hl 1 rfl) ?_
  refine lv_if_ne hx hb dl_966 rfl (fun hk0 => ?_) (fun hk0 => ?_)
  · refine lv_goto hx hb dl_981 rfl ?_
    exact kk _ _ _ (lv_sub hl [2, 3, 4, 5, 6] rfl) hJg1 hSg1
  · have ho := hout hk0
    refine lv_aload_n hx hb dl_969 rfl (lv_at hl 5 rfl) ?_
    refine lv_iconst (v := 0) hx hb dl_970 (by decide) ?_
    refine va_lald (D := D) (cl := qCl) hx hb hL.2.2.1 hJg1 47 0 q_J_47 rfl q_in01 dl_971 ?_
    show W _ _ _ _ _ _ _ _ _ _ _ _ _ _ _ (F0 m _ _ [.long o1])
    rw [ho]
    refine lv_iload hx hb dl_972 (lv_at hl 0 rfl) ?_
    refine lv_i2l (v := v.toInt64) hx hb dl_974 rfl ?_
    refine W.lcmp hx hb dl_975 ?_
    rw [q_cmp0]
    refine lv_if_eq hx hb dl_976 rfl (fun _ => ?_) (fun hc9 => absurd rfl hc9)
    refine lv_goto hx hb dl_981 rfl ?_
    exact kk _ _ _ (lv_sub hl [2, 3, 4, 5, 6] rfl) hJg1 hSg1
theorem ll_158 : lw_tbl[263]? = some (.methodLink "CashRecyclerLaw" 158 (qmY 86)) := by decide +kernel
theorem ll_161 : lw_tbl[968]? = some (.methodLink "CashRecyclerLaw" 161 (qmY 129)) := by decide +kernel
set_option maxHeartbeats 4000000 in
theorem lc_state {p : Program} {l : Launch} {e : Env} {s : State} {m : MethodId} {below : List Frame} {meth : Method} {c : Code} {H : Heap} {locs : List Loc} {cells slots : Nat} {Q : State → Prop} {D : va_G} {ad : Nat → Nat} {cI cZ cQ cL : ClassId} {aO b Ln i : Nat} {xs : Nat → Int32} {ls : Array Slot} {h h1 h2 : HP} {o o1 : Int64} (hx : p.tables.exec = Jvm.exec) (hb : c.code = code) (hml : c.maxLocals = 7) (hown : s.vm.findClass "CashRecyclerLaw" = some m.cls) (hts : ∀ w ∈ q_WS, w.before #[Value.ref b] s = true) (hX : va_X b Ln xs s s.heap) (hbl : b < s.heap.size) (hL : q_Law D ad cI cZ cQ aO cL s) (hi : i + 2 < Ln) (hLn : Ln ≤ 1536) (hc : cells + 1 ≤ 664929) (hs : slots + 6 ≤ 7101316) (hl : lv_has ls 7 [(0, .ref b), (1, .ref (ad 0)), (2, .ref (ad 30)), (3, .ref aO), (4, .int (nI i))]) (hJ : va_P D qCl (q_J ad cI cZ cQ aO cL h o) H) (hS : va_S (q_A0 s) s.heap H locs) {v : Int32} (hC : Ec 86 [.inr 0] h (.inl (some v), h1)) (hM : Ec 129 [.inr 30] h1 (.inl (some v), h2)) (kk : ∀ (ls' : Array Slot) (H' : Heap) (locs' : List Loc), lv_has ls' 7 [(0, .ref b), (1, .ref (ad 0)), (2, .ref (ad 30)), (3, .ref aO), (4, .int (nI i))] → va_P D qCl (q_J ad cI cZ cQ aO cL h2 o) H' → va_S (q_A0 s) s.heap H' locs' → W p l e room_1 s m #[Value.ref b] below meth c H' locs' (cells + 1) (slots + 6) Q (F0 m 1214 ls' [])) : W p l e room_1 s m #[Value.ref b] below meth c H locs cells slots Q (F0 m 984 ls []) := by
  refine lv_aload_n hx hb dl_984 rfl (lv_at hl 1 rfl) ?_
  refine q_ucall (j := 86) (ro := 0) (idx := 158) (as := []) (rest := []) (A0 := q_A0 s) ⟨hx, hb, hml, hown, hts⟩ hL.1.1 (by decide) (by decide) rfl hC rfl rfl (q_inAt ll_158 rfl) (by decide +kernel) (by decide +kernel) (by show cells ≤ 664929; omega) (by show slots ≤ 7101316; omega) (q_J_W hJ) hS (fun q z => hL.2.2.2.2.2 q (Or.inl z)) (fun U hU hWU => q_Law_sta hL hS hU hWU) hl.1 rfl (Nat.le_of_ble_eq_true rfl) dl_985 (fun G0 gl0 hG0 gz0 gk0 hSg0 => ?_)
  have hJg0 : va_P D qCl (q_J ad cI cZ cQ aO cL h1 o) G0 := q_J_mk hG0 (by rw [gk0 aO (Array.getElem?_eq_some_iff.mp (q_J_O hJ)).1 hL.2.2.2.2.1]; exact q_J_O hJ)
  refine lv_aload_n hx hb dl_988 rfl (lv_at hl 2 rfl) ?_
  refine q_ucall (j := 129) (ro := 30) (idx := 161) (as := []) (rest := [.int v]) (A0 := q_A0 s) ⟨hx, hb, hml, hown, hts⟩ hL.1.1 (by decide) (by decide) rfl hM rfl rfl (q_inAt ll_161 rfl) (by decide +kernel) (by decide +kernel) (by show cells ≤ 664929; omega) (by show slots ≤ 7101316; omega) (q_J_W hJg0) hSg0 (fun q z => hL.2.2.2.2.2 q (Or.inl z)) (fun U hU hWU => q_Law_sta hL hSg0 hU hWU) hl.1 rfl (Nat.le_of_ble_eq_true rfl) dl_989 (fun G1 gl1 hG1 gz1 gk1 hSg1 => ?_)
  have hJg1 : va_P D qCl (q_J ad cI cZ cQ aO cL h2 o) G1 := q_J_mk hG1 (by rw [gk1 aO (Array.getElem?_eq_some_iff.mp (q_J_O hJg0)).1 hL.2.2.2.2.1]; exact q_J_O hJg0)
  refine lv_icmp_eq hx hb dl_992 rfl (fun _ => ?_) (fun hc9 => absurd rfl hc9)
  refine W.widen (k := cells + 1) (n := slots + 6) (by omega) (by omega) ?_
  exact kk _ _ _ hl hJg1 hSg1
theorem ll_164 : lw_tbl[972]? = some (.methodLink "CashRecyclerLaw" 164 (qmY 133)) := by decide +kernel
theorem lc_notes_w : lw_tbl[719]? = some (.methodLink "CashRecyclerLaw" 162 yw_notes) ∧ lw_tbl[720]? = some (.static yw_notes) ∧ lw_tbl[721]? = some (.codeWith yw_notes method_20_code 5 (some .int) [(0, 10, 13, 13)]) ∧ (parseMethodDescriptor yw_notes.desc).map (fun d => d.parameters.length) = some 4 := by decide +kernel
set_option maxHeartbeats 4000000 in
theorem lc_notes {p : Program} {l : Launch} {e : Env} {s : State} {m : MethodId} {below : List Frame} {meth : Method} {c : Code} {H : Heap} {locs : List Loc} {cells slots : Nat} {Q : State → Prop} {D : va_G} {ad : Nat → Nat} {cI cZ cQ cL : ClassId} {aO b Ln i : Nat} {xs : Nat → Int32} {ls : Array Slot} {h h1 h2 : HP} {o o1 : Int64} (hx : p.tables.exec = Jvm.exec) (hb : c.code = code) (hml : c.maxLocals = 7) (hown : s.vm.findClass "CashRecyclerLaw" = some m.cls) (hts : ∀ w ∈ q_WS, w.before #[Value.ref b] s = true) (hX : va_X b Ln xs s s.heap) (hbl : b < s.heap.size) (hL : q_Law D ad cI cZ cQ aO cL s) (hi : i + 2 < Ln) (hLn : Ln ≤ 1536) (hc : cells + 1 ≤ 664929) (hs : slots + 6 ≤ 7101316) (hl : lv_has ls 7 [(0, .ref b), (1, .ref (ad 0)), (2, .ref (ad 30)), (3, .ref aO), (4, .int (nI i))]) (hJ : va_P D qCl (q_J ad cI cZ cQ aO cL h o) H) (hS : va_S (q_A0 s) s.heap H locs) {k : Int32} {v : Int32} (hW : q_MetL l D ad cI cZ cQ aO cL yw_notes ws_notes rw_notes [.ref (ad 0), .int (xs (i + 1)), .int (xs (i + 2)), .ref aO] h o k h1 o1) (hM : Ec 133 [.inr 30, .inl (xs (i + 1)), .inl (xs (i + 2))] h1 (.inl (some v), h2)) (hth : h2 30 0 = k) (hT : Ec 92 [.inr 30] h2 (.inl (some (h2 30 0)), h2)) (hout : k = 0 → o1 = v.toInt64) (kk : ∀ (ls' : Array Slot) (H' : Heap) (locs' : List Loc), lv_has ls' 7 [(0, .ref b), (1, .ref (ad 0)), (2, .ref (ad 30)), (3, .ref aO), (4, .int (nI i))] → va_P D qCl (q_J ad cI cZ cQ aO cL h2 o1) H' → va_S (q_A0 s) s.heap H' locs' → W p l e room_1 s m #[Value.ref b] below meth c H' locs' (cells + 1) (slots + 6) Q (F0 m 1214 ls' [])) : W p l e room_1 s m #[Value.ref b] below meth c H locs cells slots Q (F0 m 997 ls []) := by
  refine lv_aload_n hx hb dl_997 rfl (lv_at hl 1 rfl) ?_
  refine lv_aload_n hx hb dl_998 rfl (lv_at hl 0 rfl) ?_
  refine lv_iload hx hb dl_999 (lv_at hl 4 rfl) ?_
  refine lv_iconst (v := 1) hx hb dl_1001 (by decide) ?_
  refine lv_iadd hx hb dl_1002 ?_
  rw [nI_1]
  refine va_sld hx hb hX hbl (fun z => by have : s.heap.size ≤ b := z; omega) hS (nI_in (by omega) (by omega)) dl_1003 ?_
  rw [nI_clamp (show i + 1 < 2 ^ 31 by omega)]
  refine lv_aload_n hx hb dl_1004 rfl (lv_at hl 0 rfl) ?_
  refine lv_iload hx hb dl_1005 (lv_at hl 4 rfl) ?_
  refine lv_iconst (v := 2) hx hb dl_1007 (by decide) ?_
  refine lv_iadd hx hb dl_1008 ?_
  rw [q_nI2]
  refine va_sld hx hb hX hbl (fun z => by have : s.heap.size ≤ b := z; omega) hS (nI_in (by omega) (by omega)) dl_1009 ?_
  rw [nI_clamp (show i + 2 < 2 ^ 31 by omega)]
  refine lv_aload_n hx hb dl_1010 rfl (lv_at hl 3 rfl) ?_
  refine q_lcall (idx := 162) ⟨hx, hb, hml, hown, hts⟩ hL hW rfl rfl (by decide +kernel) (by decide +kernel) (q_inAt lc_notes_w.2.2.1 rfl) (q_inAt lc_notes_w.2.1 rfl) (q_inAt lc_notes_w.1 rfl) rfl lc_notes_w.2.2.2 hJ hS hc hs hl.1 rfl dl_1011 (fun H1 locs1 hJ1 hS1 => ?_)
  refine lv_istore hx hb dl_1014 hl (by decide) rfl (fun ls5 hl => ?_)
  have hl : lv_has ls5 7 [(5, .int k), (0, .ref b), (1, .ref (ad 0)), (2, .ref (ad 30)), (3, .ref aO), (4, .int (nI i))] := hl
  refine lv_aload_n hx hb dl_1016 rfl (lv_at hl 3 rfl) ?_
  refine lv_aload_n hx hb dl_1017 rfl (lv_at hl 1 rfl) ?_
  refine lv_iload hx hb dl_1018 (lv_at hl 5 rfl) ?_
  refine lv_iconst (v := 1) hx hb dl_1020 (by decide) ?_
  refine lv_iadd hx hb dl_1021 ?_
  rw [nI_1]
  refine va_sld hx hb hX hbl (fun z => by have : s.heap.size ≤ b := z; omega) hS1 (nI_in (by omega) (by omega)) dl_1022 ?_
  rw [nI_clamp (show i + 1 < 2 ^ 31 by omega)]
  refine lv_aload_n hx hb dl_1023 rfl (lv_at hl 1 rfl) ?_
  refine lv_iload hx hb dl_1024 (lv_at hl 5 rfl) ?_
  refine lv_iconst (v := 2) hx hb dl_1026 (by decide) ?_
  refine lv_iadd hx hb dl_1027 ?_
  rw [q_nI2]
  refine va_sld hx hb hX hbl (fun z => by have : s.heap.size ≤ b := z; omega) hS1 (nI_in (by omega) (by omega)) dl_1028 ?_
  rw [nI_clamp (show i + 2 < 2 ^ 31 by omega)]
  refine q_ucall (j := 133) (ro := 30) (idx := 164) (as := [.inl (xs (i + 1)), .inl (xs (i + 2))]) (rest := []) (A0 := q_A0 s) ⟨hx, hb, hml, hown, hts⟩ hL.1.1 (by decide) (by decide) rfl hM rfl rfl (q_inAt ll_164 rfl) (by decide +kernel) (by decide +kernel) (by show (cells + 1) ≤ 664929; omega) (by show (slots + 6) ≤ 7101316; omega) (q_J_W hJ1) hS1 (fun q z => hL.2.2.2.2.2 q (Or.inl z)) (fun U hU hWU => q_Law_sta hL hS1 hU hWU) hl.1 rfl (Nat.le_of_ble_eq_true rfl) dl_1029 (fun G0 gl0 hG0 gz0 gk0 hSg0 => ?_)
  have hJg0 : va_P D qCl (q_J ad cI cZ cQ aO cL h2 o1) G0 := q_J_mk hG0 (by rw [gk0 aO (Array.getElem?_eq_some_iff.mp (q_J_O hJ1)).1 hL.2.2.2.2.1]; exact q_J_O hJ1)
  refine lv_istore hx hb dl_1032 hl (by decide) rfl (fun ls6 hl => ?_)
  have hl : lv_has ls6 7 [(6, .int v), (5, .int k), (0, .ref b), (1, .ref (ad 0)), (2, .ref (ad 30)), (3, .ref aO), (4, .int (nI i))] := hl
  refine lv_aload_n hx hb dl_1034 rfl (lv_at hl 4 rfl) ?_
  refine q_ucall (j := 92) (ro := 30) (idx := 94) (as := []) (rest := []) (A0 := q_A0 s) ⟨hx, hb, hml, hown, hts⟩ hL.1.1 (by decide) (by decide) rfl hT rfl rfl (q_inAt ll_94 rfl) (by decide +kernel) (by decide +kernel) (by show (cells + 1) ≤ 664929; omega) (by show (slots + 6) ≤ 7101316; omega) (q_J_W hJg0) hSg0 (fun q z => hL.2.2.2.2.2 q (Or.inl z)) (fun U hU hWU => q_Law_sta hL hSg0 hU hWU) hl.1 rfl (Nat.le_of_ble_eq_true rfl) dl_1035 (fun G1 gl1 hG1 gz1 gk1 hSg1 => ?_)
  have hJg1 : va_P D qCl (q_J ad cI cZ cQ aO cL h2 o1) G1 := q_J_mk hG1 (by rw [gk1 aO (Array.getElem?_eq_some_iff.mp (q_J_O hJg0)).1 hL.2.2.2.2.1]; exact q_J_O hJg0)
  refine lv_iload hx hb dl_1038 (lv_at hl 1 rfl) ?_
  refine lv_icmp_eq hx hb dl_1040 rfl (fun _ => ?_) (fun hc9 => absurd hth hc9)
  refine lv_iload hx hb dl_1045 (lv_at hl 1 rfl) ?_
  refine lv_if_ne hx hb dl_1047 rfl (fun hk0 => ?_) (fun hk0 => ?_)
  · refine lv_goto hx hb dl_1062 rfl ?_
    exact kk _ _ _ (lv_sub hl [2, 3, 4, 5, 6] rfl) hJg1 hSg1
  · have ho := hout hk0
    refine lv_aload_n hx hb dl_1050 rfl (lv_at hl 5 rfl) ?_
    refine lv_iconst (v := 0) hx hb dl_1051 (by decide) ?_
    refine va_lald (D := D) (cl := qCl) hx hb hL.2.2.1 hJg1 47 0 q_J_47 rfl q_in01 dl_1052 ?_
    show W _ _ _ _ _ _ _ _ _ _ _ _ _ _ _ (F0 m _ _ [.long o1])
    rw [ho]
    refine lv_iload hx hb dl_1053 (lv_at hl 0 rfl) ?_
    refine lv_i2l (v := v.toInt64) hx hb dl_1055 rfl ?_
    refine W.lcmp hx hb dl_1056 ?_
    rw [q_cmp0]
    refine lv_if_eq hx hb dl_1057 rfl (fun _ => ?_) (fun hc9 => absurd rfl hc9)
    refine lv_goto hx hb dl_1062 rfl ?_
    exact kk _ _ _ (lv_sub hl [2, 3, 4, 5, 6] rfl) hJg1 hSg1
theorem ll_167 : lw_tbl[988]? = some (.methodLink "CashRecyclerLaw" 167 (qmY 134)) := by decide +kernel
theorem lc_cassette_w : lw_tbl[726]? = some (.methodLink "CashRecyclerLaw" 165 yw_cassette) ∧ lw_tbl[727]? = some (.static yw_cassette) ∧ lw_tbl[728]? = some (.codeWith yw_cassette method_21_code 5 (some .int) [(0, 10, 13, 13)]) ∧ (parseMethodDescriptor yw_cassette.desc).map (fun d => d.parameters.length) = some 4 := by decide +kernel
set_option maxHeartbeats 4000000 in
theorem lc_cassette {p : Program} {l : Launch} {e : Env} {s : State} {m : MethodId} {below : List Frame} {meth : Method} {c : Code} {H : Heap} {locs : List Loc} {cells slots : Nat} {Q : State → Prop} {D : va_G} {ad : Nat → Nat} {cI cZ cQ cL : ClassId} {aO b Ln i : Nat} {xs : Nat → Int32} {ls : Array Slot} {h h1 h2 : HP} {o o1 : Int64} (hx : p.tables.exec = Jvm.exec) (hb : c.code = code) (hml : c.maxLocals = 7) (hown : s.vm.findClass "CashRecyclerLaw" = some m.cls) (hts : ∀ w ∈ q_WS, w.before #[Value.ref b] s = true) (hX : va_X b Ln xs s s.heap) (hbl : b < s.heap.size) (hL : q_Law D ad cI cZ cQ aO cL s) (hi : i + 2 < Ln) (hLn : Ln ≤ 1536) (hc : cells + 1 ≤ 664929) (hs : slots + 6 ≤ 7101316) (hl : lv_has ls 7 [(0, .ref b), (1, .ref (ad 0)), (2, .ref (ad 30)), (3, .ref aO), (4, .int (nI i))]) (hJ : va_P D qCl (q_J ad cI cZ cQ aO cL h o) H) (hS : va_S (q_A0 s) s.heap H locs) {k : Int32} {v : Int32} (hW : q_MetL l D ad cI cZ cQ aO cL yw_cassette ws_cassette rw_cassette [.ref (ad 0), .int (xs (i + 1)), .int (xs (i + 2)), .ref aO] h o k h1 o1) (hM : Ec 134 [.inr 30, .inl (xs (i + 1)), .inl (xs (i + 2))] h1 (.inl (some v), h2)) (hth : h2 30 0 = k) (hT : Ec 92 [.inr 30] h2 (.inl (some (h2 30 0)), h2)) (hout : k = 0 → o1 = v.toInt64) (kk : ∀ (ls' : Array Slot) (H' : Heap) (locs' : List Loc), lv_has ls' 7 [(0, .ref b), (1, .ref (ad 0)), (2, .ref (ad 30)), (3, .ref aO), (4, .int (nI i))] → va_P D qCl (q_J ad cI cZ cQ aO cL h2 o1) H' → va_S (q_A0 s) s.heap H' locs' → W p l e room_1 s m #[Value.ref b] below meth c H' locs' (cells + 1) (slots + 6) Q (F0 m 1214 ls' [])) : W p l e room_1 s m #[Value.ref b] below meth c H locs cells slots Q (F0 m 1065 ls []) := by
  refine lv_aload_n hx hb dl_1065 rfl (lv_at hl 1 rfl) ?_
  refine lv_aload_n hx hb dl_1066 rfl (lv_at hl 0 rfl) ?_
  refine lv_iload hx hb dl_1067 (lv_at hl 4 rfl) ?_
  refine lv_iconst (v := 1) hx hb dl_1069 (by decide) ?_
  refine lv_iadd hx hb dl_1070 ?_
  rw [nI_1]
  refine va_sld hx hb hX hbl (fun z => by have : s.heap.size ≤ b := z; omega) hS (nI_in (by omega) (by omega)) dl_1071 ?_
  rw [nI_clamp (show i + 1 < 2 ^ 31 by omega)]
  refine lv_aload_n hx hb dl_1072 rfl (lv_at hl 0 rfl) ?_
  refine lv_iload hx hb dl_1073 (lv_at hl 4 rfl) ?_
  refine lv_iconst (v := 2) hx hb dl_1075 (by decide) ?_
  refine lv_iadd hx hb dl_1076 ?_
  rw [q_nI2]
  refine va_sld hx hb hX hbl (fun z => by have : s.heap.size ≤ b := z; omega) hS (nI_in (by omega) (by omega)) dl_1077 ?_
  rw [nI_clamp (show i + 2 < 2 ^ 31 by omega)]
  refine lv_aload_n hx hb dl_1078 rfl (lv_at hl 3 rfl) ?_
  refine q_lcall (idx := 165) ⟨hx, hb, hml, hown, hts⟩ hL hW rfl rfl (by decide +kernel) (by decide +kernel) (q_inAt lc_cassette_w.2.2.1 rfl) (q_inAt lc_cassette_w.2.1 rfl) (q_inAt lc_cassette_w.1 rfl) rfl lc_cassette_w.2.2.2 hJ hS hc hs hl.1 rfl dl_1079 (fun H1 locs1 hJ1 hS1 => ?_)
  refine lv_istore hx hb dl_1082 hl (by decide) rfl (fun ls5 hl => ?_)
  have hl : lv_has ls5 7 [(5, .int k), (0, .ref b), (1, .ref (ad 0)), (2, .ref (ad 30)), (3, .ref aO), (4, .int (nI i))] := hl
  refine lv_aload_n hx hb dl_1084 rfl (lv_at hl 3 rfl) ?_
  refine lv_aload_n hx hb dl_1085 rfl (lv_at hl 1 rfl) ?_
  refine lv_iload hx hb dl_1086 (lv_at hl 5 rfl) ?_
  refine lv_iconst (v := 1) hx hb dl_1088 (by decide) ?_
  refine lv_iadd hx hb dl_1089 ?_
  rw [nI_1]
  refine va_sld hx hb hX hbl (fun z => by have : s.heap.size ≤ b := z; omega) hS1 (nI_in (by omega) (by omega)) dl_1090 ?_
  rw [nI_clamp (show i + 1 < 2 ^ 31 by omega)]
  refine lv_aload_n hx hb dl_1091 rfl (lv_at hl 1 rfl) ?_
  refine lv_iload hx hb dl_1092 (lv_at hl 5 rfl) ?_
  refine lv_iconst (v := 2) hx hb dl_1094 (by decide) ?_
  refine lv_iadd hx hb dl_1095 ?_
  rw [q_nI2]
  refine va_sld hx hb hX hbl (fun z => by have : s.heap.size ≤ b := z; omega) hS1 (nI_in (by omega) (by omega)) dl_1096 ?_
  rw [nI_clamp (show i + 2 < 2 ^ 31 by omega)]
  refine q_ucall (j := 134) (ro := 30) (idx := 167) (as := [.inl (xs (i + 1)), .inl (xs (i + 2))]) (rest := []) (A0 := q_A0 s) ⟨hx, hb, hml, hown, hts⟩ hL.1.1 (by decide) (by decide) rfl hM rfl rfl (q_inAt ll_167 rfl) (by decide +kernel) (by decide +kernel) (by show (cells + 1) ≤ 664929; omega) (by show (slots + 6) ≤ 7101316; omega) (q_J_W hJ1) hS1 (fun q z => hL.2.2.2.2.2 q (Or.inl z)) (fun U hU hWU => q_Law_sta hL hS1 hU hWU) hl.1 rfl (Nat.le_of_ble_eq_true rfl) dl_1097 (fun G0 gl0 hG0 gz0 gk0 hSg0 => ?_)
  have hJg0 : va_P D qCl (q_J ad cI cZ cQ aO cL h2 o1) G0 := q_J_mk hG0 (by rw [gk0 aO (Array.getElem?_eq_some_iff.mp (q_J_O hJ1)).1 hL.2.2.2.2.1]; exact q_J_O hJ1)
  refine lv_istore hx hb dl_1100 hl (by decide) rfl (fun ls6 hl => ?_)
  have hl : lv_has ls6 7 [(6, .int v), (5, .int k), (0, .ref b), (1, .ref (ad 0)), (2, .ref (ad 30)), (3, .ref aO), (4, .int (nI i))] := hl
  refine lv_aload_n hx hb dl_1102 rfl (lv_at hl 4 rfl) ?_
  refine q_ucall (j := 92) (ro := 30) (idx := 94) (as := []) (rest := []) (A0 := q_A0 s) ⟨hx, hb, hml, hown, hts⟩ hL.1.1 (by decide) (by decide) rfl hT rfl rfl (q_inAt ll_94 rfl) (by decide +kernel) (by decide +kernel) (by show (cells + 1) ≤ 664929; omega) (by show (slots + 6) ≤ 7101316; omega) (q_J_W hJg0) hSg0 (fun q z => hL.2.2.2.2.2 q (Or.inl z)) (fun U hU hWU => q_Law_sta hL hSg0 hU hWU) hl.1 rfl (Nat.le_of_ble_eq_true rfl) dl_1103 (fun G1 gl1 hG1 gz1 gk1 hSg1 => ?_)
  have hJg1 : va_P D qCl (q_J ad cI cZ cQ aO cL h2 o1) G1 := q_J_mk hG1 (by rw [gk1 aO (Array.getElem?_eq_some_iff.mp (q_J_O hJg0)).1 hL.2.2.2.2.1]; exact q_J_O hJg0)
  refine lv_iload hx hb dl_1106 (lv_at hl 1 rfl) ?_
  refine lv_icmp_eq hx hb dl_1108 rfl (fun _ => ?_) (fun hc9 => absurd hth hc9)
  refine lv_iload hx hb dl_1113 (lv_at hl 1 rfl) ?_
  refine lv_if_ne hx hb dl_1115 rfl (fun hk0 => ?_) (fun hk0 => ?_)
  · refine lv_goto hx hb dl_1130 rfl ?_
    exact kk _ _ _ (lv_sub hl [2, 3, 4, 5, 6] rfl) hJg1 hSg1
  · have ho := hout hk0
    refine lv_aload_n hx hb dl_1118 rfl (lv_at hl 5 rfl) ?_
    refine lv_iconst (v := 0) hx hb dl_1119 (by decide) ?_
    refine va_lald (D := D) (cl := qCl) hx hb hL.2.2.1 hJg1 47 0 q_J_47 rfl q_in01 dl_1120 ?_
    show W _ _ _ _ _ _ _ _ _ _ _ _ _ _ _ (F0 m _ _ [.long o1])
    rw [ho]
    refine lv_iload hx hb dl_1121 (lv_at hl 0 rfl) ?_
    refine lv_i2l (v := v.toInt64) hx hb dl_1123 rfl ?_
    refine W.lcmp hx hb dl_1124 ?_
    rw [q_cmp0]
    refine lv_if_eq hx hb dl_1125 rfl (fun _ => ?_) (fun hc9 => absurd rfl hc9)
    refine lv_goto hx hb dl_1130 rfl ?_
    exact kk _ _ _ (lv_sub hl [2, 3, 4, 5, 6] rfl) hJg1 hSg1
theorem ll_170 : lw_tbl[992]? = some (.methodLink "CashRecyclerLaw" 170 (qmY 135)) := by decide +kernel
theorem lc_belt_w : lw_tbl[733]? = some (.methodLink "CashRecyclerLaw" 168 yw_belt) ∧ lw_tbl[734]? = some (.static yw_belt) ∧ lw_tbl[735]? = some (.codeWith yw_belt method_22_code 5 (some .int) [(0, 10, 13, 13)]) ∧ (parseMethodDescriptor yw_belt.desc).map (fun d => d.parameters.length) = some 4 := by decide +kernel
set_option maxHeartbeats 4000000 in
theorem lc_belt {p : Program} {l : Launch} {e : Env} {s : State} {m : MethodId} {below : List Frame} {meth : Method} {c : Code} {H : Heap} {locs : List Loc} {cells slots : Nat} {Q : State → Prop} {D : va_G} {ad : Nat → Nat} {cI cZ cQ cL : ClassId} {aO b Ln i : Nat} {xs : Nat → Int32} {ls : Array Slot} {h h1 h2 : HP} {o o1 : Int64} (hx : p.tables.exec = Jvm.exec) (hb : c.code = code) (hml : c.maxLocals = 7) (hown : s.vm.findClass "CashRecyclerLaw" = some m.cls) (hts : ∀ w ∈ q_WS, w.before #[Value.ref b] s = true) (hX : va_X b Ln xs s s.heap) (hbl : b < s.heap.size) (hL : q_Law D ad cI cZ cQ aO cL s) (hi : i + 2 < Ln) (hLn : Ln ≤ 1536) (hc : cells + 1 ≤ 664929) (hs : slots + 6 ≤ 7101316) (hl : lv_has ls 7 [(0, .ref b), (1, .ref (ad 0)), (2, .ref (ad 30)), (3, .ref aO), (4, .int (nI i))]) (hJ : va_P D qCl (q_J ad cI cZ cQ aO cL h o) H) (hS : va_S (q_A0 s) s.heap H locs) {k : Int32} {v : Int32} (hW : q_MetL l D ad cI cZ cQ aO cL yw_belt ws_belt rw_belt [.ref (ad 0), .int (xs (i + 1)), .int (xs (i + 2)), .ref aO] h o k h1 o1) (hM : Ec 135 [.inr 30, .inl (xs (i + 1)), .inl (xs (i + 2))] h1 (.inl (some v), h2)) (hth : h2 30 0 = k) (hT : Ec 92 [.inr 30] h2 (.inl (some (h2 30 0)), h2)) (hout : k = 0 → o1 = v.toInt64) (kk : ∀ (ls' : Array Slot) (H' : Heap) (locs' : List Loc), lv_has ls' 7 [(0, .ref b), (1, .ref (ad 0)), (2, .ref (ad 30)), (3, .ref aO), (4, .int (nI i))] → va_P D qCl (q_J ad cI cZ cQ aO cL h2 o1) H' → va_S (q_A0 s) s.heap H' locs' → W p l e room_1 s m #[Value.ref b] below meth c H' locs' (cells + 1) (slots + 6) Q (F0 m 1214 ls' [])) : W p l e room_1 s m #[Value.ref b] below meth c H locs cells slots Q (F0 m 1133 ls []) := by
  refine lv_aload_n hx hb dl_1133 rfl (lv_at hl 1 rfl) ?_
  refine lv_aload_n hx hb dl_1134 rfl (lv_at hl 0 rfl) ?_
  refine lv_iload hx hb dl_1135 (lv_at hl 4 rfl) ?_
  refine lv_iconst (v := 1) hx hb dl_1137 (by decide) ?_
  refine lv_iadd hx hb dl_1138 ?_
  rw [nI_1]
  refine va_sld hx hb hX hbl (fun z => by have : s.heap.size ≤ b := z; omega) hS (nI_in (by omega) (by omega)) dl_1139 ?_
  rw [nI_clamp (show i + 1 < 2 ^ 31 by omega)]
  refine lv_aload_n hx hb dl_1140 rfl (lv_at hl 0 rfl) ?_
  refine lv_iload hx hb dl_1141 (lv_at hl 4 rfl) ?_
  refine lv_iconst (v := 2) hx hb dl_1143 (by decide) ?_
  refine lv_iadd hx hb dl_1144 ?_
  rw [q_nI2]
  refine va_sld hx hb hX hbl (fun z => by have : s.heap.size ≤ b := z; omega) hS (nI_in (by omega) (by omega)) dl_1145 ?_
  rw [nI_clamp (show i + 2 < 2 ^ 31 by omega)]
  refine lv_aload_n hx hb dl_1146 rfl (lv_at hl 3 rfl) ?_
  refine q_lcall (idx := 168) ⟨hx, hb, hml, hown, hts⟩ hL hW rfl rfl (by decide +kernel) (by decide +kernel) (q_inAt lc_belt_w.2.2.1 rfl) (q_inAt lc_belt_w.2.1 rfl) (q_inAt lc_belt_w.1 rfl) rfl lc_belt_w.2.2.2 hJ hS hc hs hl.1 rfl dl_1147 (fun H1 locs1 hJ1 hS1 => ?_)
  refine lv_istore hx hb dl_1150 hl (by decide) rfl (fun ls5 hl => ?_)
  have hl : lv_has ls5 7 [(5, .int k), (0, .ref b), (1, .ref (ad 0)), (2, .ref (ad 30)), (3, .ref aO), (4, .int (nI i))] := hl
  refine lv_aload_n hx hb dl_1152 rfl (lv_at hl 3 rfl) ?_
  refine lv_aload_n hx hb dl_1153 rfl (lv_at hl 1 rfl) ?_
  refine lv_iload hx hb dl_1154 (lv_at hl 5 rfl) ?_
  refine lv_iconst (v := 1) hx hb dl_1156 (by decide) ?_
  refine lv_iadd hx hb dl_1157 ?_
  rw [nI_1]
  refine va_sld hx hb hX hbl (fun z => by have : s.heap.size ≤ b := z; omega) hS1 (nI_in (by omega) (by omega)) dl_1158 ?_
  rw [nI_clamp (show i + 1 < 2 ^ 31 by omega)]
  refine lv_aload_n hx hb dl_1159 rfl (lv_at hl 1 rfl) ?_
  refine lv_iload hx hb dl_1160 (lv_at hl 5 rfl) ?_
  refine lv_iconst (v := 2) hx hb dl_1162 (by decide) ?_
  refine lv_iadd hx hb dl_1163 ?_
  rw [q_nI2]
  refine va_sld hx hb hX hbl (fun z => by have : s.heap.size ≤ b := z; omega) hS1 (nI_in (by omega) (by omega)) dl_1164 ?_
  rw [nI_clamp (show i + 2 < 2 ^ 31 by omega)]
  refine q_ucall (j := 135) (ro := 30) (idx := 170) (as := [.inl (xs (i + 1)), .inl (xs (i + 2))]) (rest := []) (A0 := q_A0 s) ⟨hx, hb, hml, hown, hts⟩ hL.1.1 (by decide) (by decide) rfl hM rfl rfl (q_inAt ll_170 rfl) (by decide +kernel) (by decide +kernel) (by show (cells + 1) ≤ 664929; omega) (by show (slots + 6) ≤ 7101316; omega) (q_J_W hJ1) hS1 (fun q z => hL.2.2.2.2.2 q (Or.inl z)) (fun U hU hWU => q_Law_sta hL hS1 hU hWU) hl.1 rfl (Nat.le_of_ble_eq_true rfl) dl_1165 (fun G0 gl0 hG0 gz0 gk0 hSg0 => ?_)
  have hJg0 : va_P D qCl (q_J ad cI cZ cQ aO cL h2 o1) G0 := q_J_mk hG0 (by rw [gk0 aO (Array.getElem?_eq_some_iff.mp (q_J_O hJ1)).1 hL.2.2.2.2.1]; exact q_J_O hJ1)
  refine lv_istore hx hb dl_1168 hl (by decide) rfl (fun ls6 hl => ?_)
  have hl : lv_has ls6 7 [(6, .int v), (5, .int k), (0, .ref b), (1, .ref (ad 0)), (2, .ref (ad 30)), (3, .ref aO), (4, .int (nI i))] := hl
  refine lv_aload_n hx hb dl_1170 rfl (lv_at hl 4 rfl) ?_
  refine q_ucall (j := 92) (ro := 30) (idx := 94) (as := []) (rest := []) (A0 := q_A0 s) ⟨hx, hb, hml, hown, hts⟩ hL.1.1 (by decide) (by decide) rfl hT rfl rfl (q_inAt ll_94 rfl) (by decide +kernel) (by decide +kernel) (by show (cells + 1) ≤ 664929; omega) (by show (slots + 6) ≤ 7101316; omega) (q_J_W hJg0) hSg0 (fun q z => hL.2.2.2.2.2 q (Or.inl z)) (fun U hU hWU => q_Law_sta hL hSg0 hU hWU) hl.1 rfl (Nat.le_of_ble_eq_true rfl) dl_1171 (fun G1 gl1 hG1 gz1 gk1 hSg1 => ?_)
  have hJg1 : va_P D qCl (q_J ad cI cZ cQ aO cL h2 o1) G1 := q_J_mk hG1 (by rw [gk1 aO (Array.getElem?_eq_some_iff.mp (q_J_O hJg0)).1 hL.2.2.2.2.1]; exact q_J_O hJg0)
  refine lv_iload hx hb dl_1174 (lv_at hl 1 rfl) ?_
  refine lv_icmp_eq hx hb dl_1176 rfl (fun _ => ?_) (fun hc9 => absurd hth hc9)
  refine lv_iload hx hb dl_1181 (lv_at hl 1 rfl) ?_
  refine lv_if_ne hx hb dl_1183 rfl (fun hk0 => ?_) (fun hk0 => ?_)
  · refine lv_goto hx hb dl_1198 rfl ?_
    exact kk _ _ _ (lv_sub hl [2, 3, 4, 5, 6] rfl) hJg1 hSg1
  · have ho := hout hk0
    refine lv_aload_n hx hb dl_1186 rfl (lv_at hl 5 rfl) ?_
    refine lv_iconst (v := 0) hx hb dl_1187 (by decide) ?_
    refine va_lald (D := D) (cl := qCl) hx hb hL.2.2.1 hJg1 47 0 q_J_47 rfl q_in01 dl_1188 ?_
    show W _ _ _ _ _ _ _ _ _ _ _ _ _ _ _ (F0 m _ _ [.long o1])
    rw [ho]
    refine lv_iload hx hb dl_1189 (lv_at hl 0 rfl) ?_
    refine lv_i2l (v := v.toInt64) hx hb dl_1191 rfl ?_
    refine W.lcmp hx hb dl_1192 ?_
    rw [q_cmp0]
    refine lv_if_eq hx hb dl_1193 rfl (fun _ => ?_) (fun hc9 => absurd rfl hc9)
    refine lv_goto hx hb dl_1198 rfl ?_
    exact kk _ _ _ (lv_sub hl [2, 3, 4, 5, 6] rfl) hJg1 hSg1
theorem ll_171 : lw_tbl[267]? = some (.methodLink "CashRecyclerLaw" 171 (qmY 91)) := by decide +kernel
theorem ll_174 : lw_tbl[996]? = some (.methodLink "CashRecyclerLaw" 174 (qmY 136)) := by decide +kernel
set_option maxHeartbeats 4000000 in
theorem lc_balance {p : Program} {l : Launch} {e : Env} {s : State} {m : MethodId} {below : List Frame} {meth : Method} {c : Code} {H : Heap} {locs : List Loc} {cells slots : Nat} {Q : State → Prop} {D : va_G} {ad : Nat → Nat} {cI cZ cQ cL : ClassId} {aO b Ln i : Nat} {xs : Nat → Int32} {ls : Array Slot} {h h1 h2 : HP} {o o1 : Int64} (hx : p.tables.exec = Jvm.exec) (hb : c.code = code) (hml : c.maxLocals = 7) (hown : s.vm.findClass "CashRecyclerLaw" = some m.cls) (hts : ∀ w ∈ q_WS, w.before #[Value.ref b] s = true) (hX : va_X b Ln xs s s.heap) (hbl : b < s.heap.size) (hL : q_Law D ad cI cZ cQ aO cL s) (hi : i + 2 < Ln) (hLn : Ln ≤ 1536) (hc : cells + 1 ≤ 664929) (hs : slots + 6 ≤ 7101316) (hl : lv_has ls 7 [(0, .ref b), (1, .ref (ad 0)), (2, .ref (ad 30)), (3, .ref aO), (4, .int (nI i))]) (hJ : va_P D qCl (q_J ad cI cZ cQ aO cL h o) H) (hS : va_S (q_A0 s) s.heap H locs) {v : Int32} (hC : Ec 91 [.inr 0] h (.inl (some v), h1)) (hM : Ec 136 [.inr 30] h1 (.inl (some v), h2)) (kk : ∀ (ls' : Array Slot) (H' : Heap) (locs' : List Loc), lv_has ls' 7 [(0, .ref b), (1, .ref (ad 0)), (2, .ref (ad 30)), (3, .ref aO), (4, .int (nI i))] → va_P D qCl (q_J ad cI cZ cQ aO cL h2 o) H' → va_S (q_A0 s) s.heap H' locs' → W p l e room_1 s m #[Value.ref b] below meth c H' locs' (cells + 1) (slots + 6) Q (F0 m 1214 ls' [])) : W p l e room_1 s m #[Value.ref b] below meth c H locs cells slots Q (F0 m 1201 ls []) := by
  refine lv_aload_n hx hb dl_1201 rfl (lv_at hl 1 rfl) ?_
  refine q_ucall (j := 91) (ro := 0) (idx := 171) (as := []) (rest := []) (A0 := q_A0 s) ⟨hx, hb, hml, hown, hts⟩ hL.1.1 (by decide) (by decide) rfl hC rfl rfl (q_inAt ll_171 rfl) (by decide +kernel) (by decide +kernel) (by show cells ≤ 664929; omega) (by show slots ≤ 7101316; omega) (q_J_W hJ) hS (fun q z => hL.2.2.2.2.2 q (Or.inl z)) (fun U hU hWU => q_Law_sta hL hS hU hWU) hl.1 rfl (Nat.le_of_ble_eq_true rfl) dl_1202 (fun G0 gl0 hG0 gz0 gk0 hSg0 => ?_)
  have hJg0 : va_P D qCl (q_J ad cI cZ cQ aO cL h1 o) G0 := q_J_mk hG0 (by rw [gk0 aO (Array.getElem?_eq_some_iff.mp (q_J_O hJ)).1 hL.2.2.2.2.1]; exact q_J_O hJ)
  refine lv_aload_n hx hb dl_1205 rfl (lv_at hl 2 rfl) ?_
  refine q_ucall (j := 136) (ro := 30) (idx := 174) (as := []) (rest := [.int v]) (A0 := q_A0 s) ⟨hx, hb, hml, hown, hts⟩ hL.1.1 (by decide) (by decide) rfl hM rfl rfl (q_inAt ll_174 rfl) (by decide +kernel) (by decide +kernel) (by show cells ≤ 664929; omega) (by show slots ≤ 7101316; omega) (q_J_W hJg0) hSg0 (fun q z => hL.2.2.2.2.2 q (Or.inl z)) (fun U hU hWU => q_Law_sta hL hSg0 hU hWU) hl.1 rfl (Nat.le_of_ble_eq_true rfl) dl_1206 (fun G1 gl1 hG1 gz1 gk1 hSg1 => ?_)
  have hJg1 : va_P D qCl (q_J ad cI cZ cQ aO cL h2 o) G1 := q_J_mk hG1 (by rw [gk1 aO (Array.getElem?_eq_some_iff.mp (q_J_O hJg0)).1 hL.2.2.2.2.1]; exact q_J_O hJg0)
  refine lv_icmp_eq hx hb dl_1209 rfl (fun _ => ?_) (fun hc9 => absurd rfl hc9)
  refine W.widen (k := cells + 1) (n := slots + 6) (by omega) (by omega) ?_
  exact kk _ _ _ hl hJg1 hSg1

