/-! THE LOOP AND ITS END. -/
set_option maxHeartbeats 8000000 in
theorem law_loop {p : Program} {l : Launch} {e : Env} {s : State} {m : MethodId} {below : List Frame} {meth : Method} {c : Code} {D : va_G} {ad : Nat → Nat} {cI cZ cQ cL : ClassId} {aO b Ln : Nat} {xs : Nat → Int32} {I : HP → Prop} (hfl : ∀ e : Env, l.admits e → e.platform.stackTraces = false) (hx : p.tables.exec = Jvm.exec) (hb : c.code = code) (hml : c.maxLocals = 7) (hr : meth.sig.returnType = ret) (hlk : meth.locks = false) (hown : s.vm.findClass "CashRecyclerLaw" = some m.cls) (hts : ∀ w ∈ q_WS, w.before #[Value.ref b] s = true) (hX : va_X b Ln xs s s.heap) (hbl : b < s.heap.size) (hL : q_Law D ad cI cZ cQ aO cL s) (hLn : Ln ≤ 1536) (hAll : q_All I) :
    ∀ (n i cells slots : Nat) (h : HP) (o : Int64) (H : Heap) (locs : List Loc) (ls : Array Slot), Ln ≤ i + n → i ≤ Ln + 2 → cells + n + 1 ≤ 664929 → slots + 6 * n + 6 ≤ 7101316 → I h → lv_has ls 7 [(0, .ref b), (1, .ref (ad 0)), (2, .ref (ad 30)), (3, .ref aO), (4, .int (nI i))] → va_P D qCl (q_J ad cI cZ cQ aO cL h o) H → va_S (q_A0 s) s.heap H locs → W p l e room_1 s m #[Value.ref b] below meth c H locs cells slots (lw_Z below #[Value.ref b] s) (F0 m 23 ls []) := by
  intro n
  induction n using Nat.strongRecOn with
  | _ n ih =>
    intro i cells slots h o H locs ls hn hi2 hc hs hI hl hJ hS
    refine lv_iload hx hb dl_23 (lv_at hl 4 rfl) ?_
    refine lv_aload_n hx hb dl_25 rfl (lv_at hl 0 rfl) ?_
    refine va_slen hx hb hX hbl (fun z => by have : s.heap.size ≤ b := z; omega) hS dl_26 ?_
    refine lv_iconst (v := 3) hx hb dl_27 (by decide) ?_
    refine lv_isub hx hb dl_28 ?_
    refine lv_icmp_gt hx hb dl_29 rfl (fun hgt => ?_) (fun hgt => ?_)
    · refine lv_iconst (v := 1) hx hb dl_1220 (by decide) ?_
      refine va_forget hS.2.2 ?_
      refine W.widen (k := 664929) (n := 7101316) (by omega) (by omega) ?_
      exact lw_ret hx hb hr hlk dl_1221
    · have hlt : i + 2 < Ln := by
        have e1 : (Int32.ofNat Ln - 3 : Int32) = nI Ln - nI 3 := rfl
        rw [e1] at hgt
        by_cases h3 : Ln < 3
        · exfalso
          apply hgt
          rw [Int32.lt_iff_toInt_lt, pk_sub_toInt (by omega) (by decide), nI_toInt (by omega)]
          omega
        · rw [Int32.lt_iff_toInt_lt, pk_sub_toInt (by omega) (by decide), nI_toInt (by omega)] at hgt
          omega
      have hend : ∀ (h' : HP) (o' : Int64) (ls' : Array Slot) (H' : Heap) (locs' : List Loc), I h' → lv_has ls' 7 [(0, .ref b), (1, .ref (ad 0)), (2, .ref (ad 30)), (3, .ref aO), (4, .int (nI i))] → va_P D qCl (q_J ad cI cZ cQ aO cL h' o') H' → va_S (q_A0 s) s.heap H' locs' → W p l e room_1 s m #[Value.ref b] below meth c H' locs' (cells + 1) (slots + 6) (lw_Z below #[Value.ref b] s) (F0 m 1214 ls' []) := by
        intro h' o' ls' H' locs' hI' hl' hJ' hS'
        refine lv_iinc (k := 4) hx hb dl_1214 hl' rfl rfl (by decide) rfl (fun ls2 hl2 => ?_)
        refine lv_goto hx hb dl_1217 rfl ?_
        have e3 : nI i + Int32.ofInt 3 = nI (i + 3) := nI_add i 3
        have hl3 : lv_has ls2 7 [(0, .ref b), (1, .ref (ad 0)), (2, .ref (ad 30)), (3, .ref aO), (4, .int (nI (i + 3)))] := by
          rw [← e3]
          exact lv_sub hl2 [1, 2, 3, 4, 0] rfl
        exact ih (n - 3) (by omega) (i + 3) (cells + 1) (slots + 6) h' o' H' locs' ls2 (by omega) (by omega) (by omega) (by omega) hI' hl3 hJ' hS'
      obtain ⟨op0, op1, op2, op3, op4, op5, op6, op7, op8, op9, op10, op11, op12, op13, op14, op15, op16, op17, op18, op19, op20, op21, op22, op23⟩ := hAll
      refine lv_aload_n hx hb dl_32 rfl (lv_at hl 0 rfl) ?_
      refine lv_iload hx hb dl_33 (lv_at hl 4 rfl) ?_
      refine va_sld hx hb hX hbl (fun z => by have : s.heap.size ≤ b := z; omega) hS (nI_in (by omega) (by omega)) dl_35 ?_
      refine lv_bipush (v := 31) hx hb dl_36 (by decide) ?_
      refine lv_iand hx hb dl_38 ?_
      obtain ⟨j, hj, ej⟩ := pk_andE (xs (nI i).toNatClampNeg) (m := 31) 5 (by decide)
      rw [ej]
      have hj' : (nI j).toInt = (j : Int) := nI_toInt (by omega)
      by_cases hbig : 24 ≤ j
      · refine lv_tableOut (tgt := 1214) hx hb dl_39 (Or.inr (by rw [hj']; omega)) rfl ?_
        refine W.widen (k := cells + 1) (n := slots + 6) (by omega) (by omega) ?_
        exact hend h o ls H locs hI hl hJ hS
      · rcases (show j = 0 ∨ j = 1 ∨ j = 2 ∨ j = 3 ∨ j = 4 ∨ j = 5 ∨ j = 6 ∨ j = 7 ∨ j = 8 ∨ j = 9 ∨ j = 10 ∨ j = 11 ∨ j = 12 ∨ j = 13 ∨ j = 14 ∨ j = 15 ∨ j = 16 ∨ j = 17 ∨ j = 18 ∨ j = 19 ∨ j = 20 ∨ j = 21 ∨ j = 22 ∨ j = 23 by omega) with rfl | rfl | rfl | rfl | rfl | rfl | rfl | rfl | rfl | rfl | rfl | rfl | rfl | rfl | rfl | rfl | rfl | rfl | rfl | rfl | rfl | rfl | rfl | rfl
        · refine lv_tableIn (off := 109) (tgt := 148) hx hb dl_39 (by rw [hj']; decide) (by rw [hj']; decide) (by rw [hj']; rfl) rfl ?_
          exact lk_insert hfl hx hb hml hown hts hX hbl hL hlt hLn (by omega) (by omega) hl hJ hS hI (op0 (xs (i + 1))) hend
        · refine lv_tableIn (off := 165) (tgt := 204) hx hb dl_39 (by rw [hj']; decide) (by rw [hj']; decide) (by rw [hj']; rfl) rfl ?_
          exact lk_verdict hfl hx hb hml hown hts hX hbl hL hlt hLn (by omega) (by omega) hl hJ hS hI (op1 (xs (i + 1))) hend
        · refine lv_tableIn (off := 221) (tgt := 260) hx hb dl_39 (by rw [hj']; decide) (by rw [hj']; decide) (by rw [hj']; rfl) rfl ?_
          exact lk_deposit hfl hx hb hml hown hts hX hbl hL hlt hLn (by omega) (by omega) hl hJ hS hI (op2) hend
        · refine lv_tableIn (off := 245) (tgt := 284) hx hb dl_39 (by rw [hj']; decide) (by rw [hj']; decide) (by rw [hj']; rfl) rfl ?_
          exact lk_confirm hfl hx hb hml hown hts hX hbl hL hlt hLn (by omega) (by omega) hl hJ hS hI (op3) hend
        · refine lv_tableIn (off := 269) (tgt := 308) hx hb dl_39 (by rw [hj']; decide) (by rw [hj']; decide) (by rw [hj']; rfl) rfl ?_
          exact lk_giveBack hfl hx hb hml hown hts hX hbl hL hlt hLn (by omega) (by omega) hl hJ hS hI (op4) hend
        · refine lv_tableIn (off := 293) (tgt := 332) hx hb dl_39 (by rw [hj']; decide) (by rw [hj']; decide) (by rw [hj']; rfl) rfl ?_
          exact lk_payout hfl hx hb hml hown hts hX hbl hL hlt hLn (by omega) (by omega) hl hJ hS hI (op5 (xs (i + 1))) hend
        · refine lv_tableIn (off := 349) (tgt := 388) hx hb dl_39 (by rw [hj']; decide) (by rw [hj']; decide) (by rw [hj']; rfl) rfl ?_
          exact lk_plan hfl hx hb hml hown hts hX hbl hL hlt hLn (by omega) (by omega) hl hJ hS hI (op6 (xs (i + 1)) (xs (i + 2))) hend
        · refine lv_tableIn (off := 417) (tgt := 456) hx hb dl_39 (by rw [hj']; decide) (by rw [hj']; decide) (by rw [hj']; rfl) rfl ?_
          exact lk_step hfl hx hb hml hown hts hX hbl hL hlt hLn (by omega) (by omega) hl hJ hS hI (op7 (xs (i + 1))) hend
        · refine lv_tableIn (off := 473) (tgt := 512) hx hb dl_39 (by rw [hj']; decide) (by rw [hj']; decide) (by rw [hj']; rfl) rfl ?_
          exact lk_taken hfl hx hb hml hown hts hX hbl hL hlt hLn (by omega) (by omega) hl hJ hS hI (op8) hend
        · refine lv_tableIn (off := 486) (tgt := 525) hx hb dl_39 (by rw [hj']; decide) (by rw [hj']; decide) (by rw [hj']; rfl) rfl ?_
          exact lk_stick hfl hx hb hml hown hts hX hbl hL hlt hLn (by omega) (by omega) hl hJ hS hI (op9 (xs (i + 1))) hend
        · refine lv_tableIn (off := 522) (tgt := 561) hx hb dl_39 (by rw [hj']; decide) (by rw [hj']; decide) (by rw [hj']; rfl) rfl ?_
          exact lk_open hfl hx hb hml hown hts hX hbl hL hlt hLn (by omega) (by omega) hl hJ hS hI (op10) hend
        · refine lv_tableIn (off := 546) (tgt := 585) hx hb dl_39 (by rw [hj']; decide) (by rw [hj']; decide) (by rw [hj']; rfl) rfl ?_
          exact lk_remove hfl hx hb hml hown hts hX hbl hL hlt hLn (by omega) (by omega) hl hJ hS hI (op11 (xs (i + 1))) hend
        · refine lv_tableIn (off := 602) (tgt := 641) hx hb dl_39 (by rw [hj']; decide) (by rw [hj']; decide) (by rw [hj']; rfl) rfl ?_
          exact lk_free hfl hx hb hml hown hts hX hbl hL hlt hLn (by omega) (by omega) hl hJ hS hI (op12 (xs (i + 1))) hend
        · refine lv_tableIn (off := 665) (tgt := 704) hx hb dl_39 (by rw [hj']; decide) (by rw [hj']; decide) (by rw [hj']; rfl) rfl ?_
          exact lk_close hfl hx hb hml hown hts hX hbl hL hlt hLn (by omega) (by omega) hl hJ hS hI (op13) hend
        · refine lv_tableIn (off := 709) (tgt := 748) hx hb dl_39 (by rw [hj']; decide) (by rw [hj']; decide) (by rw [hj']; rfl) rfl ?_
          exact lk_power hfl hx hb hml hown hts hX hbl hL hlt hLn (by omega) (by omega) hl hJ hS hI (op14) hend
        · refine lv_tableIn (off := 722) (tgt := 761) hx hb dl_39 (by rw [hj']; decide) (by rw [hj']; decide) (by rw [hj']; rfl) rfl ?_
          exact lk_service hfl hx hb hml hown hts hX hbl hL hlt hLn (by omega) (by omega) hl hJ hS hI (op15) hend
        · refine lv_tableIn (off := 773) (tgt := 812) hx hb dl_39 (by rw [hj']; decide) (by rw [hj']; decide) (by rw [hj']; rfl) rfl ?_
          exact lk_kind hfl hx hb hml hown hts hX hbl hL hlt hLn (by omega) (by omega) hl hJ hS hI (op16 (xs (i + 1)) (xs (i + 2))) hend
        · refine lv_tableIn (off := 821) (tgt := 860) hx hb dl_39 (by rw [hj']; decide) (by rw [hj']; decide) (by rw [hj']; rfl) rfl ?_
          exact lk_refill hfl hx hb hml hown hts hX hbl hL hlt hLn (by omega) (by omega) hl hJ hS hI (op17 (xs (i + 1)) (xs (i + 2))) hend
        · refine lv_tableIn (off := 889) (tgt := 928) hx hb dl_39 (by rw [hj']; decide) (by rw [hj']; decide) (by rw [hj']; rfl) rfl ?_
          exact lk_empty hfl hx hb hml hown hts hX hbl hL hlt hLn (by omega) (by omega) hl hJ hS hI (op18 (xs (i + 1))) hend
        · refine lv_tableIn (off := 945) (tgt := 984) hx hb dl_39 (by rw [hj']; decide) (by rw [hj']; decide) (by rw [hj']; rfl) rfl ?_
          exact lk_state hfl hx hb hml hown hts hX hbl hL hlt hLn (by omega) (by omega) hl hJ hS hI (op19) hend
        · refine lv_tableIn (off := 958) (tgt := 997) hx hb dl_39 (by rw [hj']; decide) (by rw [hj']; decide) (by rw [hj']; rfl) rfl ?_
          exact lk_notes hfl hx hb hml hown hts hX hbl hL hlt hLn (by omega) (by omega) hl hJ hS hI (op20 (xs (i + 1)) (xs (i + 2))) hend
        · refine lv_tableIn (off := 1026) (tgt := 1065) hx hb dl_39 (by rw [hj']; decide) (by rw [hj']; decide) (by rw [hj']; rfl) rfl ?_
          exact lk_cassette hfl hx hb hml hown hts hX hbl hL hlt hLn (by omega) (by omega) hl hJ hS hI (op21 (xs (i + 1)) (xs (i + 2))) hend
        · refine lv_tableIn (off := 1094) (tgt := 1133) hx hb dl_39 (by rw [hj']; decide) (by rw [hj']; decide) (by rw [hj']; rfl) rfl ?_
          exact lk_belt hfl hx hb hml hown hts hX hbl hL hlt hLn (by omega) (by omega) hl hJ hS hI (op22 (xs (i + 1)) (xs (i + 2))) hend
        · refine lv_tableIn (off := 1162) (tgt := 1201) hx hb dl_39 (by rw [hj']; decide) (by rw [hj']; decide) (by rw [hj']; rfl) rfl ?_
          exact lk_balance hfl hx hb hml hown hts hX hbl hL hlt hLn (by omega) (by omega) hl hJ hS hI (op23) hend
